/-! reads and writes of each cell: printed by wip/gen/p20.py -/
section CELLS
variable {xs : List Int32} {s : xS}
theorem c_1 : x_cls (mkH xs s) 1 11 = true := mk_cls (by decide) (by decide) rfl
theorem f_1_0 : x_fl (mkH xs s) 1 11 0 = some (.ref 2) := mk_fl (by decide) (by decide) rfl rfl
theorem f_1_1 : x_fl (mkH xs s) 1 11 1 = some (.int (s.1 1 1)) := mk_fl (by decide) (by decide) rfl rfl
theorem p_1_1 (v : Int32) : x_fp (mkH xs s) 1 11 1 (.int v) = some (mkH xs (s_p s 1 1 v)) := mk_fp (by decide) (by decide) rfl (Nat.le_of_ble_eq_true rfl) (x_ok_int v) rfl s_p_o
theorem f_1_2 : x_fl (mkH xs s) 1 11 2 = some (.ref 13) := mk_fl (by decide) (by decide) rfl rfl
theorem f_1_3 : x_fl (mkH xs s) 1 11 3 = some (.ref 3) := mk_fl (by decide) (by decide) rfl rfl
theorem f_1_4 : x_fl (mkH xs s) 1 11 4 = some (.ref 9) := mk_fl (by decide) (by decide) rfl rfl
theorem f_1_5 : x_fl (mkH xs s) 1 11 5 = some (.ref 12) := mk_fl (by decide) (by decide) rfl rfl
theorem f_1_6 : x_fl (mkH xs s) 1 11 6 = some (.int (s.1 1 6)) := mk_fl (by decide) (by decide) rfl rfl
theorem p_1_6 (v : Int32) : x_fp (mkH xs s) 1 11 6 (.int v) = some (mkH xs (s_p s 1 6 v)) := mk_fp (by decide) (by decide) rfl (Nat.le_of_ble_eq_true rfl) (x_ok_int v) rfl s_p_o
theorem f_1_7 : x_fl (mkH xs s) 1 11 7 = some (.ref 20) := mk_fl (by decide) (by decide) rfl rfl
theorem f_1_8 : x_fl (mkH xs s) 1 11 8 = some (.ref 25) := mk_fl (by decide) (by decide) rfl rfl
theorem f_1_9 : x_fl (mkH xs s) 1 11 9 = some (.ref 31) := mk_fl (by decide) (by decide) rfl rfl
theorem f_1_10 : x_fl (mkH xs s) 1 11 10 = some (.ref 48) := mk_fl (by decide) (by decide) rfl rfl
theorem f_1_11 : x_fl (mkH xs s) 1 11 11 = some (.ref 65) := mk_fl (by decide) (by decide) rfl rfl
theorem f_1_12 : x_fl (mkH xs s) 1 11 12 = some (.ref 72) := mk_fl (by decide) (by decide) rfl rfl
theorem f_1_13 : x_fl (mkH xs s) 1 11 13 = some (.ref 76) := mk_fl (by decide) (by decide) rfl rfl
theorem f_1_14 : x_fl (mkH xs s) 1 11 14 = some (.ref 85) := mk_fl (by decide) (by decide) rfl rfl
theorem e_2 (i : Int32) : x_be (mkH xs s) 2 i = x_rd (s.1 2) 900 i := mk_be (kd := 1) (by decide) (by decide) (Or.inl rfl) (fun _ => rfl) i
theorem i_2 (i v : Int32) : x_bp (mkH xs s) 2 i v = (x_rd (s.1 2) 900 i).map (fun _ => mkH xs (s_p s 2 i.toNatClampNeg (x_nr 1 v))) := mk_bp (kd := 1) (by decide) (by decide) (Or.inl rfl) (fun _ => rfl) i v
theorem c_3 : x_cls (mkH xs s) 3 9 = true := mk_cls (by decide) (by decide) rfl
theorem f_3_0 : x_fl (mkH xs s) 3 9 0 = some (.int (s.1 3 0)) := mk_fl (by decide) (by decide) rfl rfl
theorem p_3_0 (v : Int32) : x_fp (mkH xs s) 3 9 0 (.int v) = some (mkH xs (s_p s 3 0 v)) := mk_fp (by decide) (by decide) rfl (Nat.le_of_ble_eq_true rfl) (x_ok_int v) rfl s_p_o
theorem f_3_1 : x_fl (mkH xs s) 3 9 1 = some (.int (s.1 3 1)) := mk_fl (by decide) (by decide) rfl rfl
theorem p_3_1 (v : Int32) : x_fp (mkH xs s) 3 9 1 (.int v) = some (mkH xs (s_p s 3 1 v)) := mk_fp (by decide) (by decide) rfl (Nat.le_of_ble_eq_true rfl) (x_ok_int v) rfl s_p_o
theorem f_3_2 : x_fl (mkH xs s) 3 9 2 = some (.int (s.1 3 2)) := mk_fl (by decide) (by decide) rfl rfl
theorem p_3_2 (v : Int32) : x_fp (mkH xs s) 3 9 2 (.int v) = some (mkH xs (s_p s 3 2 v)) := mk_fp (by decide) (by decide) rfl (Nat.le_of_ble_eq_true rfl) (x_ok_int v) rfl s_p_o
theorem f_3_3 : x_fl (mkH xs s) 3 9 3 = some (.int (s.1 3 3)) := mk_fl (by decide) (by decide) rfl rfl
theorem p_3_3 (v : Int32) : x_fp (mkH xs s) 3 9 3 (.int v) = some (mkH xs (s_p s 3 3 v)) := mk_fp (by decide) (by decide) rfl (Nat.le_of_ble_eq_true rfl) (x_ok_int v) rfl s_p_o
theorem f_3_4 : x_fl (mkH xs s) 3 9 4 = some (.int (s.1 3 4)) := mk_fl (by decide) (by decide) rfl rfl
theorem p_3_4 (v : Int32) : x_fp (mkH xs s) 3 9 4 (.int v) = some (mkH xs (s_p s 3 4 v)) := mk_fp (by decide) (by decide) rfl (Nat.le_of_ble_eq_true rfl) (x_ok_int v) rfl s_p_o
theorem f_3_5 : x_fl (mkH xs s) 3 9 5 = some (.int (s.1 3 5)) := mk_fl (by decide) (by decide) rfl rfl
theorem p_3_5 (v : Int32) : x_fp (mkH xs s) 3 9 5 (.int v) = some (mkH xs (s_p s 3 5 v)) := mk_fp (by decide) (by decide) rfl (Nat.le_of_ble_eq_true rfl) (x_ok_int v) rfl s_p_o
theorem f_3_6 : x_fl (mkH xs s) 3 9 6 = some (.int (s.1 3 6)) := mk_fl (by decide) (by decide) rfl rfl
theorem p_3_6 (v : Int32) : x_fp (mkH xs s) 3 9 6 (.int v) = some (mkH xs (s_p s 3 6 v)) := mk_fp (by decide) (by decide) rfl (Nat.le_of_ble_eq_true rfl) (x_ok_int v) rfl s_p_o
theorem f_3_7 : x_fl (mkH xs s) 3 9 7 = some (.int (s.1 3 7)) := mk_fl (by decide) (by decide) rfl rfl
theorem p_3_7 (v : Int32) : x_fp (mkH xs s) 3 9 7 (.int v) = some (mkH xs (s_p s 3 7 v)) := mk_fp (by decide) (by decide) rfl (Nat.le_of_ble_eq_true rfl) (x_ok_int v) rfl s_p_o
theorem f_3_8 : x_fl (mkH xs s) 3 9 8 = some (.int (s.1 3 8)) := mk_fl (by decide) (by decide) rfl rfl
theorem p_3_8 (v : Int32) : x_fp (mkH xs s) 3 9 8 (.int v) = some (mkH xs (s_p s 3 8 v)) := mk_fp (by decide) (by decide) rfl (Nat.le_of_ble_eq_true rfl) (x_ok_int v) rfl s_p_o
theorem f_3_9 : x_fl (mkH xs s) 3 9 9 = some (.ref 4) := mk_fl (by decide) (by decide) rfl rfl
theorem f_3_10 : x_fl (mkH xs s) 3 9 10 = some (.ref 5) := mk_fl (by decide) (by decide) rfl rfl
theorem f_3_11 : x_fl (mkH xs s) 3 9 11 = some (.ref 6) := mk_fl (by decide) (by decide) rfl rfl
theorem f_3_12 : x_fl (mkH xs s) 3 9 12 = some (.ref 7) := mk_fl (by decide) (by decide) rfl rfl
theorem f_3_13 : x_fl (mkH xs s) 3 9 13 = some (.ref 8) := mk_fl (by decide) (by decide) rfl rfl
theorem e_4 (i : Int32) : x_ie (mkH xs s) 4 i = x_rd (s.1 4) 6 i := mk_ie (kd := 0) (by decide) (by decide) (Or.inl rfl) (fun _ => rfl) i
theorem i_4 (i v : Int32) : x_ip (mkH xs s) 4 i v = (x_rd (s.1 4) 6 i).map (fun _ => mkH xs (s_p s 4 i.toNatClampNeg v)) := mk_ip (by decide) (by decide) (fun _ => rfl) i v
theorem e_5 (i : Int32) : x_ie (mkH xs s) 5 i = x_rd (s.1 5) 6 i := mk_ie (kd := 0) (by decide) (by decide) (Or.inl rfl) (fun _ => rfl) i
theorem i_5 (i v : Int32) : x_ip (mkH xs s) 5 i v = (x_rd (s.1 5) 6 i).map (fun _ => mkH xs (s_p s 5 i.toNatClampNeg v)) := mk_ip (by decide) (by decide) (fun _ => rfl) i v
theorem e_6 (i : Int32) : x_ie (mkH xs s) 6 i = x_rd (s.1 6) 16 i := mk_ie (kd := 0) (by decide) (by decide) (Or.inl rfl) (fun _ => rfl) i
theorem i_6 (i v : Int32) : x_ip (mkH xs s) 6 i v = (x_rd (s.1 6) 16 i).map (fun _ => mkH xs (s_p s 6 i.toNatClampNeg v)) := mk_ip (by decide) (by decide) (fun _ => rfl) i v
theorem e_7 (i : Int32) : x_ie (mkH xs s) 7 i = x_rd (s.1 7) 8 i := mk_ie (kd := 0) (by decide) (by decide) (Or.inl rfl) (fun _ => rfl) i
theorem i_7 (i v : Int32) : x_ip (mkH xs s) 7 i v = (x_rd (s.1 7) 8 i).map (fun _ => mkH xs (s_p s 7 i.toNatClampNeg v)) := mk_ip (by decide) (by decide) (fun _ => rfl) i v
theorem e_8 (i : Int32) : x_ie (mkH xs s) 8 i = x_rd (s.1 8) 48 i := mk_ie (kd := 0) (by decide) (by decide) (Or.inl rfl) (fun _ => rfl) i
theorem i_8 (i v : Int32) : x_ip (mkH xs s) 8 i v = (x_rd (s.1 8) 48 i).map (fun _ => mkH xs (s_p s 8 i.toNatClampNeg v)) := mk_ip (by decide) (by decide) (fun _ => rfl) i v
theorem c_9 : x_cls (mkH xs s) 9 8 = true := mk_cls (by decide) (by decide) rfl
theorem f_9_0 : x_fl (mkH xs s) 9 8 0 = some (.ref 3) := mk_fl (by decide) (by decide) rfl rfl
theorem f_9_1 : x_fl (mkH xs s) 9 8 1 = some (.int (s.1 9 1)) := mk_fl (by decide) (by decide) rfl rfl
theorem p_9_1 (v : Int32) : x_fp (mkH xs s) 9 8 1 (.int v) = some (mkH xs (s_p s 9 1 v)) := mk_fp (by decide) (by decide) rfl (Nat.le_of_ble_eq_true rfl) (x_ok_int v) rfl s_p_o
theorem f_9_2 : x_fl (mkH xs s) 9 8 2 = some (.int (s.1 9 2)) := mk_fl (by decide) (by decide) rfl rfl
theorem p_9_2 (v : Int32) : x_fp (mkH xs s) 9 8 2 (.int v) = some (mkH xs (s_p s 9 2 v)) := mk_fp (by decide) (by decide) rfl (Nat.le_of_ble_eq_true rfl) (x_ok_int v) rfl s_p_o
theorem f_9_3 : x_fl (mkH xs s) 9 8 3 = some (.int (s.1 9 3)) := mk_fl (by decide) (by decide) rfl rfl
theorem p_9_3 (v : Int32) : x_fp (mkH xs s) 9 8 3 (.int v) = some (mkH xs (s_p s 9 3 v)) := mk_fp (by decide) (by decide) rfl (Nat.le_of_ble_eq_true rfl) (x_ok_int v) rfl s_p_o
theorem f_9_4 : x_fl (mkH xs s) 9 8 4 = some (.int (s.1 9 4)) := mk_fl (by decide) (by decide) rfl rfl
theorem p_9_4 (v : Int32) : x_fp (mkH xs s) 9 8 4 (.int v) = some (mkH xs (s_p s 9 4 v)) := mk_fp (by decide) (by decide) rfl (Nat.le_of_ble_eq_true rfl) (x_ok_int v) rfl s_p_o
theorem f_9_5 : x_fl (mkH xs s) 9 8 5 = some (.ref 10) := mk_fl (by decide) (by decide) rfl rfl
theorem f_9_6 : x_fl (mkH xs s) 9 8 6 = some (.ref 11) := mk_fl (by decide) (by decide) rfl rfl
theorem e_10 (i : Int32) : x_ie (mkH xs s) 10 i = x_rd (s.1 10) 8 i := mk_ie (kd := 0) (by decide) (by decide) (Or.inl rfl) (fun _ => rfl) i
theorem i_10 (i v : Int32) : x_ip (mkH xs s) 10 i v = (x_rd (s.1 10) 8 i).map (fun _ => mkH xs (s_p s 10 i.toNatClampNeg v)) := mk_ip (by decide) (by decide) (fun _ => rfl) i v
theorem e_11 (i : Int32) : x_ie (mkH xs s) 11 i = x_rd (s.1 11) 6 i := mk_ie (kd := 0) (by decide) (by decide) (Or.inl rfl) (fun _ => rfl) i
theorem i_11 (i v : Int32) : x_ip (mkH xs s) 11 i v = (x_rd (s.1 11) 6 i).map (fun _ => mkH xs (s_p s 11 i.toNatClampNeg v)) := mk_ip (by decide) (by decide) (fun _ => rfl) i v
theorem e_12 (i : Int32) : x_ie (mkH xs s) 12 i = x_rd (s.1 12) 60 i := mk_ie (kd := 0) (by decide) (by decide) (Or.inl rfl) (fun _ => rfl) i
theorem i_12 (i v : Int32) : x_ip (mkH xs s) 12 i v = (x_rd (s.1 12) 60 i).map (fun _ => mkH xs (s_p s 12 i.toNatClampNeg v)) := mk_ip (by decide) (by decide) (fun _ => rfl) i v
theorem c_13 : x_cls (mkH xs s) 13 4 = true := mk_cls (by decide) (by decide) rfl
theorem f_13_0 : x_fl (mkH xs s) 13 4 0 = some (.ref 2) := mk_fl (by decide) (by decide) rfl rfl
theorem f_13_1 : x_fl (mkH xs s) 13 4 1 = some (.ref 14) := mk_fl (by decide) (by decide) rfl rfl
theorem f_13_2 : x_fl (mkH xs s) 13 4 2 = some (.int (s.1 13 2)) := mk_fl (by decide) (by decide) rfl rfl
theorem p_13_2 (v : Int32) : x_fp (mkH xs s) 13 4 2 (.int v) = some (mkH xs (s_p s 13 2 v)) := mk_fp (by decide) (by decide) rfl (Nat.le_of_ble_eq_true rfl) (x_ok_int v) rfl s_p_o
theorem f_13_3 : x_fl (mkH xs s) 13 4 3 = some (.int (s.1 13 3)) := mk_fl (by decide) (by decide) rfl rfl
theorem p_13_3 (v : Int32) : x_fp (mkH xs s) 13 4 3 (.int v) = some (mkH xs (s_p s 13 3 v)) := mk_fp (by decide) (by decide) rfl (Nat.le_of_ble_eq_true rfl) (x_ok_int v) rfl s_p_o
theorem f_13_4 : x_fl (mkH xs s) 13 4 4 = some (.int (s.1 13 4)) := mk_fl (by decide) (by decide) rfl rfl
theorem p_13_4 (v : Int32) : x_fp (mkH xs s) 13 4 4 (.int v) = some (mkH xs (s_p s 13 4 v)) := mk_fp (by decide) (by decide) rfl (Nat.le_of_ble_eq_true rfl) (x_ok_int v) rfl s_p_o
theorem f_13_5 : x_fl (mkH xs s) 13 4 5 = some (.int (s.1 13 5)) := mk_fl (by decide) (by decide) rfl rfl
theorem p_13_5 (v : Int32) : x_fp (mkH xs s) 13 4 5 (.int v) = some (mkH xs (s_p s 13 5 v)) := mk_fp (by decide) (by decide) rfl (Nat.le_of_ble_eq_true rfl) (x_ok_int v) rfl s_p_o
theorem f_13_6 : x_fl (mkH xs s) 13 4 6 = some (.int (s.1 13 6)) := mk_fl (by decide) (by decide) rfl rfl
theorem p_13_6 (v : Int32) : x_fp (mkH xs s) 13 4 6 (.int v) = some (mkH xs (s_p s 13 6 v)) := mk_fp (by decide) (by decide) rfl (Nat.le_of_ble_eq_true rfl) (x_ok_int v) rfl s_p_o
theorem f_13_7 : x_fl (mkH xs s) 13 4 7 = some (.int (s.1 13 7)) := mk_fl (by decide) (by decide) rfl rfl
theorem p_13_7 (v : Int32) : x_fp (mkH xs s) 13 4 7 (.int v) = some (mkH xs (s_p s 13 7 v)) := mk_fp (by decide) (by decide) rfl (Nat.le_of_ble_eq_true rfl) (x_ok_int v) rfl s_p_o
theorem c_14 : x_cls (mkH xs s) 14 9 = true := mk_cls (by decide) (by decide) rfl
theorem f_14_0 : x_fl (mkH xs s) 14 9 0 = some (.int (s.1 14 0)) := mk_fl (by decide) (by decide) rfl rfl
theorem p_14_0 (v : Int32) : x_fp (mkH xs s) 14 9 0 (.int v) = some (mkH xs (s_p s 14 0 v)) := mk_fp (by decide) (by decide) rfl (Nat.le_of_ble_eq_true rfl) (x_ok_int v) rfl s_p_o
theorem f_14_1 : x_fl (mkH xs s) 14 9 1 = some (.int (s.1 14 1)) := mk_fl (by decide) (by decide) rfl rfl
theorem p_14_1 (v : Int32) : x_fp (mkH xs s) 14 9 1 (.int v) = some (mkH xs (s_p s 14 1 v)) := mk_fp (by decide) (by decide) rfl (Nat.le_of_ble_eq_true rfl) (x_ok_int v) rfl s_p_o
theorem f_14_2 : x_fl (mkH xs s) 14 9 2 = some (.int (s.1 14 2)) := mk_fl (by decide) (by decide) rfl rfl
theorem p_14_2 (v : Int32) : x_fp (mkH xs s) 14 9 2 (.int v) = some (mkH xs (s_p s 14 2 v)) := mk_fp (by decide) (by decide) rfl (Nat.le_of_ble_eq_true rfl) (x_ok_int v) rfl s_p_o
theorem f_14_3 : x_fl (mkH xs s) 14 9 3 = some (.int (s.1 14 3)) := mk_fl (by decide) (by decide) rfl rfl
theorem p_14_3 (v : Int32) : x_fp (mkH xs s) 14 9 3 (.int v) = some (mkH xs (s_p s 14 3 v)) := mk_fp (by decide) (by decide) rfl (Nat.le_of_ble_eq_true rfl) (x_ok_int v) rfl s_p_o
theorem f_14_4 : x_fl (mkH xs s) 14 9 4 = some (.int (s.1 14 4)) := mk_fl (by decide) (by decide) rfl rfl
theorem p_14_4 (v : Int32) : x_fp (mkH xs s) 14 9 4 (.int v) = some (mkH xs (s_p s 14 4 v)) := mk_fp (by decide) (by decide) rfl (Nat.le_of_ble_eq_true rfl) (x_ok_int v) rfl s_p_o
theorem f_14_5 : x_fl (mkH xs s) 14 9 5 = some (.int (s.1 14 5)) := mk_fl (by decide) (by decide) rfl rfl
theorem p_14_5 (v : Int32) : x_fp (mkH xs s) 14 9 5 (.int v) = some (mkH xs (s_p s 14 5 v)) := mk_fp (by decide) (by decide) rfl (Nat.le_of_ble_eq_true rfl) (x_ok_int v) rfl s_p_o
theorem f_14_6 : x_fl (mkH xs s) 14 9 6 = some (.int (s.1 14 6)) := mk_fl (by decide) (by decide) rfl rfl
theorem p_14_6 (v : Int32) : x_fp (mkH xs s) 14 9 6 (.int v) = some (mkH xs (s_p s 14 6 v)) := mk_fp (by decide) (by decide) rfl (Nat.le_of_ble_eq_true rfl) (x_ok_int v) rfl s_p_o
theorem f_14_7 : x_fl (mkH xs s) 14 9 7 = some (.int (s.1 14 7)) := mk_fl (by decide) (by decide) rfl rfl
theorem p_14_7 (v : Int32) : x_fp (mkH xs s) 14 9 7 (.int v) = some (mkH xs (s_p s 14 7 v)) := mk_fp (by decide) (by decide) rfl (Nat.le_of_ble_eq_true rfl) (x_ok_int v) rfl s_p_o
theorem f_14_8 : x_fl (mkH xs s) 14 9 8 = some (.int (s.1 14 8)) := mk_fl (by decide) (by decide) rfl rfl
theorem p_14_8 (v : Int32) : x_fp (mkH xs s) 14 9 8 (.int v) = some (mkH xs (s_p s 14 8 v)) := mk_fp (by decide) (by decide) rfl (Nat.le_of_ble_eq_true rfl) (x_ok_int v) rfl s_p_o
theorem f_14_9 : x_fl (mkH xs s) 14 9 9 = some (.ref 15) := mk_fl (by decide) (by decide) rfl rfl
theorem f_14_10 : x_fl (mkH xs s) 14 9 10 = some (.ref 16) := mk_fl (by decide) (by decide) rfl rfl
theorem f_14_11 : x_fl (mkH xs s) 14 9 11 = some (.ref 17) := mk_fl (by decide) (by decide) rfl rfl
theorem f_14_12 : x_fl (mkH xs s) 14 9 12 = some (.ref 18) := mk_fl (by decide) (by decide) rfl rfl
theorem f_14_13 : x_fl (mkH xs s) 14 9 13 = some (.ref 19) := mk_fl (by decide) (by decide) rfl rfl
theorem e_15 (i : Int32) : x_ie (mkH xs s) 15 i = x_rd (s.1 15) 6 i := mk_ie (kd := 0) (by decide) (by decide) (Or.inl rfl) (fun _ => rfl) i
theorem i_15 (i v : Int32) : x_ip (mkH xs s) 15 i v = (x_rd (s.1 15) 6 i).map (fun _ => mkH xs (s_p s 15 i.toNatClampNeg v)) := mk_ip (by decide) (by decide) (fun _ => rfl) i v
theorem e_16 (i : Int32) : x_ie (mkH xs s) 16 i = x_rd (s.1 16) 6 i := mk_ie (kd := 0) (by decide) (by decide) (Or.inl rfl) (fun _ => rfl) i
theorem i_16 (i v : Int32) : x_ip (mkH xs s) 16 i v = (x_rd (s.1 16) 6 i).map (fun _ => mkH xs (s_p s 16 i.toNatClampNeg v)) := mk_ip (by decide) (by decide) (fun _ => rfl) i v
theorem e_17 (i : Int32) : x_ie (mkH xs s) 17 i = x_rd (s.1 17) 16 i := mk_ie (kd := 0) (by decide) (by decide) (Or.inl rfl) (fun _ => rfl) i
theorem i_17 (i v : Int32) : x_ip (mkH xs s) 17 i v = (x_rd (s.1 17) 16 i).map (fun _ => mkH xs (s_p s 17 i.toNatClampNeg v)) := mk_ip (by decide) (by decide) (fun _ => rfl) i v
theorem e_18 (i : Int32) : x_ie (mkH xs s) 18 i = x_rd (s.1 18) 8 i := mk_ie (kd := 0) (by decide) (by decide) (Or.inl rfl) (fun _ => rfl) i
theorem i_18 (i v : Int32) : x_ip (mkH xs s) 18 i v = (x_rd (s.1 18) 8 i).map (fun _ => mkH xs (s_p s 18 i.toNatClampNeg v)) := mk_ip (by decide) (by decide) (fun _ => rfl) i v
theorem e_19 (i : Int32) : x_ie (mkH xs s) 19 i = x_rd (s.1 19) 48 i := mk_ie (kd := 0) (by decide) (by decide) (Or.inl rfl) (fun _ => rfl) i
theorem i_19 (i v : Int32) : x_ip (mkH xs s) 19 i v = (x_rd (s.1 19) 48 i).map (fun _ => mkH xs (s_p s 19 i.toNatClampNeg v)) := mk_ip (by decide) (by decide) (fun _ => rfl) i v
theorem c_20 : x_cls (mkH xs s) 20 0 = true := mk_cls (by decide) (by decide) rfl
theorem f_20_0 : x_fl (mkH xs s) 20 0 0 = some (.ref 3) := mk_fl (by decide) (by decide) rfl rfl
theorem f_20_1 : x_fl (mkH xs s) 20 0 1 = some (.ref 22) := mk_fl (by decide) (by decide) rfl rfl
theorem f_20_2 : x_fl (mkH xs s) 20 0 2 = some (.ref 21) := mk_fl (by decide) (by decide) rfl rfl
theorem f_20_3 : x_fl (mkH xs s) 20 0 3 = some (.int (s.1 20 3)) := mk_fl (by decide) (by decide) rfl rfl
theorem p_20_3 (v : Int32) : x_fp (mkH xs s) 20 0 3 (.int v) = some (mkH xs (s_p s 20 3 v)) := mk_fp (by decide) (by decide) rfl (Nat.le_of_ble_eq_true rfl) (x_ok_int v) rfl s_p_o
theorem f_20_4 : x_fl (mkH xs s) 20 0 4 = some (.int (s.1 20 4)) := mk_fl (by decide) (by decide) rfl rfl
theorem p_20_4 (v : Int32) : x_fp (mkH xs s) 20 0 4 (.int v) = some (mkH xs (s_p s 20 4 v)) := mk_fp (by decide) (by decide) rfl (Nat.le_of_ble_eq_true rfl) (x_ok_int v) rfl s_p_o
theorem e_21 (i : Int32) : x_ie (mkH xs s) 21 i = x_rd (s.1 21) 80 i := mk_ie (kd := 0) (by decide) (by decide) (Or.inl rfl) (fun _ => rfl) i
theorem i_21 (i v : Int32) : x_ip (mkH xs s) 21 i v = (x_rd (s.1 21) 80 i).map (fun _ => mkH xs (s_p s 21 i.toNatClampNeg v)) := mk_ip (by decide) (by decide) (fun _ => rfl) i v
theorem c_22 : x_cls (mkH xs s) 22 8 = true := mk_cls (by decide) (by decide) rfl
theorem f_22_0 : x_fl (mkH xs s) 22 8 0 = some (.ref 3) := mk_fl (by decide) (by decide) rfl rfl
theorem f_22_1 : x_fl (mkH xs s) 22 8 1 = some (.int (s.1 22 1)) := mk_fl (by decide) (by decide) rfl rfl
theorem p_22_1 (v : Int32) : x_fp (mkH xs s) 22 8 1 (.int v) = some (mkH xs (s_p s 22 1 v)) := mk_fp (by decide) (by decide) rfl (Nat.le_of_ble_eq_true rfl) (x_ok_int v) rfl s_p_o
theorem f_22_2 : x_fl (mkH xs s) 22 8 2 = some (.int (s.1 22 2)) := mk_fl (by decide) (by decide) rfl rfl
theorem p_22_2 (v : Int32) : x_fp (mkH xs s) 22 8 2 (.int v) = some (mkH xs (s_p s 22 2 v)) := mk_fp (by decide) (by decide) rfl (Nat.le_of_ble_eq_true rfl) (x_ok_int v) rfl s_p_o
theorem f_22_3 : x_fl (mkH xs s) 22 8 3 = some (.int (s.1 22 3)) := mk_fl (by decide) (by decide) rfl rfl
theorem p_22_3 (v : Int32) : x_fp (mkH xs s) 22 8 3 (.int v) = some (mkH xs (s_p s 22 3 v)) := mk_fp (by decide) (by decide) rfl (Nat.le_of_ble_eq_true rfl) (x_ok_int v) rfl s_p_o
theorem f_22_4 : x_fl (mkH xs s) 22 8 4 = some (.int (s.1 22 4)) := mk_fl (by decide) (by decide) rfl rfl
theorem p_22_4 (v : Int32) : x_fp (mkH xs s) 22 8 4 (.int v) = some (mkH xs (s_p s 22 4 v)) := mk_fp (by decide) (by decide) rfl (Nat.le_of_ble_eq_true rfl) (x_ok_int v) rfl s_p_o
theorem f_22_5 : x_fl (mkH xs s) 22 8 5 = some (.ref 23) := mk_fl (by decide) (by decide) rfl rfl
theorem f_22_6 : x_fl (mkH xs s) 22 8 6 = some (.ref 24) := mk_fl (by decide) (by decide) rfl rfl
theorem e_23 (i : Int32) : x_ie (mkH xs s) 23 i = x_rd (s.1 23) 8 i := mk_ie (kd := 0) (by decide) (by decide) (Or.inl rfl) (fun _ => rfl) i
theorem i_23 (i v : Int32) : x_ip (mkH xs s) 23 i v = (x_rd (s.1 23) 8 i).map (fun _ => mkH xs (s_p s 23 i.toNatClampNeg v)) := mk_ip (by decide) (by decide) (fun _ => rfl) i v
theorem e_24 (i : Int32) : x_ie (mkH xs s) 24 i = x_rd (s.1 24) 6 i := mk_ie (kd := 0) (by decide) (by decide) (Or.inl rfl) (fun _ => rfl) i
theorem i_24 (i v : Int32) : x_ip (mkH xs s) 24 i v = (x_rd (s.1 24) 6 i).map (fun _ => mkH xs (s_p s 24 i.toNatClampNeg v)) := mk_ip (by decide) (by decide) (fun _ => rfl) i v
theorem c_25 : x_cls (mkH xs s) 25 5 = true := mk_cls (by decide) (by decide) rfl
theorem f_25_0 : x_fl (mkH xs s) 25 5 0 = some (.ref 3) := mk_fl (by decide) (by decide) rfl rfl
theorem f_25_1 : x_fl (mkH xs s) 25 5 1 = some (.ref 9) := mk_fl (by decide) (by decide) rfl rfl
theorem f_25_2 : x_fl (mkH xs s) 25 5 2 = some (.ref 26) := mk_fl (by decide) (by decide) rfl rfl
theorem f_25_3 : x_fl (mkH xs s) 25 5 3 = some (.ref 27) := mk_fl (by decide) (by decide) rfl rfl
theorem f_25_4 : x_fl (mkH xs s) 25 5 4 = some (.ref 28) := mk_fl (by decide) (by decide) rfl rfl
theorem f_25_5 : x_fl (mkH xs s) 25 5 5 = some (.ref 29) := mk_fl (by decide) (by decide) rfl rfl
theorem f_25_6 : x_fl (mkH xs s) 25 5 6 = some (.ref 30) := mk_fl (by decide) (by decide) rfl rfl
theorem f_25_7 : x_fl (mkH xs s) 25 5 7 = some (.int (s.1 25 7)) := mk_fl (by decide) (by decide) rfl rfl
theorem p_25_7 (v : Int32) : x_fp (mkH xs s) 25 5 7 (.int v) = some (mkH xs (s_p s 25 7 v)) := mk_fp (by decide) (by decide) rfl (Nat.le_of_ble_eq_true rfl) (x_ok_int v) rfl s_p_o
theorem e_26 (i : Int32) : x_ie (mkH xs s) 26 i = x_rd (s.1 26) 256 i := mk_ie (kd := 0) (by decide) (by decide) (Or.inl rfl) (fun _ => rfl) i
theorem i_26 (i v : Int32) : x_ip (mkH xs s) 26 i v = (x_rd (s.1 26) 256 i).map (fun _ => mkH xs (s_p s 26 i.toNatClampNeg v)) := mk_ip (by decide) (by decide) (fun _ => rfl) i v
theorem e_27 (i : Int32) : x_ie (mkH xs s) 27 i = x_rd (s.1 27) 8 i := mk_ie (kd := 0) (by decide) (by decide) (Or.inl rfl) (fun _ => rfl) i
theorem i_27 (i v : Int32) : x_ip (mkH xs s) 27 i v = (x_rd (s.1 27) 8 i).map (fun _ => mkH xs (s_p s 27 i.toNatClampNeg v)) := mk_ip (by decide) (by decide) (fun _ => rfl) i v
theorem e_28 (i : Int32) : x_ie (mkH xs s) 28 i = x_rd (s.1 28) 256 i := mk_ie (kd := 0) (by decide) (by decide) (Or.inl rfl) (fun _ => rfl) i
theorem i_28 (i v : Int32) : x_ip (mkH xs s) 28 i v = (x_rd (s.1 28) 256 i).map (fun _ => mkH xs (s_p s 28 i.toNatClampNeg v)) := mk_ip (by decide) (by decide) (fun _ => rfl) i v
theorem e_29 (i : Int32) : x_ie (mkH xs s) 29 i = x_rd (s.1 29) 1536 i := mk_ie (kd := 0) (by decide) (by decide) (Or.inl rfl) (fun _ => rfl) i
theorem i_29 (i v : Int32) : x_ip (mkH xs s) 29 i v = (x_rd (s.1 29) 1536 i).map (fun _ => mkH xs (s_p s 29 i.toNatClampNeg v)) := mk_ip (by decide) (by decide) (fun _ => rfl) i v
theorem e_30 (i : Int32) : x_ie (mkH xs s) 30 i = x_rd (s.1 30) 8 i := mk_ie (kd := 0) (by decide) (by decide) (Or.inl rfl) (fun _ => rfl) i
theorem i_30 (i v : Int32) : x_ip (mkH xs s) 30 i v = (x_rd (s.1 30) 8 i).map (fun _ => mkH xs (s_p s 30 i.toNatClampNeg v)) := mk_ip (by decide) (by decide) (fun _ => rfl) i v
theorem c_31 : x_cls (mkH xs s) 31 1 = true := mk_cls (by decide) (by decide) rfl
theorem f_31_0 : x_fl (mkH xs s) 31 1 0 = some (.ref 3) := mk_fl (by decide) (by decide) rfl rfl
theorem f_31_1 : x_fl (mkH xs s) 31 1 1 = some (.ref 32) := mk_fl (by decide) (by decide) rfl rfl
theorem f_31_2 : x_fl (mkH xs s) 31 1 2 = some (.int (s.1 31 2)) := mk_fl (by decide) (by decide) rfl rfl
theorem p_31_2 (v : Int32) : x_fp (mkH xs s) 31 1 2 (.int v) = some (mkH xs (s_p s 31 2 v)) := mk_fp (by decide) (by decide) rfl (Nat.le_of_ble_eq_true rfl) (x_ok_int v) rfl s_p_o
theorem f_31_3 : x_fl (mkH xs s) 31 1 3 = some (.int (s.1 31 3)) := mk_fl (by decide) (by decide) rfl rfl
theorem p_31_3 (v : Int32) : x_fp (mkH xs s) 31 1 3 (.int v) = some (mkH xs (s_p s 31 3 v)) := mk_fp (by decide) (by decide) rfl (Nat.le_of_ble_eq_true rfl) (x_ok_int v) rfl s_p_o
theorem f_31_4 : x_fl (mkH xs s) 31 1 4 = some (.int (s.1 31 4)) := mk_fl (by decide) (by decide) rfl rfl
theorem p_31_4 (v : Int32) : x_fp (mkH xs s) 31 1 4 (.int v) = some (mkH xs (s_p s 31 4 v)) := mk_fp (by decide) (by decide) rfl (Nat.le_of_ble_eq_true rfl) (x_ok_int v) rfl s_p_o
theorem f_31_5 : x_fl (mkH xs s) 31 1 5 = some (.int (s.1 31 5)) := mk_fl (by decide) (by decide) rfl rfl
theorem p_31_5 (v : Int32) : x_fp (mkH xs s) 31 1 5 (.int v) = some (mkH xs (s_p s 31 5 v)) := mk_fp (by decide) (by decide) rfl (Nat.le_of_ble_eq_true rfl) (x_ok_int v) rfl s_p_o
theorem e_32 (i : Int32) : x_qe (mkH xs s) 32 i = x_rd (fun k => 33 + 3 * k) 5 i := mk_qe (kd := 4) (by decide) (by decide) (by decide) rfl i
theorem c_33 : x_cls (mkH xs s) 33 8 = true := mk_cls (by decide) (by decide) rfl
theorem f_33_0 : x_fl (mkH xs s) 33 8 0 = some (.ref 3) := mk_fl (by decide) (by decide) rfl rfl
theorem f_33_1 : x_fl (mkH xs s) 33 8 1 = some (.int (s.1 33 1)) := mk_fl (by decide) (by decide) rfl rfl
theorem p_33_1 (v : Int32) : x_fp (mkH xs s) 33 8 1 (.int v) = some (mkH xs (s_p s 33 1 v)) := mk_fp (by decide) (by decide) rfl (Nat.le_of_ble_eq_true rfl) (x_ok_int v) rfl s_p_o
theorem f_33_2 : x_fl (mkH xs s) 33 8 2 = some (.int (s.1 33 2)) := mk_fl (by decide) (by decide) rfl rfl
theorem p_33_2 (v : Int32) : x_fp (mkH xs s) 33 8 2 (.int v) = some (mkH xs (s_p s 33 2 v)) := mk_fp (by decide) (by decide) rfl (Nat.le_of_ble_eq_true rfl) (x_ok_int v) rfl s_p_o
theorem f_33_3 : x_fl (mkH xs s) 33 8 3 = some (.int (s.1 33 3)) := mk_fl (by decide) (by decide) rfl rfl
theorem p_33_3 (v : Int32) : x_fp (mkH xs s) 33 8 3 (.int v) = some (mkH xs (s_p s 33 3 v)) := mk_fp (by decide) (by decide) rfl (Nat.le_of_ble_eq_true rfl) (x_ok_int v) rfl s_p_o
theorem f_33_4 : x_fl (mkH xs s) 33 8 4 = some (.int (s.1 33 4)) := mk_fl (by decide) (by decide) rfl rfl
theorem p_33_4 (v : Int32) : x_fp (mkH xs s) 33 8 4 (.int v) = some (mkH xs (s_p s 33 4 v)) := mk_fp (by decide) (by decide) rfl (Nat.le_of_ble_eq_true rfl) (x_ok_int v) rfl s_p_o
theorem f_33_5 : x_fl (mkH xs s) 33 8 5 = some (.ref 34) := mk_fl (by decide) (by decide) rfl rfl
theorem f_33_6 : x_fl (mkH xs s) 33 8 6 = some (.ref 35) := mk_fl (by decide) (by decide) rfl rfl
theorem e_34 (i : Int32) : x_ie (mkH xs s) 34 i = x_rd (s.1 34) 8 i := mk_ie (kd := 0) (by decide) (by decide) (Or.inl rfl) (fun _ => rfl) i
theorem i_34 (i v : Int32) : x_ip (mkH xs s) 34 i v = (x_rd (s.1 34) 8 i).map (fun _ => mkH xs (s_p s 34 i.toNatClampNeg v)) := mk_ip (by decide) (by decide) (fun _ => rfl) i v
theorem e_35 (i : Int32) : x_ie (mkH xs s) 35 i = x_rd (s.1 35) 6 i := mk_ie (kd := 0) (by decide) (by decide) (Or.inl rfl) (fun _ => rfl) i
theorem i_35 (i v : Int32) : x_ip (mkH xs s) 35 i v = (x_rd (s.1 35) 6 i).map (fun _ => mkH xs (s_p s 35 i.toNatClampNeg v)) := mk_ip (by decide) (by decide) (fun _ => rfl) i v
theorem c_36 : x_cls (mkH xs s) 36 8 = true := mk_cls (by decide) (by decide) rfl
theorem f_36_0 : x_fl (mkH xs s) 36 8 0 = some (.ref 3) := mk_fl (by decide) (by decide) rfl rfl
theorem f_36_1 : x_fl (mkH xs s) 36 8 1 = some (.int (s.1 36 1)) := mk_fl (by decide) (by decide) rfl rfl
theorem p_36_1 (v : Int32) : x_fp (mkH xs s) 36 8 1 (.int v) = some (mkH xs (s_p s 36 1 v)) := mk_fp (by decide) (by decide) rfl (Nat.le_of_ble_eq_true rfl) (x_ok_int v) rfl s_p_o
theorem f_36_2 : x_fl (mkH xs s) 36 8 2 = some (.int (s.1 36 2)) := mk_fl (by decide) (by decide) rfl rfl
theorem p_36_2 (v : Int32) : x_fp (mkH xs s) 36 8 2 (.int v) = some (mkH xs (s_p s 36 2 v)) := mk_fp (by decide) (by decide) rfl (Nat.le_of_ble_eq_true rfl) (x_ok_int v) rfl s_p_o
theorem f_36_3 : x_fl (mkH xs s) 36 8 3 = some (.int (s.1 36 3)) := mk_fl (by decide) (by decide) rfl rfl
theorem p_36_3 (v : Int32) : x_fp (mkH xs s) 36 8 3 (.int v) = some (mkH xs (s_p s 36 3 v)) := mk_fp (by decide) (by decide) rfl (Nat.le_of_ble_eq_true rfl) (x_ok_int v) rfl s_p_o
theorem f_36_4 : x_fl (mkH xs s) 36 8 4 = some (.int (s.1 36 4)) := mk_fl (by decide) (by decide) rfl rfl
theorem p_36_4 (v : Int32) : x_fp (mkH xs s) 36 8 4 (.int v) = some (mkH xs (s_p s 36 4 v)) := mk_fp (by decide) (by decide) rfl (Nat.le_of_ble_eq_true rfl) (x_ok_int v) rfl s_p_o
theorem f_36_5 : x_fl (mkH xs s) 36 8 5 = some (.ref 37) := mk_fl (by decide) (by decide) rfl rfl
theorem f_36_6 : x_fl (mkH xs s) 36 8 6 = some (.ref 38) := mk_fl (by decide) (by decide) rfl rfl
theorem e_37 (i : Int32) : x_ie (mkH xs s) 37 i = x_rd (s.1 37) 8 i := mk_ie (kd := 0) (by decide) (by decide) (Or.inl rfl) (fun _ => rfl) i
theorem i_37 (i v : Int32) : x_ip (mkH xs s) 37 i v = (x_rd (s.1 37) 8 i).map (fun _ => mkH xs (s_p s 37 i.toNatClampNeg v)) := mk_ip (by decide) (by decide) (fun _ => rfl) i v
theorem e_38 (i : Int32) : x_ie (mkH xs s) 38 i = x_rd (s.1 38) 6 i := mk_ie (kd := 0) (by decide) (by decide) (Or.inl rfl) (fun _ => rfl) i
theorem i_38 (i v : Int32) : x_ip (mkH xs s) 38 i v = (x_rd (s.1 38) 6 i).map (fun _ => mkH xs (s_p s 38 i.toNatClampNeg v)) := mk_ip (by decide) (by decide) (fun _ => rfl) i v
theorem c_39 : x_cls (mkH xs s) 39 8 = true := mk_cls (by decide) (by decide) rfl
theorem f_39_0 : x_fl (mkH xs s) 39 8 0 = some (.ref 3) := mk_fl (by decide) (by decide) rfl rfl
theorem f_39_1 : x_fl (mkH xs s) 39 8 1 = some (.int (s.1 39 1)) := mk_fl (by decide) (by decide) rfl rfl
theorem p_39_1 (v : Int32) : x_fp (mkH xs s) 39 8 1 (.int v) = some (mkH xs (s_p s 39 1 v)) := mk_fp (by decide) (by decide) rfl (Nat.le_of_ble_eq_true rfl) (x_ok_int v) rfl s_p_o
theorem f_39_2 : x_fl (mkH xs s) 39 8 2 = some (.int (s.1 39 2)) := mk_fl (by decide) (by decide) rfl rfl
theorem p_39_2 (v : Int32) : x_fp (mkH xs s) 39 8 2 (.int v) = some (mkH xs (s_p s 39 2 v)) := mk_fp (by decide) (by decide) rfl (Nat.le_of_ble_eq_true rfl) (x_ok_int v) rfl s_p_o
theorem f_39_3 : x_fl (mkH xs s) 39 8 3 = some (.int (s.1 39 3)) := mk_fl (by decide) (by decide) rfl rfl
theorem p_39_3 (v : Int32) : x_fp (mkH xs s) 39 8 3 (.int v) = some (mkH xs (s_p s 39 3 v)) := mk_fp (by decide) (by decide) rfl (Nat.le_of_ble_eq_true rfl) (x_ok_int v) rfl s_p_o
theorem f_39_4 : x_fl (mkH xs s) 39 8 4 = some (.int (s.1 39 4)) := mk_fl (by decide) (by decide) rfl rfl
theorem p_39_4 (v : Int32) : x_fp (mkH xs s) 39 8 4 (.int v) = some (mkH xs (s_p s 39 4 v)) := mk_fp (by decide) (by decide) rfl (Nat.le_of_ble_eq_true rfl) (x_ok_int v) rfl s_p_o
theorem f_39_5 : x_fl (mkH xs s) 39 8 5 = some (.ref 40) := mk_fl (by decide) (by decide) rfl rfl
theorem f_39_6 : x_fl (mkH xs s) 39 8 6 = some (.ref 41) := mk_fl (by decide) (by decide) rfl rfl
theorem e_40 (i : Int32) : x_ie (mkH xs s) 40 i = x_rd (s.1 40) 8 i := mk_ie (kd := 0) (by decide) (by decide) (Or.inl rfl) (fun _ => rfl) i
theorem i_40 (i v : Int32) : x_ip (mkH xs s) 40 i v = (x_rd (s.1 40) 8 i).map (fun _ => mkH xs (s_p s 40 i.toNatClampNeg v)) := mk_ip (by decide) (by decide) (fun _ => rfl) i v
theorem e_41 (i : Int32) : x_ie (mkH xs s) 41 i = x_rd (s.1 41) 6 i := mk_ie (kd := 0) (by decide) (by decide) (Or.inl rfl) (fun _ => rfl) i
theorem i_41 (i v : Int32) : x_ip (mkH xs s) 41 i v = (x_rd (s.1 41) 6 i).map (fun _ => mkH xs (s_p s 41 i.toNatClampNeg v)) := mk_ip (by decide) (by decide) (fun _ => rfl) i v
theorem c_42 : x_cls (mkH xs s) 42 8 = true := mk_cls (by decide) (by decide) rfl
theorem f_42_0 : x_fl (mkH xs s) 42 8 0 = some (.ref 3) := mk_fl (by decide) (by decide) rfl rfl
theorem f_42_1 : x_fl (mkH xs s) 42 8 1 = some (.int (s.1 42 1)) := mk_fl (by decide) (by decide) rfl rfl
theorem p_42_1 (v : Int32) : x_fp (mkH xs s) 42 8 1 (.int v) = some (mkH xs (s_p s 42 1 v)) := mk_fp (by decide) (by decide) rfl (Nat.le_of_ble_eq_true rfl) (x_ok_int v) rfl s_p_o
theorem f_42_2 : x_fl (mkH xs s) 42 8 2 = some (.int (s.1 42 2)) := mk_fl (by decide) (by decide) rfl rfl
theorem p_42_2 (v : Int32) : x_fp (mkH xs s) 42 8 2 (.int v) = some (mkH xs (s_p s 42 2 v)) := mk_fp (by decide) (by decide) rfl (Nat.le_of_ble_eq_true rfl) (x_ok_int v) rfl s_p_o
theorem f_42_3 : x_fl (mkH xs s) 42 8 3 = some (.int (s.1 42 3)) := mk_fl (by decide) (by decide) rfl rfl
theorem p_42_3 (v : Int32) : x_fp (mkH xs s) 42 8 3 (.int v) = some (mkH xs (s_p s 42 3 v)) := mk_fp (by decide) (by decide) rfl (Nat.le_of_ble_eq_true rfl) (x_ok_int v) rfl s_p_o
theorem f_42_4 : x_fl (mkH xs s) 42 8 4 = some (.int (s.1 42 4)) := mk_fl (by decide) (by decide) rfl rfl
theorem p_42_4 (v : Int32) : x_fp (mkH xs s) 42 8 4 (.int v) = some (mkH xs (s_p s 42 4 v)) := mk_fp (by decide) (by decide) rfl (Nat.le_of_ble_eq_true rfl) (x_ok_int v) rfl s_p_o
theorem f_42_5 : x_fl (mkH xs s) 42 8 5 = some (.ref 43) := mk_fl (by decide) (by decide) rfl rfl
theorem f_42_6 : x_fl (mkH xs s) 42 8 6 = some (.ref 44) := mk_fl (by decide) (by decide) rfl rfl
theorem e_43 (i : Int32) : x_ie (mkH xs s) 43 i = x_rd (s.1 43) 8 i := mk_ie (kd := 0) (by decide) (by decide) (Or.inl rfl) (fun _ => rfl) i
theorem i_43 (i v : Int32) : x_ip (mkH xs s) 43 i v = (x_rd (s.1 43) 8 i).map (fun _ => mkH xs (s_p s 43 i.toNatClampNeg v)) := mk_ip (by decide) (by decide) (fun _ => rfl) i v
theorem e_44 (i : Int32) : x_ie (mkH xs s) 44 i = x_rd (s.1 44) 6 i := mk_ie (kd := 0) (by decide) (by decide) (Or.inl rfl) (fun _ => rfl) i
theorem i_44 (i v : Int32) : x_ip (mkH xs s) 44 i v = (x_rd (s.1 44) 6 i).map (fun _ => mkH xs (s_p s 44 i.toNatClampNeg v)) := mk_ip (by decide) (by decide) (fun _ => rfl) i v
theorem c_45 : x_cls (mkH xs s) 45 8 = true := mk_cls (by decide) (by decide) rfl
theorem f_45_0 : x_fl (mkH xs s) 45 8 0 = some (.ref 3) := mk_fl (by decide) (by decide) rfl rfl
theorem f_45_1 : x_fl (mkH xs s) 45 8 1 = some (.int (s.1 45 1)) := mk_fl (by decide) (by decide) rfl rfl
theorem p_45_1 (v : Int32) : x_fp (mkH xs s) 45 8 1 (.int v) = some (mkH xs (s_p s 45 1 v)) := mk_fp (by decide) (by decide) rfl (Nat.le_of_ble_eq_true rfl) (x_ok_int v) rfl s_p_o
theorem f_45_2 : x_fl (mkH xs s) 45 8 2 = some (.int (s.1 45 2)) := mk_fl (by decide) (by decide) rfl rfl
theorem p_45_2 (v : Int32) : x_fp (mkH xs s) 45 8 2 (.int v) = some (mkH xs (s_p s 45 2 v)) := mk_fp (by decide) (by decide) rfl (Nat.le_of_ble_eq_true rfl) (x_ok_int v) rfl s_p_o
theorem f_45_3 : x_fl (mkH xs s) 45 8 3 = some (.int (s.1 45 3)) := mk_fl (by decide) (by decide) rfl rfl
theorem p_45_3 (v : Int32) : x_fp (mkH xs s) 45 8 3 (.int v) = some (mkH xs (s_p s 45 3 v)) := mk_fp (by decide) (by decide) rfl (Nat.le_of_ble_eq_true rfl) (x_ok_int v) rfl s_p_o
theorem f_45_4 : x_fl (mkH xs s) 45 8 4 = some (.int (s.1 45 4)) := mk_fl (by decide) (by decide) rfl rfl
theorem p_45_4 (v : Int32) : x_fp (mkH xs s) 45 8 4 (.int v) = some (mkH xs (s_p s 45 4 v)) := mk_fp (by decide) (by decide) rfl (Nat.le_of_ble_eq_true rfl) (x_ok_int v) rfl s_p_o
theorem f_45_5 : x_fl (mkH xs s) 45 8 5 = some (.ref 46) := mk_fl (by decide) (by decide) rfl rfl
theorem f_45_6 : x_fl (mkH xs s) 45 8 6 = some (.ref 47) := mk_fl (by decide) (by decide) rfl rfl
theorem e_46 (i : Int32) : x_ie (mkH xs s) 46 i = x_rd (s.1 46) 8 i := mk_ie (kd := 0) (by decide) (by decide) (Or.inl rfl) (fun _ => rfl) i
theorem i_46 (i v : Int32) : x_ip (mkH xs s) 46 i v = (x_rd (s.1 46) 8 i).map (fun _ => mkH xs (s_p s 46 i.toNatClampNeg v)) := mk_ip (by decide) (by decide) (fun _ => rfl) i v
theorem e_47 (i : Int32) : x_ie (mkH xs s) 47 i = x_rd (s.1 47) 6 i := mk_ie (kd := 0) (by decide) (by decide) (Or.inl rfl) (fun _ => rfl) i
theorem i_47 (i v : Int32) : x_ip (mkH xs s) 47 i v = (x_rd (s.1 47) 6 i).map (fun _ => mkH xs (s_p s 47 i.toNatClampNeg v)) := mk_ip (by decide) (by decide) (fun _ => rfl) i v
theorem c_48 : x_cls (mkH xs s) 48 6 = true := mk_cls (by decide) (by decide) rfl
theorem f_48_0 : x_fl (mkH xs s) 48 6 0 = some (.ref 3) := mk_fl (by decide) (by decide) rfl rfl
theorem f_48_1 : x_fl (mkH xs s) 48 6 1 = some (.ref 9) := mk_fl (by decide) (by decide) rfl rfl
theorem f_48_2 : x_fl (mkH xs s) 48 6 2 = some (.ref 49) := mk_fl (by decide) (by decide) rfl rfl
theorem f_48_3 : x_fl (mkH xs s) 48 6 3 = some (.int (s.1 48 3)) := mk_fl (by decide) (by decide) rfl rfl
theorem p_48_3 (v : Int32) : x_fp (mkH xs s) 48 6 3 (.int v) = some (mkH xs (s_p s 48 3 v)) := mk_fp (by decide) (by decide) rfl (Nat.le_of_ble_eq_true rfl) (x_ok_int v) rfl s_p_o
theorem f_48_4 : x_fl (mkH xs s) 48 6 4 = some (.int (s.1 48 4)) := mk_fl (by decide) (by decide) rfl rfl
theorem p_48_4 (v : Int32) : x_fp (mkH xs s) 48 6 4 (.int v) = some (mkH xs (s_p s 48 4 v)) := mk_fp (by decide) (by decide) rfl (Nat.le_of_ble_eq_true rfl) (x_ok_int v) rfl s_p_o
theorem e_49 (i : Int32) : x_qe (mkH xs s) 49 i = x_rd (fun k => 50 + 3 * k) 5 i := mk_qe (kd := 4) (by decide) (by decide) (by decide) rfl i
theorem c_50 : x_cls (mkH xs s) 50 8 = true := mk_cls (by decide) (by decide) rfl
theorem f_50_0 : x_fl (mkH xs s) 50 8 0 = some (.ref 3) := mk_fl (by decide) (by decide) rfl rfl
theorem f_50_1 : x_fl (mkH xs s) 50 8 1 = some (.int (s.1 50 1)) := mk_fl (by decide) (by decide) rfl rfl
theorem p_50_1 (v : Int32) : x_fp (mkH xs s) 50 8 1 (.int v) = some (mkH xs (s_p s 50 1 v)) := mk_fp (by decide) (by decide) rfl (Nat.le_of_ble_eq_true rfl) (x_ok_int v) rfl s_p_o
theorem f_50_2 : x_fl (mkH xs s) 50 8 2 = some (.int (s.1 50 2)) := mk_fl (by decide) (by decide) rfl rfl
theorem p_50_2 (v : Int32) : x_fp (mkH xs s) 50 8 2 (.int v) = some (mkH xs (s_p s 50 2 v)) := mk_fp (by decide) (by decide) rfl (Nat.le_of_ble_eq_true rfl) (x_ok_int v) rfl s_p_o
theorem f_50_3 : x_fl (mkH xs s) 50 8 3 = some (.int (s.1 50 3)) := mk_fl (by decide) (by decide) rfl rfl
theorem p_50_3 (v : Int32) : x_fp (mkH xs s) 50 8 3 (.int v) = some (mkH xs (s_p s 50 3 v)) := mk_fp (by decide) (by decide) rfl (Nat.le_of_ble_eq_true rfl) (x_ok_int v) rfl s_p_o
theorem f_50_4 : x_fl (mkH xs s) 50 8 4 = some (.int (s.1 50 4)) := mk_fl (by decide) (by decide) rfl rfl
theorem p_50_4 (v : Int32) : x_fp (mkH xs s) 50 8 4 (.int v) = some (mkH xs (s_p s 50 4 v)) := mk_fp (by decide) (by decide) rfl (Nat.le_of_ble_eq_true rfl) (x_ok_int v) rfl s_p_o
theorem f_50_5 : x_fl (mkH xs s) 50 8 5 = some (.ref 51) := mk_fl (by decide) (by decide) rfl rfl
theorem f_50_6 : x_fl (mkH xs s) 50 8 6 = some (.ref 52) := mk_fl (by decide) (by decide) rfl rfl
theorem e_51 (i : Int32) : x_ie (mkH xs s) 51 i = x_rd (s.1 51) 8 i := mk_ie (kd := 0) (by decide) (by decide) (Or.inl rfl) (fun _ => rfl) i
theorem i_51 (i v : Int32) : x_ip (mkH xs s) 51 i v = (x_rd (s.1 51) 8 i).map (fun _ => mkH xs (s_p s 51 i.toNatClampNeg v)) := mk_ip (by decide) (by decide) (fun _ => rfl) i v
theorem e_52 (i : Int32) : x_ie (mkH xs s) 52 i = x_rd (s.1 52) 6 i := mk_ie (kd := 0) (by decide) (by decide) (Or.inl rfl) (fun _ => rfl) i
theorem i_52 (i v : Int32) : x_ip (mkH xs s) 52 i v = (x_rd (s.1 52) 6 i).map (fun _ => mkH xs (s_p s 52 i.toNatClampNeg v)) := mk_ip (by decide) (by decide) (fun _ => rfl) i v
theorem c_53 : x_cls (mkH xs s) 53 8 = true := mk_cls (by decide) (by decide) rfl
theorem f_53_0 : x_fl (mkH xs s) 53 8 0 = some (.ref 3) := mk_fl (by decide) (by decide) rfl rfl
theorem f_53_1 : x_fl (mkH xs s) 53 8 1 = some (.int (s.1 53 1)) := mk_fl (by decide) (by decide) rfl rfl
theorem p_53_1 (v : Int32) : x_fp (mkH xs s) 53 8 1 (.int v) = some (mkH xs (s_p s 53 1 v)) := mk_fp (by decide) (by decide) rfl (Nat.le_of_ble_eq_true rfl) (x_ok_int v) rfl s_p_o
theorem f_53_2 : x_fl (mkH xs s) 53 8 2 = some (.int (s.1 53 2)) := mk_fl (by decide) (by decide) rfl rfl
theorem p_53_2 (v : Int32) : x_fp (mkH xs s) 53 8 2 (.int v) = some (mkH xs (s_p s 53 2 v)) := mk_fp (by decide) (by decide) rfl (Nat.le_of_ble_eq_true rfl) (x_ok_int v) rfl s_p_o
theorem f_53_3 : x_fl (mkH xs s) 53 8 3 = some (.int (s.1 53 3)) := mk_fl (by decide) (by decide) rfl rfl
theorem p_53_3 (v : Int32) : x_fp (mkH xs s) 53 8 3 (.int v) = some (mkH xs (s_p s 53 3 v)) := mk_fp (by decide) (by decide) rfl (Nat.le_of_ble_eq_true rfl) (x_ok_int v) rfl s_p_o
theorem f_53_4 : x_fl (mkH xs s) 53 8 4 = some (.int (s.1 53 4)) := mk_fl (by decide) (by decide) rfl rfl
theorem p_53_4 (v : Int32) : x_fp (mkH xs s) 53 8 4 (.int v) = some (mkH xs (s_p s 53 4 v)) := mk_fp (by decide) (by decide) rfl (Nat.le_of_ble_eq_true rfl) (x_ok_int v) rfl s_p_o
theorem f_53_5 : x_fl (mkH xs s) 53 8 5 = some (.ref 54) := mk_fl (by decide) (by decide) rfl rfl
theorem f_53_6 : x_fl (mkH xs s) 53 8 6 = some (.ref 55) := mk_fl (by decide) (by decide) rfl rfl
theorem e_54 (i : Int32) : x_ie (mkH xs s) 54 i = x_rd (s.1 54) 8 i := mk_ie (kd := 0) (by decide) (by decide) (Or.inl rfl) (fun _ => rfl) i
theorem i_54 (i v : Int32) : x_ip (mkH xs s) 54 i v = (x_rd (s.1 54) 8 i).map (fun _ => mkH xs (s_p s 54 i.toNatClampNeg v)) := mk_ip (by decide) (by decide) (fun _ => rfl) i v
theorem e_55 (i : Int32) : x_ie (mkH xs s) 55 i = x_rd (s.1 55) 6 i := mk_ie (kd := 0) (by decide) (by decide) (Or.inl rfl) (fun _ => rfl) i
theorem i_55 (i v : Int32) : x_ip (mkH xs s) 55 i v = (x_rd (s.1 55) 6 i).map (fun _ => mkH xs (s_p s 55 i.toNatClampNeg v)) := mk_ip (by decide) (by decide) (fun _ => rfl) i v
theorem c_56 : x_cls (mkH xs s) 56 8 = true := mk_cls (by decide) (by decide) rfl
theorem f_56_0 : x_fl (mkH xs s) 56 8 0 = some (.ref 3) := mk_fl (by decide) (by decide) rfl rfl
theorem f_56_1 : x_fl (mkH xs s) 56 8 1 = some (.int (s.1 56 1)) := mk_fl (by decide) (by decide) rfl rfl
theorem p_56_1 (v : Int32) : x_fp (mkH xs s) 56 8 1 (.int v) = some (mkH xs (s_p s 56 1 v)) := mk_fp (by decide) (by decide) rfl (Nat.le_of_ble_eq_true rfl) (x_ok_int v) rfl s_p_o
theorem f_56_2 : x_fl (mkH xs s) 56 8 2 = some (.int (s.1 56 2)) := mk_fl (by decide) (by decide) rfl rfl
theorem p_56_2 (v : Int32) : x_fp (mkH xs s) 56 8 2 (.int v) = some (mkH xs (s_p s 56 2 v)) := mk_fp (by decide) (by decide) rfl (Nat.le_of_ble_eq_true rfl) (x_ok_int v) rfl s_p_o
theorem f_56_3 : x_fl (mkH xs s) 56 8 3 = some (.int (s.1 56 3)) := mk_fl (by decide) (by decide) rfl rfl
theorem p_56_3 (v : Int32) : x_fp (mkH xs s) 56 8 3 (.int v) = some (mkH xs (s_p s 56 3 v)) := mk_fp (by decide) (by decide) rfl (Nat.le_of_ble_eq_true rfl) (x_ok_int v) rfl s_p_o
theorem f_56_4 : x_fl (mkH xs s) 56 8 4 = some (.int (s.1 56 4)) := mk_fl (by decide) (by decide) rfl rfl
theorem p_56_4 (v : Int32) : x_fp (mkH xs s) 56 8 4 (.int v) = some (mkH xs (s_p s 56 4 v)) := mk_fp (by decide) (by decide) rfl (Nat.le_of_ble_eq_true rfl) (x_ok_int v) rfl s_p_o
theorem f_56_5 : x_fl (mkH xs s) 56 8 5 = some (.ref 57) := mk_fl (by decide) (by decide) rfl rfl
theorem f_56_6 : x_fl (mkH xs s) 56 8 6 = some (.ref 58) := mk_fl (by decide) (by decide) rfl rfl
theorem e_57 (i : Int32) : x_ie (mkH xs s) 57 i = x_rd (s.1 57) 8 i := mk_ie (kd := 0) (by decide) (by decide) (Or.inl rfl) (fun _ => rfl) i
theorem i_57 (i v : Int32) : x_ip (mkH xs s) 57 i v = (x_rd (s.1 57) 8 i).map (fun _ => mkH xs (s_p s 57 i.toNatClampNeg v)) := mk_ip (by decide) (by decide) (fun _ => rfl) i v
theorem e_58 (i : Int32) : x_ie (mkH xs s) 58 i = x_rd (s.1 58) 6 i := mk_ie (kd := 0) (by decide) (by decide) (Or.inl rfl) (fun _ => rfl) i
theorem i_58 (i v : Int32) : x_ip (mkH xs s) 58 i v = (x_rd (s.1 58) 6 i).map (fun _ => mkH xs (s_p s 58 i.toNatClampNeg v)) := mk_ip (by decide) (by decide) (fun _ => rfl) i v
theorem c_59 : x_cls (mkH xs s) 59 8 = true := mk_cls (by decide) (by decide) rfl
theorem f_59_0 : x_fl (mkH xs s) 59 8 0 = some (.ref 3) := mk_fl (by decide) (by decide) rfl rfl
theorem f_59_1 : x_fl (mkH xs s) 59 8 1 = some (.int (s.1 59 1)) := mk_fl (by decide) (by decide) rfl rfl
theorem p_59_1 (v : Int32) : x_fp (mkH xs s) 59 8 1 (.int v) = some (mkH xs (s_p s 59 1 v)) := mk_fp (by decide) (by decide) rfl (Nat.le_of_ble_eq_true rfl) (x_ok_int v) rfl s_p_o
theorem f_59_2 : x_fl (mkH xs s) 59 8 2 = some (.int (s.1 59 2)) := mk_fl (by decide) (by decide) rfl rfl
theorem p_59_2 (v : Int32) : x_fp (mkH xs s) 59 8 2 (.int v) = some (mkH xs (s_p s 59 2 v)) := mk_fp (by decide) (by decide) rfl (Nat.le_of_ble_eq_true rfl) (x_ok_int v) rfl s_p_o
theorem f_59_3 : x_fl (mkH xs s) 59 8 3 = some (.int (s.1 59 3)) := mk_fl (by decide) (by decide) rfl rfl
theorem p_59_3 (v : Int32) : x_fp (mkH xs s) 59 8 3 (.int v) = some (mkH xs (s_p s 59 3 v)) := mk_fp (by decide) (by decide) rfl (Nat.le_of_ble_eq_true rfl) (x_ok_int v) rfl s_p_o
theorem f_59_4 : x_fl (mkH xs s) 59 8 4 = some (.int (s.1 59 4)) := mk_fl (by decide) (by decide) rfl rfl
theorem p_59_4 (v : Int32) : x_fp (mkH xs s) 59 8 4 (.int v) = some (mkH xs (s_p s 59 4 v)) := mk_fp (by decide) (by decide) rfl (Nat.le_of_ble_eq_true rfl) (x_ok_int v) rfl s_p_o
theorem f_59_5 : x_fl (mkH xs s) 59 8 5 = some (.ref 60) := mk_fl (by decide) (by decide) rfl rfl
theorem f_59_6 : x_fl (mkH xs s) 59 8 6 = some (.ref 61) := mk_fl (by decide) (by decide) rfl rfl
theorem e_60 (i : Int32) : x_ie (mkH xs s) 60 i = x_rd (s.1 60) 8 i := mk_ie (kd := 0) (by decide) (by decide) (Or.inl rfl) (fun _ => rfl) i
theorem i_60 (i v : Int32) : x_ip (mkH xs s) 60 i v = (x_rd (s.1 60) 8 i).map (fun _ => mkH xs (s_p s 60 i.toNatClampNeg v)) := mk_ip (by decide) (by decide) (fun _ => rfl) i v
theorem e_61 (i : Int32) : x_ie (mkH xs s) 61 i = x_rd (s.1 61) 6 i := mk_ie (kd := 0) (by decide) (by decide) (Or.inl rfl) (fun _ => rfl) i
theorem i_61 (i v : Int32) : x_ip (mkH xs s) 61 i v = (x_rd (s.1 61) 6 i).map (fun _ => mkH xs (s_p s 61 i.toNatClampNeg v)) := mk_ip (by decide) (by decide) (fun _ => rfl) i v
theorem c_62 : x_cls (mkH xs s) 62 8 = true := mk_cls (by decide) (by decide) rfl
theorem f_62_0 : x_fl (mkH xs s) 62 8 0 = some (.ref 3) := mk_fl (by decide) (by decide) rfl rfl
theorem f_62_1 : x_fl (mkH xs s) 62 8 1 = some (.int (s.1 62 1)) := mk_fl (by decide) (by decide) rfl rfl
theorem p_62_1 (v : Int32) : x_fp (mkH xs s) 62 8 1 (.int v) = some (mkH xs (s_p s 62 1 v)) := mk_fp (by decide) (by decide) rfl (Nat.le_of_ble_eq_true rfl) (x_ok_int v) rfl s_p_o
theorem f_62_2 : x_fl (mkH xs s) 62 8 2 = some (.int (s.1 62 2)) := mk_fl (by decide) (by decide) rfl rfl
theorem p_62_2 (v : Int32) : x_fp (mkH xs s) 62 8 2 (.int v) = some (mkH xs (s_p s 62 2 v)) := mk_fp (by decide) (by decide) rfl (Nat.le_of_ble_eq_true rfl) (x_ok_int v) rfl s_p_o
theorem f_62_3 : x_fl (mkH xs s) 62 8 3 = some (.int (s.1 62 3)) := mk_fl (by decide) (by decide) rfl rfl
theorem p_62_3 (v : Int32) : x_fp (mkH xs s) 62 8 3 (.int v) = some (mkH xs (s_p s 62 3 v)) := mk_fp (by decide) (by decide) rfl (Nat.le_of_ble_eq_true rfl) (x_ok_int v) rfl s_p_o
theorem f_62_4 : x_fl (mkH xs s) 62 8 4 = some (.int (s.1 62 4)) := mk_fl (by decide) (by decide) rfl rfl
theorem p_62_4 (v : Int32) : x_fp (mkH xs s) 62 8 4 (.int v) = some (mkH xs (s_p s 62 4 v)) := mk_fp (by decide) (by decide) rfl (Nat.le_of_ble_eq_true rfl) (x_ok_int v) rfl s_p_o
theorem f_62_5 : x_fl (mkH xs s) 62 8 5 = some (.ref 63) := mk_fl (by decide) (by decide) rfl rfl
theorem f_62_6 : x_fl (mkH xs s) 62 8 6 = some (.ref 64) := mk_fl (by decide) (by decide) rfl rfl
theorem e_63 (i : Int32) : x_ie (mkH xs s) 63 i = x_rd (s.1 63) 8 i := mk_ie (kd := 0) (by decide) (by decide) (Or.inl rfl) (fun _ => rfl) i
theorem i_63 (i v : Int32) : x_ip (mkH xs s) 63 i v = (x_rd (s.1 63) 8 i).map (fun _ => mkH xs (s_p s 63 i.toNatClampNeg v)) := mk_ip (by decide) (by decide) (fun _ => rfl) i v
theorem e_64 (i : Int32) : x_ie (mkH xs s) 64 i = x_rd (s.1 64) 6 i := mk_ie (kd := 0) (by decide) (by decide) (Or.inl rfl) (fun _ => rfl) i
theorem i_64 (i v : Int32) : x_ip (mkH xs s) 64 i v = (x_rd (s.1 64) 6 i).map (fun _ => mkH xs (s_p s 64 i.toNatClampNeg v)) := mk_ip (by decide) (by decide) (fun _ => rfl) i v
theorem c_65 : x_cls (mkH xs s) 65 3 = true := mk_cls (by decide) (by decide) rfl
theorem f_65_0 : x_fl (mkH xs s) 65 3 0 = some (.ref 66) := mk_fl (by decide) (by decide) rfl rfl
theorem f_65_1 : x_fl (mkH xs s) 65 3 1 = some (.ref 69) := mk_fl (by decide) (by decide) rfl rfl
theorem c_66 : x_cls (mkH xs s) 66 8 = true := mk_cls (by decide) (by decide) rfl
theorem f_66_0 : x_fl (mkH xs s) 66 8 0 = some (.ref 3) := mk_fl (by decide) (by decide) rfl rfl
theorem f_66_1 : x_fl (mkH xs s) 66 8 1 = some (.int (s.1 66 1)) := mk_fl (by decide) (by decide) rfl rfl
theorem p_66_1 (v : Int32) : x_fp (mkH xs s) 66 8 1 (.int v) = some (mkH xs (s_p s 66 1 v)) := mk_fp (by decide) (by decide) rfl (Nat.le_of_ble_eq_true rfl) (x_ok_int v) rfl s_p_o
theorem f_66_2 : x_fl (mkH xs s) 66 8 2 = some (.int (s.1 66 2)) := mk_fl (by decide) (by decide) rfl rfl
theorem p_66_2 (v : Int32) : x_fp (mkH xs s) 66 8 2 (.int v) = some (mkH xs (s_p s 66 2 v)) := mk_fp (by decide) (by decide) rfl (Nat.le_of_ble_eq_true rfl) (x_ok_int v) rfl s_p_o
theorem f_66_3 : x_fl (mkH xs s) 66 8 3 = some (.int (s.1 66 3)) := mk_fl (by decide) (by decide) rfl rfl
theorem p_66_3 (v : Int32) : x_fp (mkH xs s) 66 8 3 (.int v) = some (mkH xs (s_p s 66 3 v)) := mk_fp (by decide) (by decide) rfl (Nat.le_of_ble_eq_true rfl) (x_ok_int v) rfl s_p_o
theorem f_66_4 : x_fl (mkH xs s) 66 8 4 = some (.int (s.1 66 4)) := mk_fl (by decide) (by decide) rfl rfl
theorem p_66_4 (v : Int32) : x_fp (mkH xs s) 66 8 4 (.int v) = some (mkH xs (s_p s 66 4 v)) := mk_fp (by decide) (by decide) rfl (Nat.le_of_ble_eq_true rfl) (x_ok_int v) rfl s_p_o
theorem f_66_5 : x_fl (mkH xs s) 66 8 5 = some (.ref 67) := mk_fl (by decide) (by decide) rfl rfl
theorem f_66_6 : x_fl (mkH xs s) 66 8 6 = some (.ref 68) := mk_fl (by decide) (by decide) rfl rfl
theorem e_67 (i : Int32) : x_ie (mkH xs s) 67 i = x_rd (s.1 67) 8 i := mk_ie (kd := 0) (by decide) (by decide) (Or.inl rfl) (fun _ => rfl) i
theorem i_67 (i v : Int32) : x_ip (mkH xs s) 67 i v = (x_rd (s.1 67) 8 i).map (fun _ => mkH xs (s_p s 67 i.toNatClampNeg v)) := mk_ip (by decide) (by decide) (fun _ => rfl) i v
theorem e_68 (i : Int32) : x_ie (mkH xs s) 68 i = x_rd (s.1 68) 6 i := mk_ie (kd := 0) (by decide) (by decide) (Or.inl rfl) (fun _ => rfl) i
theorem i_68 (i v : Int32) : x_ip (mkH xs s) 68 i v = (x_rd (s.1 68) 6 i).map (fun _ => mkH xs (s_p s 68 i.toNatClampNeg v)) := mk_ip (by decide) (by decide) (fun _ => rfl) i v
theorem c_69 : x_cls (mkH xs s) 69 8 = true := mk_cls (by decide) (by decide) rfl
theorem f_69_0 : x_fl (mkH xs s) 69 8 0 = some (.ref 3) := mk_fl (by decide) (by decide) rfl rfl
theorem f_69_1 : x_fl (mkH xs s) 69 8 1 = some (.int (s.1 69 1)) := mk_fl (by decide) (by decide) rfl rfl
theorem p_69_1 (v : Int32) : x_fp (mkH xs s) 69 8 1 (.int v) = some (mkH xs (s_p s 69 1 v)) := mk_fp (by decide) (by decide) rfl (Nat.le_of_ble_eq_true rfl) (x_ok_int v) rfl s_p_o
theorem f_69_2 : x_fl (mkH xs s) 69 8 2 = some (.int (s.1 69 2)) := mk_fl (by decide) (by decide) rfl rfl
theorem p_69_2 (v : Int32) : x_fp (mkH xs s) 69 8 2 (.int v) = some (mkH xs (s_p s 69 2 v)) := mk_fp (by decide) (by decide) rfl (Nat.le_of_ble_eq_true rfl) (x_ok_int v) rfl s_p_o
theorem f_69_3 : x_fl (mkH xs s) 69 8 3 = some (.int (s.1 69 3)) := mk_fl (by decide) (by decide) rfl rfl
theorem p_69_3 (v : Int32) : x_fp (mkH xs s) 69 8 3 (.int v) = some (mkH xs (s_p s 69 3 v)) := mk_fp (by decide) (by decide) rfl (Nat.le_of_ble_eq_true rfl) (x_ok_int v) rfl s_p_o
theorem f_69_4 : x_fl (mkH xs s) 69 8 4 = some (.int (s.1 69 4)) := mk_fl (by decide) (by decide) rfl rfl
theorem p_69_4 (v : Int32) : x_fp (mkH xs s) 69 8 4 (.int v) = some (mkH xs (s_p s 69 4 v)) := mk_fp (by decide) (by decide) rfl (Nat.le_of_ble_eq_true rfl) (x_ok_int v) rfl s_p_o
theorem f_69_5 : x_fl (mkH xs s) 69 8 5 = some (.ref 70) := mk_fl (by decide) (by decide) rfl rfl
theorem f_69_6 : x_fl (mkH xs s) 69 8 6 = some (.ref 71) := mk_fl (by decide) (by decide) rfl rfl
theorem e_70 (i : Int32) : x_ie (mkH xs s) 70 i = x_rd (s.1 70) 8 i := mk_ie (kd := 0) (by decide) (by decide) (Or.inl rfl) (fun _ => rfl) i
theorem i_70 (i v : Int32) : x_ip (mkH xs s) 70 i v = (x_rd (s.1 70) 8 i).map (fun _ => mkH xs (s_p s 70 i.toNatClampNeg v)) := mk_ip (by decide) (by decide) (fun _ => rfl) i v
theorem e_71 (i : Int32) : x_ie (mkH xs s) 71 i = x_rd (s.1 71) 6 i := mk_ie (kd := 0) (by decide) (by decide) (Or.inl rfl) (fun _ => rfl) i
theorem i_71 (i v : Int32) : x_ip (mkH xs s) 71 i v = (x_rd (s.1 71) 6 i).map (fun _ => mkH xs (s_p s 71 i.toNatClampNeg v)) := mk_ip (by decide) (by decide) (fun _ => rfl) i v
theorem c_72 : x_cls (mkH xs s) 72 10 = true := mk_cls (by decide) (by decide) rfl
theorem f_72_0 : x_fl (mkH xs s) 72 10 0 = some (.ref 3) := mk_fl (by decide) (by decide) rfl rfl
theorem f_72_1 : x_fl (mkH xs s) 72 10 1 = some (.ref 73) := mk_fl (by decide) (by decide) rfl rfl
theorem f_72_2 : x_fl (mkH xs s) 72 10 2 = some (.long (s.2 72 2)) := mk_fl (by decide) (by decide) rfl rfl
theorem p_72_2 (v : Int64) : x_fp (mkH xs s) 72 10 2 (.long v) = some (mkH xs (s_l s 72 2 v)) := mk_fp (by decide) (by decide) rfl (Nat.le_of_ble_eq_true rfl) (x_ok_long v) rfl s_l_o
theorem f_72_3 : x_fl (mkH xs s) 72 10 3 = some (.int (s.1 72 3)) := mk_fl (by decide) (by decide) rfl rfl
theorem p_72_3 (v : Int32) : x_fp (mkH xs s) 72 10 3 (.int v) = some (mkH xs (s_p s 72 3 v)) := mk_fp (by decide) (by decide) rfl (Nat.le_of_ble_eq_true rfl) (x_ok_int v) rfl s_p_o
theorem f_72_4 : x_fl (mkH xs s) 72 10 4 = some (.int (s.1 72 4)) := mk_fl (by decide) (by decide) rfl rfl
theorem p_72_4 (v : Int32) : x_fp (mkH xs s) 72 10 4 (.int v) = some (mkH xs (s_p s 72 4 v)) := mk_fp (by decide) (by decide) rfl (Nat.le_of_ble_eq_true rfl) (x_ok_int v) rfl s_p_o
theorem c_73 : x_cls (mkH xs s) 73 8 = true := mk_cls (by decide) (by decide) rfl
theorem f_73_0 : x_fl (mkH xs s) 73 8 0 = some (.ref 3) := mk_fl (by decide) (by decide) rfl rfl
theorem f_73_1 : x_fl (mkH xs s) 73 8 1 = some (.int (s.1 73 1)) := mk_fl (by decide) (by decide) rfl rfl
theorem p_73_1 (v : Int32) : x_fp (mkH xs s) 73 8 1 (.int v) = some (mkH xs (s_p s 73 1 v)) := mk_fp (by decide) (by decide) rfl (Nat.le_of_ble_eq_true rfl) (x_ok_int v) rfl s_p_o
theorem f_73_2 : x_fl (mkH xs s) 73 8 2 = some (.int (s.1 73 2)) := mk_fl (by decide) (by decide) rfl rfl
theorem p_73_2 (v : Int32) : x_fp (mkH xs s) 73 8 2 (.int v) = some (mkH xs (s_p s 73 2 v)) := mk_fp (by decide) (by decide) rfl (Nat.le_of_ble_eq_true rfl) (x_ok_int v) rfl s_p_o
theorem f_73_3 : x_fl (mkH xs s) 73 8 3 = some (.int (s.1 73 3)) := mk_fl (by decide) (by decide) rfl rfl
theorem p_73_3 (v : Int32) : x_fp (mkH xs s) 73 8 3 (.int v) = some (mkH xs (s_p s 73 3 v)) := mk_fp (by decide) (by decide) rfl (Nat.le_of_ble_eq_true rfl) (x_ok_int v) rfl s_p_o
theorem f_73_4 : x_fl (mkH xs s) 73 8 4 = some (.int (s.1 73 4)) := mk_fl (by decide) (by decide) rfl rfl
theorem p_73_4 (v : Int32) : x_fp (mkH xs s) 73 8 4 (.int v) = some (mkH xs (s_p s 73 4 v)) := mk_fp (by decide) (by decide) rfl (Nat.le_of_ble_eq_true rfl) (x_ok_int v) rfl s_p_o
theorem f_73_5 : x_fl (mkH xs s) 73 8 5 = some (.ref 74) := mk_fl (by decide) (by decide) rfl rfl
theorem f_73_6 : x_fl (mkH xs s) 73 8 6 = some (.ref 75) := mk_fl (by decide) (by decide) rfl rfl
theorem e_74 (i : Int32) : x_ie (mkH xs s) 74 i = x_rd (s.1 74) 8 i := mk_ie (kd := 0) (by decide) (by decide) (Or.inl rfl) (fun _ => rfl) i
theorem i_74 (i v : Int32) : x_ip (mkH xs s) 74 i v = (x_rd (s.1 74) 8 i).map (fun _ => mkH xs (s_p s 74 i.toNatClampNeg v)) := mk_ip (by decide) (by decide) (fun _ => rfl) i v
theorem e_75 (i : Int32) : x_ie (mkH xs s) 75 i = x_rd (s.1 75) 6 i := mk_ie (kd := 0) (by decide) (by decide) (Or.inl rfl) (fun _ => rfl) i
theorem i_75 (i v : Int32) : x_ip (mkH xs s) 75 i v = (x_rd (s.1 75) 6 i).map (fun _ => mkH xs (s_p s 75 i.toNatClampNeg v)) := mk_ip (by decide) (by decide) (fun _ => rfl) i v
theorem e_76 (i : Int32) : x_qe (mkH xs s) 76 i = x_rd (fun k => 77 + 2 * k) 4 i := mk_qe (kd := 5) (by decide) (by decide) (by decide) rfl i
theorem c_77 : x_cls (mkH xs s) 77 7 = true := mk_cls (by decide) (by decide) rfl
theorem f_77_0 : x_fl (mkH xs s) 77 7 0 = some (.int (s.1 77 0)) := mk_fl (by decide) (by decide) rfl rfl
theorem p_77_0_0 : x_fp (mkH xs s) 77 7 0 (.int 0) = some (mkH xs (s_p s 77 0 0)) := mk_fp (by decide) (by decide) rfl (Nat.le_of_ble_eq_true rfl) (by decide) rfl s_p_o
theorem p_77_0_1 : x_fp (mkH xs s) 77 7 0 (.int 1) = some (mkH xs (s_p s 77 0 1)) := mk_fp (by decide) (by decide) rfl (Nat.le_of_ble_eq_true rfl) (by decide) rfl s_p_o
theorem f_77_1 : x_fl (mkH xs s) 77 7 1 = some (.int (s.1 77 1)) := mk_fl (by decide) (by decide) rfl rfl
theorem p_77_1 (v : Int32) : x_fp (mkH xs s) 77 7 1 (.int v) = some (mkH xs (s_p s 77 1 v)) := mk_fp (by decide) (by decide) rfl (Nat.le_of_ble_eq_true rfl) (x_ok_int v) rfl s_p_o
theorem f_77_2 : x_fl (mkH xs s) 77 7 2 = some (.int (s.1 77 2)) := mk_fl (by decide) (by decide) rfl rfl
theorem p_77_2 (v : Int32) : x_fp (mkH xs s) 77 7 2 (.int v) = some (mkH xs (s_p s 77 2 v)) := mk_fp (by decide) (by decide) rfl (Nat.le_of_ble_eq_true rfl) (x_ok_int v) rfl s_p_o
theorem f_77_3 : x_fl (mkH xs s) 77 7 3 = some (.ref 78) := mk_fl (by decide) (by decide) rfl rfl
theorem e_78 (i : Int32) : x_le (mkH xs s) 78 i = x_rd (s.2 78) 60 i := mk_le (by decide) (by decide) (fun _ => rfl) i
theorem i_78 (i : Int32) (v : Int64) : x_lp (mkH xs s) 78 i v = (x_rd (s.2 78) 60 i).map (fun _ => mkH xs (s_l s 78 i.toNatClampNeg v)) := mk_lp (by decide) (by decide) (fun _ => rfl) i v
theorem c_79 : x_cls (mkH xs s) 79 7 = true := mk_cls (by decide) (by decide) rfl
theorem f_79_0 : x_fl (mkH xs s) 79 7 0 = some (.int (s.1 79 0)) := mk_fl (by decide) (by decide) rfl rfl
theorem p_79_0_0 : x_fp (mkH xs s) 79 7 0 (.int 0) = some (mkH xs (s_p s 79 0 0)) := mk_fp (by decide) (by decide) rfl (Nat.le_of_ble_eq_true rfl) (by decide) rfl s_p_o
theorem p_79_0_1 : x_fp (mkH xs s) 79 7 0 (.int 1) = some (mkH xs (s_p s 79 0 1)) := mk_fp (by decide) (by decide) rfl (Nat.le_of_ble_eq_true rfl) (by decide) rfl s_p_o
theorem f_79_1 : x_fl (mkH xs s) 79 7 1 = some (.int (s.1 79 1)) := mk_fl (by decide) (by decide) rfl rfl
theorem p_79_1 (v : Int32) : x_fp (mkH xs s) 79 7 1 (.int v) = some (mkH xs (s_p s 79 1 v)) := mk_fp (by decide) (by decide) rfl (Nat.le_of_ble_eq_true rfl) (x_ok_int v) rfl s_p_o
theorem f_79_2 : x_fl (mkH xs s) 79 7 2 = some (.int (s.1 79 2)) := mk_fl (by decide) (by decide) rfl rfl
theorem p_79_2 (v : Int32) : x_fp (mkH xs s) 79 7 2 (.int v) = some (mkH xs (s_p s 79 2 v)) := mk_fp (by decide) (by decide) rfl (Nat.le_of_ble_eq_true rfl) (x_ok_int v) rfl s_p_o
theorem f_79_3 : x_fl (mkH xs s) 79 7 3 = some (.ref 80) := mk_fl (by decide) (by decide) rfl rfl
theorem e_80 (i : Int32) : x_le (mkH xs s) 80 i = x_rd (s.2 80) 60 i := mk_le (by decide) (by decide) (fun _ => rfl) i
theorem i_80 (i : Int32) (v : Int64) : x_lp (mkH xs s) 80 i v = (x_rd (s.2 80) 60 i).map (fun _ => mkH xs (s_l s 80 i.toNatClampNeg v)) := mk_lp (by decide) (by decide) (fun _ => rfl) i v
theorem c_81 : x_cls (mkH xs s) 81 7 = true := mk_cls (by decide) (by decide) rfl
theorem f_81_0 : x_fl (mkH xs s) 81 7 0 = some (.int (s.1 81 0)) := mk_fl (by decide) (by decide) rfl rfl
theorem p_81_0_0 : x_fp (mkH xs s) 81 7 0 (.int 0) = some (mkH xs (s_p s 81 0 0)) := mk_fp (by decide) (by decide) rfl (Nat.le_of_ble_eq_true rfl) (by decide) rfl s_p_o
theorem p_81_0_1 : x_fp (mkH xs s) 81 7 0 (.int 1) = some (mkH xs (s_p s 81 0 1)) := mk_fp (by decide) (by decide) rfl (Nat.le_of_ble_eq_true rfl) (by decide) rfl s_p_o
theorem f_81_1 : x_fl (mkH xs s) 81 7 1 = some (.int (s.1 81 1)) := mk_fl (by decide) (by decide) rfl rfl
theorem p_81_1 (v : Int32) : x_fp (mkH xs s) 81 7 1 (.int v) = some (mkH xs (s_p s 81 1 v)) := mk_fp (by decide) (by decide) rfl (Nat.le_of_ble_eq_true rfl) (x_ok_int v) rfl s_p_o
theorem f_81_2 : x_fl (mkH xs s) 81 7 2 = some (.int (s.1 81 2)) := mk_fl (by decide) (by decide) rfl rfl
theorem p_81_2 (v : Int32) : x_fp (mkH xs s) 81 7 2 (.int v) = some (mkH xs (s_p s 81 2 v)) := mk_fp (by decide) (by decide) rfl (Nat.le_of_ble_eq_true rfl) (x_ok_int v) rfl s_p_o
theorem f_81_3 : x_fl (mkH xs s) 81 7 3 = some (.ref 82) := mk_fl (by decide) (by decide) rfl rfl
theorem e_82 (i : Int32) : x_le (mkH xs s) 82 i = x_rd (s.2 82) 60 i := mk_le (by decide) (by decide) (fun _ => rfl) i
theorem i_82 (i : Int32) (v : Int64) : x_lp (mkH xs s) 82 i v = (x_rd (s.2 82) 60 i).map (fun _ => mkH xs (s_l s 82 i.toNatClampNeg v)) := mk_lp (by decide) (by decide) (fun _ => rfl) i v
theorem c_83 : x_cls (mkH xs s) 83 7 = true := mk_cls (by decide) (by decide) rfl
theorem f_83_0 : x_fl (mkH xs s) 83 7 0 = some (.int (s.1 83 0)) := mk_fl (by decide) (by decide) rfl rfl
theorem p_83_0_0 : x_fp (mkH xs s) 83 7 0 (.int 0) = some (mkH xs (s_p s 83 0 0)) := mk_fp (by decide) (by decide) rfl (Nat.le_of_ble_eq_true rfl) (by decide) rfl s_p_o
theorem p_83_0_1 : x_fp (mkH xs s) 83 7 0 (.int 1) = some (mkH xs (s_p s 83 0 1)) := mk_fp (by decide) (by decide) rfl (Nat.le_of_ble_eq_true rfl) (by decide) rfl s_p_o
theorem f_83_1 : x_fl (mkH xs s) 83 7 1 = some (.int (s.1 83 1)) := mk_fl (by decide) (by decide) rfl rfl
theorem p_83_1 (v : Int32) : x_fp (mkH xs s) 83 7 1 (.int v) = some (mkH xs (s_p s 83 1 v)) := mk_fp (by decide) (by decide) rfl (Nat.le_of_ble_eq_true rfl) (x_ok_int v) rfl s_p_o
theorem f_83_2 : x_fl (mkH xs s) 83 7 2 = some (.int (s.1 83 2)) := mk_fl (by decide) (by decide) rfl rfl
theorem p_83_2 (v : Int32) : x_fp (mkH xs s) 83 7 2 (.int v) = some (mkH xs (s_p s 83 2 v)) := mk_fp (by decide) (by decide) rfl (Nat.le_of_ble_eq_true rfl) (x_ok_int v) rfl s_p_o
theorem f_83_3 : x_fl (mkH xs s) 83 7 3 = some (.ref 84) := mk_fl (by decide) (by decide) rfl rfl
theorem e_84 (i : Int32) : x_le (mkH xs s) 84 i = x_rd (s.2 84) 60 i := mk_le (by decide) (by decide) (fun _ => rfl) i
theorem i_84 (i : Int32) (v : Int64) : x_lp (mkH xs s) 84 i v = (x_rd (s.2 84) 60 i).map (fun _ => mkH xs (s_l s 84 i.toNatClampNeg v)) := mk_lp (by decide) (by decide) (fun _ => rfl) i v
theorem e_85 (i : Int32) : x_qe (mkH xs s) 85 i = x_rd (fun k => 86 + 8 * k) 3 i := mk_qe (kd := 6) (by decide) (by decide) (by decide) rfl i
theorem c_86 : x_cls (mkH xs s) 86 2 = true := mk_cls (by decide) (by decide) rfl
theorem f_86_0 : x_fl (mkH xs s) 86 2 0 = some (.int (s.1 86 0)) := mk_fl (by decide) (by decide) rfl rfl
theorem p_86_0_0 : x_fp (mkH xs s) 86 2 0 (.int 0) = some (mkH xs (s_p s 86 0 0)) := mk_fp (by decide) (by decide) rfl (Nat.le_of_ble_eq_true rfl) (by decide) rfl s_p_o
theorem p_86_0_1 : x_fp (mkH xs s) 86 2 0 (.int 1) = some (mkH xs (s_p s 86 0 1)) := mk_fp (by decide) (by decide) rfl (Nat.le_of_ble_eq_true rfl) (by decide) rfl s_p_o
theorem f_86_1 : x_fl (mkH xs s) 86 2 1 = some (.ref 87) := mk_fl (by decide) (by decide) rfl rfl
theorem f_86_2 : x_fl (mkH xs s) 86 2 2 = some (.ref 93) := mk_fl (by decide) (by decide) rfl rfl
theorem f_86_3 : x_fl (mkH xs s) 86 2 3 = some (.int (s.1 86 3)) := mk_fl (by decide) (by decide) rfl rfl
theorem p_86_3 (v : Int32) : x_fp (mkH xs s) 86 2 3 (.int v) = some (mkH xs (s_p s 86 3 v)) := mk_fp (by decide) (by decide) rfl (Nat.le_of_ble_eq_true rfl) (x_ok_int v) rfl s_p_o
theorem c_87 : x_cls (mkH xs s) 87 9 = true := mk_cls (by decide) (by decide) rfl
theorem f_87_0 : x_fl (mkH xs s) 87 9 0 = some (.int (s.1 87 0)) := mk_fl (by decide) (by decide) rfl rfl
theorem p_87_0 (v : Int32) : x_fp (mkH xs s) 87 9 0 (.int v) = some (mkH xs (s_p s 87 0 v)) := mk_fp (by decide) (by decide) rfl (Nat.le_of_ble_eq_true rfl) (x_ok_int v) rfl s_p_o
theorem f_87_1 : x_fl (mkH xs s) 87 9 1 = some (.int (s.1 87 1)) := mk_fl (by decide) (by decide) rfl rfl
theorem p_87_1 (v : Int32) : x_fp (mkH xs s) 87 9 1 (.int v) = some (mkH xs (s_p s 87 1 v)) := mk_fp (by decide) (by decide) rfl (Nat.le_of_ble_eq_true rfl) (x_ok_int v) rfl s_p_o
theorem f_87_2 : x_fl (mkH xs s) 87 9 2 = some (.int (s.1 87 2)) := mk_fl (by decide) (by decide) rfl rfl
theorem p_87_2 (v : Int32) : x_fp (mkH xs s) 87 9 2 (.int v) = some (mkH xs (s_p s 87 2 v)) := mk_fp (by decide) (by decide) rfl (Nat.le_of_ble_eq_true rfl) (x_ok_int v) rfl s_p_o
theorem f_87_3 : x_fl (mkH xs s) 87 9 3 = some (.int (s.1 87 3)) := mk_fl (by decide) (by decide) rfl rfl
theorem p_87_3 (v : Int32) : x_fp (mkH xs s) 87 9 3 (.int v) = some (mkH xs (s_p s 87 3 v)) := mk_fp (by decide) (by decide) rfl (Nat.le_of_ble_eq_true rfl) (x_ok_int v) rfl s_p_o
theorem f_87_4 : x_fl (mkH xs s) 87 9 4 = some (.int (s.1 87 4)) := mk_fl (by decide) (by decide) rfl rfl
theorem p_87_4 (v : Int32) : x_fp (mkH xs s) 87 9 4 (.int v) = some (mkH xs (s_p s 87 4 v)) := mk_fp (by decide) (by decide) rfl (Nat.le_of_ble_eq_true rfl) (x_ok_int v) rfl s_p_o
theorem f_87_5 : x_fl (mkH xs s) 87 9 5 = some (.int (s.1 87 5)) := mk_fl (by decide) (by decide) rfl rfl
theorem p_87_5 (v : Int32) : x_fp (mkH xs s) 87 9 5 (.int v) = some (mkH xs (s_p s 87 5 v)) := mk_fp (by decide) (by decide) rfl (Nat.le_of_ble_eq_true rfl) (x_ok_int v) rfl s_p_o
theorem f_87_6 : x_fl (mkH xs s) 87 9 6 = some (.int (s.1 87 6)) := mk_fl (by decide) (by decide) rfl rfl
theorem p_87_6 (v : Int32) : x_fp (mkH xs s) 87 9 6 (.int v) = some (mkH xs (s_p s 87 6 v)) := mk_fp (by decide) (by decide) rfl (Nat.le_of_ble_eq_true rfl) (x_ok_int v) rfl s_p_o
theorem f_87_7 : x_fl (mkH xs s) 87 9 7 = some (.int (s.1 87 7)) := mk_fl (by decide) (by decide) rfl rfl
theorem p_87_7 (v : Int32) : x_fp (mkH xs s) 87 9 7 (.int v) = some (mkH xs (s_p s 87 7 v)) := mk_fp (by decide) (by decide) rfl (Nat.le_of_ble_eq_true rfl) (x_ok_int v) rfl s_p_o
theorem f_87_8 : x_fl (mkH xs s) 87 9 8 = some (.int (s.1 87 8)) := mk_fl (by decide) (by decide) rfl rfl
theorem p_87_8 (v : Int32) : x_fp (mkH xs s) 87 9 8 (.int v) = some (mkH xs (s_p s 87 8 v)) := mk_fp (by decide) (by decide) rfl (Nat.le_of_ble_eq_true rfl) (x_ok_int v) rfl s_p_o
theorem f_87_9 : x_fl (mkH xs s) 87 9 9 = some (.ref 88) := mk_fl (by decide) (by decide) rfl rfl
theorem f_87_10 : x_fl (mkH xs s) 87 9 10 = some (.ref 89) := mk_fl (by decide) (by decide) rfl rfl
theorem f_87_11 : x_fl (mkH xs s) 87 9 11 = some (.ref 90) := mk_fl (by decide) (by decide) rfl rfl
theorem f_87_12 : x_fl (mkH xs s) 87 9 12 = some (.ref 91) := mk_fl (by decide) (by decide) rfl rfl
theorem f_87_13 : x_fl (mkH xs s) 87 9 13 = some (.ref 92) := mk_fl (by decide) (by decide) rfl rfl
theorem e_88 (i : Int32) : x_ie (mkH xs s) 88 i = x_rd (s.1 88) 6 i := mk_ie (kd := 0) (by decide) (by decide) (Or.inl rfl) (fun _ => rfl) i
theorem i_88 (i v : Int32) : x_ip (mkH xs s) 88 i v = (x_rd (s.1 88) 6 i).map (fun _ => mkH xs (s_p s 88 i.toNatClampNeg v)) := mk_ip (by decide) (by decide) (fun _ => rfl) i v
theorem e_89 (i : Int32) : x_ie (mkH xs s) 89 i = x_rd (s.1 89) 6 i := mk_ie (kd := 0) (by decide) (by decide) (Or.inl rfl) (fun _ => rfl) i
theorem i_89 (i v : Int32) : x_ip (mkH xs s) 89 i v = (x_rd (s.1 89) 6 i).map (fun _ => mkH xs (s_p s 89 i.toNatClampNeg v)) := mk_ip (by decide) (by decide) (fun _ => rfl) i v
theorem e_90 (i : Int32) : x_ie (mkH xs s) 90 i = x_rd (s.1 90) 16 i := mk_ie (kd := 0) (by decide) (by decide) (Or.inl rfl) (fun _ => rfl) i
theorem i_90 (i v : Int32) : x_ip (mkH xs s) 90 i v = (x_rd (s.1 90) 16 i).map (fun _ => mkH xs (s_p s 90 i.toNatClampNeg v)) := mk_ip (by decide) (by decide) (fun _ => rfl) i v
theorem e_91 (i : Int32) : x_ie (mkH xs s) 91 i = x_rd (s.1 91) 8 i := mk_ie (kd := 0) (by decide) (by decide) (Or.inl rfl) (fun _ => rfl) i
theorem i_91 (i v : Int32) : x_ip (mkH xs s) 91 i v = (x_rd (s.1 91) 8 i).map (fun _ => mkH xs (s_p s 91 i.toNatClampNeg v)) := mk_ip (by decide) (by decide) (fun _ => rfl) i v
theorem e_92 (i : Int32) : x_ie (mkH xs s) 92 i = x_rd (s.1 92) 48 i := mk_ie (kd := 0) (by decide) (by decide) (Or.inl rfl) (fun _ => rfl) i
theorem i_92 (i v : Int32) : x_ip (mkH xs s) 92 i v = (x_rd (s.1 92) 48 i).map (fun _ => mkH xs (s_p s 92 i.toNatClampNeg v)) := mk_ip (by decide) (by decide) (fun _ => rfl) i v
theorem e_93 (i : Int32) : x_ie (mkH xs s) 93 i = x_rd (s.1 93) 60 i := mk_ie (kd := 0) (by decide) (by decide) (Or.inl rfl) (fun _ => rfl) i
theorem i_93 (i v : Int32) : x_ip (mkH xs s) 93 i v = (x_rd (s.1 93) 60 i).map (fun _ => mkH xs (s_p s 93 i.toNatClampNeg v)) := mk_ip (by decide) (by decide) (fun _ => rfl) i v
theorem c_94 : x_cls (mkH xs s) 94 2 = true := mk_cls (by decide) (by decide) rfl
theorem f_94_0 : x_fl (mkH xs s) 94 2 0 = some (.int (s.1 94 0)) := mk_fl (by decide) (by decide) rfl rfl
theorem p_94_0_0 : x_fp (mkH xs s) 94 2 0 (.int 0) = some (mkH xs (s_p s 94 0 0)) := mk_fp (by decide) (by decide) rfl (Nat.le_of_ble_eq_true rfl) (by decide) rfl s_p_o
theorem p_94_0_1 : x_fp (mkH xs s) 94 2 0 (.int 1) = some (mkH xs (s_p s 94 0 1)) := mk_fp (by decide) (by decide) rfl (Nat.le_of_ble_eq_true rfl) (by decide) rfl s_p_o
theorem f_94_1 : x_fl (mkH xs s) 94 2 1 = some (.ref 95) := mk_fl (by decide) (by decide) rfl rfl
theorem f_94_2 : x_fl (mkH xs s) 94 2 2 = some (.ref 101) := mk_fl (by decide) (by decide) rfl rfl
theorem f_94_3 : x_fl (mkH xs s) 94 2 3 = some (.int (s.1 94 3)) := mk_fl (by decide) (by decide) rfl rfl
theorem p_94_3 (v : Int32) : x_fp (mkH xs s) 94 2 3 (.int v) = some (mkH xs (s_p s 94 3 v)) := mk_fp (by decide) (by decide) rfl (Nat.le_of_ble_eq_true rfl) (x_ok_int v) rfl s_p_o
theorem c_95 : x_cls (mkH xs s) 95 9 = true := mk_cls (by decide) (by decide) rfl
theorem f_95_0 : x_fl (mkH xs s) 95 9 0 = some (.int (s.1 95 0)) := mk_fl (by decide) (by decide) rfl rfl
theorem p_95_0 (v : Int32) : x_fp (mkH xs s) 95 9 0 (.int v) = some (mkH xs (s_p s 95 0 v)) := mk_fp (by decide) (by decide) rfl (Nat.le_of_ble_eq_true rfl) (x_ok_int v) rfl s_p_o
theorem f_95_1 : x_fl (mkH xs s) 95 9 1 = some (.int (s.1 95 1)) := mk_fl (by decide) (by decide) rfl rfl
theorem p_95_1 (v : Int32) : x_fp (mkH xs s) 95 9 1 (.int v) = some (mkH xs (s_p s 95 1 v)) := mk_fp (by decide) (by decide) rfl (Nat.le_of_ble_eq_true rfl) (x_ok_int v) rfl s_p_o
theorem f_95_2 : x_fl (mkH xs s) 95 9 2 = some (.int (s.1 95 2)) := mk_fl (by decide) (by decide) rfl rfl
theorem p_95_2 (v : Int32) : x_fp (mkH xs s) 95 9 2 (.int v) = some (mkH xs (s_p s 95 2 v)) := mk_fp (by decide) (by decide) rfl (Nat.le_of_ble_eq_true rfl) (x_ok_int v) rfl s_p_o
theorem f_95_3 : x_fl (mkH xs s) 95 9 3 = some (.int (s.1 95 3)) := mk_fl (by decide) (by decide) rfl rfl
theorem p_95_3 (v : Int32) : x_fp (mkH xs s) 95 9 3 (.int v) = some (mkH xs (s_p s 95 3 v)) := mk_fp (by decide) (by decide) rfl (Nat.le_of_ble_eq_true rfl) (x_ok_int v) rfl s_p_o
theorem f_95_4 : x_fl (mkH xs s) 95 9 4 = some (.int (s.1 95 4)) := mk_fl (by decide) (by decide) rfl rfl
theorem p_95_4 (v : Int32) : x_fp (mkH xs s) 95 9 4 (.int v) = some (mkH xs (s_p s 95 4 v)) := mk_fp (by decide) (by decide) rfl (Nat.le_of_ble_eq_true rfl) (x_ok_int v) rfl s_p_o
theorem f_95_5 : x_fl (mkH xs s) 95 9 5 = some (.int (s.1 95 5)) := mk_fl (by decide) (by decide) rfl rfl
theorem p_95_5 (v : Int32) : x_fp (mkH xs s) 95 9 5 (.int v) = some (mkH xs (s_p s 95 5 v)) := mk_fp (by decide) (by decide) rfl (Nat.le_of_ble_eq_true rfl) (x_ok_int v) rfl s_p_o
theorem f_95_6 : x_fl (mkH xs s) 95 9 6 = some (.int (s.1 95 6)) := mk_fl (by decide) (by decide) rfl rfl
theorem p_95_6 (v : Int32) : x_fp (mkH xs s) 95 9 6 (.int v) = some (mkH xs (s_p s 95 6 v)) := mk_fp (by decide) (by decide) rfl (Nat.le_of_ble_eq_true rfl) (x_ok_int v) rfl s_p_o
theorem f_95_7 : x_fl (mkH xs s) 95 9 7 = some (.int (s.1 95 7)) := mk_fl (by decide) (by decide) rfl rfl
theorem p_95_7 (v : Int32) : x_fp (mkH xs s) 95 9 7 (.int v) = some (mkH xs (s_p s 95 7 v)) := mk_fp (by decide) (by decide) rfl (Nat.le_of_ble_eq_true rfl) (x_ok_int v) rfl s_p_o
theorem f_95_8 : x_fl (mkH xs s) 95 9 8 = some (.int (s.1 95 8)) := mk_fl (by decide) (by decide) rfl rfl
theorem p_95_8 (v : Int32) : x_fp (mkH xs s) 95 9 8 (.int v) = some (mkH xs (s_p s 95 8 v)) := mk_fp (by decide) (by decide) rfl (Nat.le_of_ble_eq_true rfl) (x_ok_int v) rfl s_p_o
theorem f_95_9 : x_fl (mkH xs s) 95 9 9 = some (.ref 96) := mk_fl (by decide) (by decide) rfl rfl
theorem f_95_10 : x_fl (mkH xs s) 95 9 10 = some (.ref 97) := mk_fl (by decide) (by decide) rfl rfl
theorem f_95_11 : x_fl (mkH xs s) 95 9 11 = some (.ref 98) := mk_fl (by decide) (by decide) rfl rfl
theorem f_95_12 : x_fl (mkH xs s) 95 9 12 = some (.ref 99) := mk_fl (by decide) (by decide) rfl rfl
theorem f_95_13 : x_fl (mkH xs s) 95 9 13 = some (.ref 100) := mk_fl (by decide) (by decide) rfl rfl
theorem e_96 (i : Int32) : x_ie (mkH xs s) 96 i = x_rd (s.1 96) 6 i := mk_ie (kd := 0) (by decide) (by decide) (Or.inl rfl) (fun _ => rfl) i
theorem i_96 (i v : Int32) : x_ip (mkH xs s) 96 i v = (x_rd (s.1 96) 6 i).map (fun _ => mkH xs (s_p s 96 i.toNatClampNeg v)) := mk_ip (by decide) (by decide) (fun _ => rfl) i v
theorem e_97 (i : Int32) : x_ie (mkH xs s) 97 i = x_rd (s.1 97) 6 i := mk_ie (kd := 0) (by decide) (by decide) (Or.inl rfl) (fun _ => rfl) i
theorem i_97 (i v : Int32) : x_ip (mkH xs s) 97 i v = (x_rd (s.1 97) 6 i).map (fun _ => mkH xs (s_p s 97 i.toNatClampNeg v)) := mk_ip (by decide) (by decide) (fun _ => rfl) i v
theorem e_98 (i : Int32) : x_ie (mkH xs s) 98 i = x_rd (s.1 98) 16 i := mk_ie (kd := 0) (by decide) (by decide) (Or.inl rfl) (fun _ => rfl) i
theorem i_98 (i v : Int32) : x_ip (mkH xs s) 98 i v = (x_rd (s.1 98) 16 i).map (fun _ => mkH xs (s_p s 98 i.toNatClampNeg v)) := mk_ip (by decide) (by decide) (fun _ => rfl) i v
theorem e_99 (i : Int32) : x_ie (mkH xs s) 99 i = x_rd (s.1 99) 8 i := mk_ie (kd := 0) (by decide) (by decide) (Or.inl rfl) (fun _ => rfl) i
theorem i_99 (i v : Int32) : x_ip (mkH xs s) 99 i v = (x_rd (s.1 99) 8 i).map (fun _ => mkH xs (s_p s 99 i.toNatClampNeg v)) := mk_ip (by decide) (by decide) (fun _ => rfl) i v
theorem e_100 (i : Int32) : x_ie (mkH xs s) 100 i = x_rd (s.1 100) 48 i := mk_ie (kd := 0) (by decide) (by decide) (Or.inl rfl) (fun _ => rfl) i
theorem i_100 (i v : Int32) : x_ip (mkH xs s) 100 i v = (x_rd (s.1 100) 48 i).map (fun _ => mkH xs (s_p s 100 i.toNatClampNeg v)) := mk_ip (by decide) (by decide) (fun _ => rfl) i v
theorem e_101 (i : Int32) : x_ie (mkH xs s) 101 i = x_rd (s.1 101) 60 i := mk_ie (kd := 0) (by decide) (by decide) (Or.inl rfl) (fun _ => rfl) i
theorem i_101 (i v : Int32) : x_ip (mkH xs s) 101 i v = (x_rd (s.1 101) 60 i).map (fun _ => mkH xs (s_p s 101 i.toNatClampNeg v)) := mk_ip (by decide) (by decide) (fun _ => rfl) i v
theorem c_102 : x_cls (mkH xs s) 102 2 = true := mk_cls (by decide) (by decide) rfl
theorem f_102_0 : x_fl (mkH xs s) 102 2 0 = some (.int (s.1 102 0)) := mk_fl (by decide) (by decide) rfl rfl
theorem p_102_0_0 : x_fp (mkH xs s) 102 2 0 (.int 0) = some (mkH xs (s_p s 102 0 0)) := mk_fp (by decide) (by decide) rfl (Nat.le_of_ble_eq_true rfl) (by decide) rfl s_p_o
theorem p_102_0_1 : x_fp (mkH xs s) 102 2 0 (.int 1) = some (mkH xs (s_p s 102 0 1)) := mk_fp (by decide) (by decide) rfl (Nat.le_of_ble_eq_true rfl) (by decide) rfl s_p_o
theorem f_102_1 : x_fl (mkH xs s) 102 2 1 = some (.ref 103) := mk_fl (by decide) (by decide) rfl rfl
theorem f_102_2 : x_fl (mkH xs s) 102 2 2 = some (.ref 109) := mk_fl (by decide) (by decide) rfl rfl
theorem f_102_3 : x_fl (mkH xs s) 102 2 3 = some (.int (s.1 102 3)) := mk_fl (by decide) (by decide) rfl rfl
theorem p_102_3 (v : Int32) : x_fp (mkH xs s) 102 2 3 (.int v) = some (mkH xs (s_p s 102 3 v)) := mk_fp (by decide) (by decide) rfl (Nat.le_of_ble_eq_true rfl) (x_ok_int v) rfl s_p_o
theorem c_103 : x_cls (mkH xs s) 103 9 = true := mk_cls (by decide) (by decide) rfl
theorem f_103_0 : x_fl (mkH xs s) 103 9 0 = some (.int (s.1 103 0)) := mk_fl (by decide) (by decide) rfl rfl
theorem p_103_0 (v : Int32) : x_fp (mkH xs s) 103 9 0 (.int v) = some (mkH xs (s_p s 103 0 v)) := mk_fp (by decide) (by decide) rfl (Nat.le_of_ble_eq_true rfl) (x_ok_int v) rfl s_p_o
theorem f_103_1 : x_fl (mkH xs s) 103 9 1 = some (.int (s.1 103 1)) := mk_fl (by decide) (by decide) rfl rfl
theorem p_103_1 (v : Int32) : x_fp (mkH xs s) 103 9 1 (.int v) = some (mkH xs (s_p s 103 1 v)) := mk_fp (by decide) (by decide) rfl (Nat.le_of_ble_eq_true rfl) (x_ok_int v) rfl s_p_o
theorem f_103_2 : x_fl (mkH xs s) 103 9 2 = some (.int (s.1 103 2)) := mk_fl (by decide) (by decide) rfl rfl
theorem p_103_2 (v : Int32) : x_fp (mkH xs s) 103 9 2 (.int v) = some (mkH xs (s_p s 103 2 v)) := mk_fp (by decide) (by decide) rfl (Nat.le_of_ble_eq_true rfl) (x_ok_int v) rfl s_p_o
theorem f_103_3 : x_fl (mkH xs s) 103 9 3 = some (.int (s.1 103 3)) := mk_fl (by decide) (by decide) rfl rfl
theorem p_103_3 (v : Int32) : x_fp (mkH xs s) 103 9 3 (.int v) = some (mkH xs (s_p s 103 3 v)) := mk_fp (by decide) (by decide) rfl (Nat.le_of_ble_eq_true rfl) (x_ok_int v) rfl s_p_o
theorem f_103_4 : x_fl (mkH xs s) 103 9 4 = some (.int (s.1 103 4)) := mk_fl (by decide) (by decide) rfl rfl
theorem p_103_4 (v : Int32) : x_fp (mkH xs s) 103 9 4 (.int v) = some (mkH xs (s_p s 103 4 v)) := mk_fp (by decide) (by decide) rfl (Nat.le_of_ble_eq_true rfl) (x_ok_int v) rfl s_p_o
theorem f_103_5 : x_fl (mkH xs s) 103 9 5 = some (.int (s.1 103 5)) := mk_fl (by decide) (by decide) rfl rfl
theorem p_103_5 (v : Int32) : x_fp (mkH xs s) 103 9 5 (.int v) = some (mkH xs (s_p s 103 5 v)) := mk_fp (by decide) (by decide) rfl (Nat.le_of_ble_eq_true rfl) (x_ok_int v) rfl s_p_o
theorem f_103_6 : x_fl (mkH xs s) 103 9 6 = some (.int (s.1 103 6)) := mk_fl (by decide) (by decide) rfl rfl
theorem p_103_6 (v : Int32) : x_fp (mkH xs s) 103 9 6 (.int v) = some (mkH xs (s_p s 103 6 v)) := mk_fp (by decide) (by decide) rfl (Nat.le_of_ble_eq_true rfl) (x_ok_int v) rfl s_p_o
theorem f_103_7 : x_fl (mkH xs s) 103 9 7 = some (.int (s.1 103 7)) := mk_fl (by decide) (by decide) rfl rfl
theorem p_103_7 (v : Int32) : x_fp (mkH xs s) 103 9 7 (.int v) = some (mkH xs (s_p s 103 7 v)) := mk_fp (by decide) (by decide) rfl (Nat.le_of_ble_eq_true rfl) (x_ok_int v) rfl s_p_o
theorem f_103_8 : x_fl (mkH xs s) 103 9 8 = some (.int (s.1 103 8)) := mk_fl (by decide) (by decide) rfl rfl
theorem p_103_8 (v : Int32) : x_fp (mkH xs s) 103 9 8 (.int v) = some (mkH xs (s_p s 103 8 v)) := mk_fp (by decide) (by decide) rfl (Nat.le_of_ble_eq_true rfl) (x_ok_int v) rfl s_p_o
theorem f_103_9 : x_fl (mkH xs s) 103 9 9 = some (.ref 104) := mk_fl (by decide) (by decide) rfl rfl
theorem f_103_10 : x_fl (mkH xs s) 103 9 10 = some (.ref 105) := mk_fl (by decide) (by decide) rfl rfl
theorem f_103_11 : x_fl (mkH xs s) 103 9 11 = some (.ref 106) := mk_fl (by decide) (by decide) rfl rfl
theorem f_103_12 : x_fl (mkH xs s) 103 9 12 = some (.ref 107) := mk_fl (by decide) (by decide) rfl rfl
theorem f_103_13 : x_fl (mkH xs s) 103 9 13 = some (.ref 108) := mk_fl (by decide) (by decide) rfl rfl
theorem e_104 (i : Int32) : x_ie (mkH xs s) 104 i = x_rd (s.1 104) 6 i := mk_ie (kd := 0) (by decide) (by decide) (Or.inl rfl) (fun _ => rfl) i
theorem i_104 (i v : Int32) : x_ip (mkH xs s) 104 i v = (x_rd (s.1 104) 6 i).map (fun _ => mkH xs (s_p s 104 i.toNatClampNeg v)) := mk_ip (by decide) (by decide) (fun _ => rfl) i v
theorem e_105 (i : Int32) : x_ie (mkH xs s) 105 i = x_rd (s.1 105) 6 i := mk_ie (kd := 0) (by decide) (by decide) (Or.inl rfl) (fun _ => rfl) i
theorem i_105 (i v : Int32) : x_ip (mkH xs s) 105 i v = (x_rd (s.1 105) 6 i).map (fun _ => mkH xs (s_p s 105 i.toNatClampNeg v)) := mk_ip (by decide) (by decide) (fun _ => rfl) i v
theorem e_106 (i : Int32) : x_ie (mkH xs s) 106 i = x_rd (s.1 106) 16 i := mk_ie (kd := 0) (by decide) (by decide) (Or.inl rfl) (fun _ => rfl) i
theorem i_106 (i v : Int32) : x_ip (mkH xs s) 106 i v = (x_rd (s.1 106) 16 i).map (fun _ => mkH xs (s_p s 106 i.toNatClampNeg v)) := mk_ip (by decide) (by decide) (fun _ => rfl) i v
theorem e_107 (i : Int32) : x_ie (mkH xs s) 107 i = x_rd (s.1 107) 8 i := mk_ie (kd := 0) (by decide) (by decide) (Or.inl rfl) (fun _ => rfl) i
theorem i_107 (i v : Int32) : x_ip (mkH xs s) 107 i v = (x_rd (s.1 107) 8 i).map (fun _ => mkH xs (s_p s 107 i.toNatClampNeg v)) := mk_ip (by decide) (by decide) (fun _ => rfl) i v
theorem e_108 (i : Int32) : x_ie (mkH xs s) 108 i = x_rd (s.1 108) 48 i := mk_ie (kd := 0) (by decide) (by decide) (Or.inl rfl) (fun _ => rfl) i
theorem i_108 (i v : Int32) : x_ip (mkH xs s) 108 i v = (x_rd (s.1 108) 48 i).map (fun _ => mkH xs (s_p s 108 i.toNatClampNeg v)) := mk_ip (by decide) (by decide) (fun _ => rfl) i v
theorem e_109 (i : Int32) : x_ie (mkH xs s) 109 i = x_rd (s.1 109) 60 i := mk_ie (kd := 0) (by decide) (by decide) (Or.inl rfl) (fun _ => rfl) i
theorem i_109 (i v : Int32) : x_ip (mkH xs s) 109 i v = (x_rd (s.1 109) 60 i).map (fun _ => mkH xs (s_p s 109 i.toNatClampNeg v)) := mk_ip (by decide) (by decide) (fun _ => rfl) i v
theorem c_110 : x_cls (mkH xs s) 110 12 = true := mk_cls (by decide) (by decide) rfl
theorem f_110_0 : x_fl (mkH xs s) 110 12 0 = some (.int (s.1 110 0)) := mk_fl (by decide) (by decide) rfl rfl
theorem p_110_0 (v : Int32) : x_fp (mkH xs s) 110 12 0 (.int v) = some (mkH xs (s_p s 110 0 v)) := mk_fp (by decide) (by decide) rfl (Nat.le_of_ble_eq_true rfl) (x_ok_int v) rfl s_p_o
theorem f_110_1 : x_fl (mkH xs s) 110 12 1 = some (.ref 111) := mk_fl (by decide) (by decide) rfl rfl
theorem f_110_2 : x_fl (mkH xs s) 110 12 2 = some (.ref 112) := mk_fl (by decide) (by decide) rfl rfl
theorem f_110_3 : x_fl (mkH xs s) 110 12 3 = some (.ref 113) := mk_fl (by decide) (by decide) rfl rfl
theorem f_110_4 : x_fl (mkH xs s) 110 12 4 = some (.ref 114) := mk_fl (by decide) (by decide) rfl rfl
theorem f_110_5 : x_fl (mkH xs s) 110 12 5 = some (.int (s.1 110 5)) := mk_fl (by decide) (by decide) rfl rfl
theorem p_110_5 (v : Int32) : x_fp (mkH xs s) 110 12 5 (.int v) = some (mkH xs (s_p s 110 5 v)) := mk_fp (by decide) (by decide) rfl (Nat.le_of_ble_eq_true rfl) (x_ok_int v) rfl s_p_o
theorem f_110_6 : x_fl (mkH xs s) 110 12 6 = some (.ref 115) := mk_fl (by decide) (by decide) rfl rfl
theorem f_110_7 : x_fl (mkH xs s) 110 12 7 = some (.int (s.1 110 7)) := mk_fl (by decide) (by decide) rfl rfl
theorem p_110_7 (v : Int32) : x_fp (mkH xs s) 110 12 7 (.int v) = some (mkH xs (s_p s 110 7 v)) := mk_fp (by decide) (by decide) rfl (Nat.le_of_ble_eq_true rfl) (x_ok_int v) rfl s_p_o
theorem f_110_8 : x_fl (mkH xs s) 110 12 8 = some (.int (s.1 110 8)) := mk_fl (by decide) (by decide) rfl rfl
theorem p_110_8 (v : Int32) : x_fp (mkH xs s) 110 12 8 (.int v) = some (mkH xs (s_p s 110 8 v)) := mk_fp (by decide) (by decide) rfl (Nat.le_of_ble_eq_true rfl) (x_ok_int v) rfl s_p_o
theorem f_110_9 : x_fl (mkH xs s) 110 12 9 = some (.int (s.1 110 9)) := mk_fl (by decide) (by decide) rfl rfl
theorem p_110_9 (v : Int32) : x_fp (mkH xs s) 110 12 9 (.int v) = some (mkH xs (s_p s 110 9 v)) := mk_fp (by decide) (by decide) rfl (Nat.le_of_ble_eq_true rfl) (x_ok_int v) rfl s_p_o
theorem f_110_10 : x_fl (mkH xs s) 110 12 10 = some (.int (s.1 110 10)) := mk_fl (by decide) (by decide) rfl rfl
theorem p_110_10 (v : Int32) : x_fp (mkH xs s) 110 12 10 (.int v) = some (mkH xs (s_p s 110 10 v)) := mk_fp (by decide) (by decide) rfl (Nat.le_of_ble_eq_true rfl) (x_ok_int v) rfl s_p_o
theorem f_110_11 : x_fl (mkH xs s) 110 12 11 = some (.int (s.1 110 11)) := mk_fl (by decide) (by decide) rfl rfl
theorem p_110_11 (v : Int32) : x_fp (mkH xs s) 110 12 11 (.int v) = some (mkH xs (s_p s 110 11 v)) := mk_fp (by decide) (by decide) rfl (Nat.le_of_ble_eq_true rfl) (x_ok_int v) rfl s_p_o
theorem f_110_12 : x_fl (mkH xs s) 110 12 12 = some (.int (s.1 110 12)) := mk_fl (by decide) (by decide) rfl rfl
theorem p_110_12 (v : Int32) : x_fp (mkH xs s) 110 12 12 (.int v) = some (mkH xs (s_p s 110 12 v)) := mk_fp (by decide) (by decide) rfl (Nat.le_of_ble_eq_true rfl) (x_ok_int v) rfl s_p_o
theorem f_110_13 : x_fl (mkH xs s) 110 12 13 = some (.int (s.1 110 13)) := mk_fl (by decide) (by decide) rfl rfl
theorem p_110_13 (v : Int32) : x_fp (mkH xs s) 110 12 13 (.int v) = some (mkH xs (s_p s 110 13 v)) := mk_fp (by decide) (by decide) rfl (Nat.le_of_ble_eq_true rfl) (x_ok_int v) rfl s_p_o
theorem f_110_14 : x_fl (mkH xs s) 110 12 14 = some (.ref 116) := mk_fl (by decide) (by decide) rfl rfl
theorem f_110_15 : x_fl (mkH xs s) 110 12 15 = some (.ref 117) := mk_fl (by decide) (by decide) rfl rfl
theorem f_110_16 : x_fl (mkH xs s) 110 12 16 = some (.int (s.1 110 16)) := mk_fl (by decide) (by decide) rfl rfl
theorem p_110_16 (v : Int32) : x_fp (mkH xs s) 110 12 16 (.int v) = some (mkH xs (s_p s 110 16 v)) := mk_fp (by decide) (by decide) rfl (Nat.le_of_ble_eq_true rfl) (x_ok_int v) rfl s_p_o
theorem f_110_17 : x_fl (mkH xs s) 110 12 17 = some (.ref 118) := mk_fl (by decide) (by decide) rfl rfl
theorem f_110_18 : x_fl (mkH xs s) 110 12 18 = some (.int (s.1 110 18)) := mk_fl (by decide) (by decide) rfl rfl
theorem p_110_18 (v : Int32) : x_fp (mkH xs s) 110 12 18 (.int v) = some (mkH xs (s_p s 110 18 v)) := mk_fp (by decide) (by decide) rfl (Nat.le_of_ble_eq_true rfl) (x_ok_int v) rfl s_p_o
theorem f_110_19 : x_fl (mkH xs s) 110 12 19 = some (.int (s.1 110 19)) := mk_fl (by decide) (by decide) rfl rfl
theorem p_110_19 (v : Int32) : x_fp (mkH xs s) 110 12 19 (.int v) = some (mkH xs (s_p s 110 19 v)) := mk_fp (by decide) (by decide) rfl (Nat.le_of_ble_eq_true rfl) (x_ok_int v) rfl s_p_o
theorem f_110_20 : x_fl (mkH xs s) 110 12 20 = some (.ref 119) := mk_fl (by decide) (by decide) rfl rfl
theorem f_110_21 : x_fl (mkH xs s) 110 12 21 = some (.int (s.1 110 21)) := mk_fl (by decide) (by decide) rfl rfl
theorem p_110_21 (v : Int32) : x_fp (mkH xs s) 110 12 21 (.int v) = some (mkH xs (s_p s 110 21 v)) := mk_fp (by decide) (by decide) rfl (Nat.le_of_ble_eq_true rfl) (x_ok_int v) rfl s_p_o
theorem f_110_22 : x_fl (mkH xs s) 110 12 22 = some (.int (s.1 110 22)) := mk_fl (by decide) (by decide) rfl rfl
theorem p_110_22 (v : Int32) : x_fp (mkH xs s) 110 12 22 (.int v) = some (mkH xs (s_p s 110 22 v)) := mk_fp (by decide) (by decide) rfl (Nat.le_of_ble_eq_true rfl) (x_ok_int v) rfl s_p_o
theorem f_110_23 : x_fl (mkH xs s) 110 12 23 = some (.ref 120) := mk_fl (by decide) (by decide) rfl rfl
theorem f_110_24 : x_fl (mkH xs s) 110 12 24 = some (.ref 121) := mk_fl (by decide) (by decide) rfl rfl
theorem f_110_25 : x_fl (mkH xs s) 110 12 25 = some (.int (s.1 110 25)) := mk_fl (by decide) (by decide) rfl rfl
theorem p_110_25 (v : Int32) : x_fp (mkH xs s) 110 12 25 (.int v) = some (mkH xs (s_p s 110 25 v)) := mk_fp (by decide) (by decide) rfl (Nat.le_of_ble_eq_true rfl) (x_ok_int v) rfl s_p_o
theorem f_110_26 : x_fl (mkH xs s) 110 12 26 = some (.ref 122) := mk_fl (by decide) (by decide) rfl rfl
theorem f_110_27 : x_fl (mkH xs s) 110 12 27 = some (.ref 123) := mk_fl (by decide) (by decide) rfl rfl
theorem f_110_28 : x_fl (mkH xs s) 110 12 28 = some (.ref 124) := mk_fl (by decide) (by decide) rfl rfl
theorem f_110_29 : x_fl (mkH xs s) 110 12 29 = some (.ref 125) := mk_fl (by decide) (by decide) rfl rfl
theorem f_110_30 : x_fl (mkH xs s) 110 12 30 = some (.ref 126) := mk_fl (by decide) (by decide) rfl rfl
theorem f_110_31 : x_fl (mkH xs s) 110 12 31 = some (.int (s.1 110 31)) := mk_fl (by decide) (by decide) rfl rfl
theorem p_110_31 (v : Int32) : x_fp (mkH xs s) 110 12 31 (.int v) = some (mkH xs (s_p s 110 31 v)) := mk_fp (by decide) (by decide) rfl (Nat.le_of_ble_eq_true rfl) (x_ok_int v) rfl s_p_o
theorem f_110_32 : x_fl (mkH xs s) 110 12 32 = some (.long (s.2 110 32)) := mk_fl (by decide) (by decide) rfl rfl
theorem p_110_32 (v : Int64) : x_fp (mkH xs s) 110 12 32 (.long v) = some (mkH xs (s_l s 110 32 v)) := mk_fp (by decide) (by decide) rfl (Nat.le_of_ble_eq_true rfl) (x_ok_long v) rfl s_l_o
theorem f_110_33 : x_fl (mkH xs s) 110 12 33 = some (.int (s.1 110 33)) := mk_fl (by decide) (by decide) rfl rfl
theorem p_110_33 (v : Int32) : x_fp (mkH xs s) 110 12 33 (.int v) = some (mkH xs (s_p s 110 33 v)) := mk_fp (by decide) (by decide) rfl (Nat.le_of_ble_eq_true rfl) (x_ok_int v) rfl s_p_o
theorem f_110_34 : x_fl (mkH xs s) 110 12 34 = some (.int (s.1 110 34)) := mk_fl (by decide) (by decide) rfl rfl
theorem p_110_34 (v : Int32) : x_fp (mkH xs s) 110 12 34 (.int v) = some (mkH xs (s_p s 110 34 v)) := mk_fp (by decide) (by decide) rfl (Nat.le_of_ble_eq_true rfl) (x_ok_int v) rfl s_p_o
theorem f_110_35 : x_fl (mkH xs s) 110 12 35 = some (.ref 127) := mk_fl (by decide) (by decide) rfl rfl
theorem f_110_36 : x_fl (mkH xs s) 110 12 36 = some (.ref 128) := mk_fl (by decide) (by decide) rfl rfl
theorem f_110_37 : x_fl (mkH xs s) 110 12 37 = some (.ref 129) := mk_fl (by decide) (by decide) rfl rfl
theorem f_110_38 : x_fl (mkH xs s) 110 12 38 = some (.ref 130) := mk_fl (by decide) (by decide) rfl rfl
theorem e_111 (i : Int32) : x_ie (mkH xs s) 111 i = x_rd (s.1 111) 135 i := mk_ie (kd := 0) (by decide) (by decide) (Or.inl rfl) (fun _ => rfl) i
theorem i_111 (i v : Int32) : x_ip (mkH xs s) 111 i v = (x_rd (s.1 111) 135 i).map (fun _ => mkH xs (s_p s 111 i.toNatClampNeg v)) := mk_ip (by decide) (by decide) (fun _ => rfl) i v
theorem e_112 (i : Int32) : x_ie (mkH xs s) 112 i = x_rd (s.1 112) 405 i := mk_ie (kd := 0) (by decide) (by decide) (Or.inl rfl) (fun _ => rfl) i
theorem i_112 (i v : Int32) : x_ip (mkH xs s) 112 i v = (x_rd (s.1 112) 405 i).map (fun _ => mkH xs (s_p s 112 i.toNatClampNeg v)) := mk_ip (by decide) (by decide) (fun _ => rfl) i v
theorem e_113 (i : Int32) : x_be (mkH xs s) 113 i = x_rd (s.1 113) 3 i := mk_be (kd := 2) (by decide) (by decide) (Or.inr rfl) (fun _ => rfl) i
theorem i_113 (i v : Int32) : x_bp (mkH xs s) 113 i v = (x_rd (s.1 113) 3 i).map (fun _ => mkH xs (s_p s 113 i.toNatClampNeg (x_nr 2 v))) := mk_bp (kd := 2) (by decide) (by decide) (Or.inr rfl) (fun _ => rfl) i v
theorem e_114 (i : Int32) : x_be (mkH xs s) 114 i = x_rd (s.1 114) 900 i := mk_be (kd := 1) (by decide) (by decide) (Or.inl rfl) (fun _ => rfl) i
theorem i_114 (i v : Int32) : x_bp (mkH xs s) 114 i v = (x_rd (s.1 114) 900 i).map (fun _ => mkH xs (s_p s 114 i.toNatClampNeg (x_nr 1 v))) := mk_bp (kd := 1) (by decide) (by decide) (Or.inl rfl) (fun _ => rfl) i v
theorem e_115 (i : Int32) : x_ie (mkH xs s) 115 i = x_rd (s.1 115) 5 i := mk_ie (kd := 0) (by decide) (by decide) (Or.inl rfl) (fun _ => rfl) i
theorem i_115 (i v : Int32) : x_ip (mkH xs s) 115 i v = (x_rd (s.1 115) 5 i).map (fun _ => mkH xs (s_p s 115 i.toNatClampNeg v)) := mk_ip (by decide) (by decide) (fun _ => rfl) i v
theorem e_116 (i : Int32) : x_ie (mkH xs s) 116 i = x_rd (s.1 116) 135 i := mk_ie (kd := 0) (by decide) (by decide) (Or.inl rfl) (fun _ => rfl) i
theorem i_116 (i v : Int32) : x_ip (mkH xs s) 116 i v = (x_rd (s.1 116) 135 i).map (fun _ => mkH xs (s_p s 116 i.toNatClampNeg v)) := mk_ip (by decide) (by decide) (fun _ => rfl) i v
theorem e_117 (i : Int32) : x_ie (mkH xs s) 117 i = x_rd (s.1 117) 8 i := mk_ie (kd := 0) (by decide) (by decide) (Or.inl rfl) (fun _ => rfl) i
theorem i_117 (i v : Int32) : x_ip (mkH xs s) 117 i v = (x_rd (s.1 117) 8 i).map (fun _ => mkH xs (s_p s 117 i.toNatClampNeg v)) := mk_ip (by decide) (by decide) (fun _ => rfl) i v
theorem e_118 (i : Int32) : x_ie (mkH xs s) 118 i = x_rd (s.1 118) 6 i := mk_ie (kd := 0) (by decide) (by decide) (Or.inl rfl) (fun _ => rfl) i
theorem i_118 (i v : Int32) : x_ip (mkH xs s) 118 i v = (x_rd (s.1 118) 6 i).map (fun _ => mkH xs (s_p s 118 i.toNatClampNeg v)) := mk_ip (by decide) (by decide) (fun _ => rfl) i v
theorem e_119 (i : Int32) : x_ie (mkH xs s) 119 i = x_rd (s.1 119) 1000 i := mk_ie (kd := 0) (by decide) (by decide) (Or.inl rfl) (fun _ => rfl) i
theorem i_119 (i v : Int32) : x_ip (mkH xs s) 119 i v = (x_rd (s.1 119) 1000 i).map (fun _ => mkH xs (s_p s 119 i.toNatClampNeg v)) := mk_ip (by decide) (by decide) (fun _ => rfl) i v
theorem e_120 (i : Int32) : x_ie (mkH xs s) 120 i = x_rd (s.1 120) 8 i := mk_ie (kd := 0) (by decide) (by decide) (Or.inl rfl) (fun _ => rfl) i
theorem i_120 (i v : Int32) : x_ip (mkH xs s) 120 i v = (x_rd (s.1 120) 8 i).map (fun _ => mkH xs (s_p s 120 i.toNatClampNeg v)) := mk_ip (by decide) (by decide) (fun _ => rfl) i v
theorem e_121 (i : Int32) : x_ie (mkH xs s) 121 i = x_rd (s.1 121) 8 i := mk_ie (kd := 0) (by decide) (by decide) (Or.inl rfl) (fun _ => rfl) i
theorem i_121 (i v : Int32) : x_ip (mkH xs s) 121 i v = (x_rd (s.1 121) 8 i).map (fun _ => mkH xs (s_p s 121 i.toNatClampNeg v)) := mk_ip (by decide) (by decide) (fun _ => rfl) i v
theorem e_122 (i : Int32) : x_be (mkH xs s) 122 i = x_rd (s.1 122) 256 i := mk_be (kd := 2) (by decide) (by decide) (Or.inr rfl) (fun _ => rfl) i
theorem i_122 (i v : Int32) : x_bp (mkH xs s) 122 i v = (x_rd (s.1 122) 256 i).map (fun _ => mkH xs (s_p s 122 i.toNatClampNeg (x_nr 2 v))) := mk_bp (kd := 2) (by decide) (by decide) (Or.inr rfl) (fun _ => rfl) i v
theorem e_123 (i : Int32) : x_ie (mkH xs s) 123 i = x_rd (s.1 123) 85 i := mk_ie (kd := 0) (by decide) (by decide) (Or.inl rfl) (fun _ => rfl) i
theorem i_123 (i v : Int32) : x_ip (mkH xs s) 123 i v = (x_rd (s.1 123) 85 i).map (fun _ => mkH xs (s_p s 123 i.toNatClampNeg v)) := mk_ip (by decide) (by decide) (fun _ => rfl) i v
theorem e_124 (i : Int32) : x_ie (mkH xs s) 124 i = x_rd (s.1 124) 5 i := mk_ie (kd := 0) (by decide) (by decide) (Or.inl rfl) (fun _ => rfl) i
theorem i_124 (i v : Int32) : x_ip (mkH xs s) 124 i v = (x_rd (s.1 124) 5 i).map (fun _ => mkH xs (s_p s 124 i.toNatClampNeg v)) := mk_ip (by decide) (by decide) (fun _ => rfl) i v
theorem e_125 (i : Int32) : x_ie (mkH xs s) 125 i = x_rd (s.1 125) 5 i := mk_ie (kd := 0) (by decide) (by decide) (Or.inl rfl) (fun _ => rfl) i
theorem i_125 (i v : Int32) : x_ip (mkH xs s) 125 i v = (x_rd (s.1 125) 5 i).map (fun _ => mkH xs (s_p s 125 i.toNatClampNeg v)) := mk_ip (by decide) (by decide) (fun _ => rfl) i v
theorem e_126 (i : Int32) : x_ie (mkH xs s) 126 i = x_rd (s.1 126) 5 i := mk_ie (kd := 0) (by decide) (by decide) (Or.inl rfl) (fun _ => rfl) i
theorem i_126 (i v : Int32) : x_ip (mkH xs s) 126 i v = (x_rd (s.1 126) 5 i).map (fun _ => mkH xs (s_p s 126 i.toNatClampNeg v)) := mk_ip (by decide) (by decide) (fun _ => rfl) i v
theorem e_127 (i : Int32) : x_ie (mkH xs s) 127 i = x_rd (s.1 127) 4 i := mk_ie (kd := 0) (by decide) (by decide) (Or.inl rfl) (fun _ => rfl) i
theorem i_127 (i v : Int32) : x_ip (mkH xs s) 127 i v = (x_rd (s.1 127) 4 i).map (fun _ => mkH xs (s_p s 127 i.toNatClampNeg v)) := mk_ip (by decide) (by decide) (fun _ => rfl) i v
theorem e_128 (i : Int32) : x_ie (mkH xs s) 128 i = x_rd (s.1 128) 4 i := mk_ie (kd := 0) (by decide) (by decide) (Or.inl rfl) (fun _ => rfl) i
theorem i_128 (i v : Int32) : x_ip (mkH xs s) 128 i v = (x_rd (s.1 128) 4 i).map (fun _ => mkH xs (s_p s 128 i.toNatClampNeg v)) := mk_ip (by decide) (by decide) (fun _ => rfl) i v
theorem e_129 (i : Int32) : x_le (mkH xs s) 129 i = x_rd (s.2 129) 240 i := mk_le (by decide) (by decide) (fun _ => rfl) i
theorem i_129 (i : Int32) (v : Int64) : x_lp (mkH xs s) 129 i v = (x_rd (s.2 129) 240 i).map (fun _ => mkH xs (s_l s 129 i.toNatClampNeg v)) := mk_lp (by decide) (by decide) (fun _ => rfl) i v
theorem e_130 (i : Int32) : x_le (mkH xs s) 130 i = x_rd (s.2 130) 60 i := mk_le (by decide) (by decide) (fun _ => rfl) i
theorem i_130 (i : Int32) (v : Int64) : x_lp (mkH xs s) 130 i v = (x_rd (s.2 130) 60 i).map (fun _ => mkH xs (s_l s 130 i.toNatClampNeg v)) := mk_lp (by decide) (by decide) (fun _ => rfl) i v
abbrev g_SP : List Nat := [9, 22, 33, 36, 39, 42, 45, 50, 53, 56, 59, 62, 66, 69, 73]
theorem cS {p : Nat} (hp : p ∈ g_SP) : x_cls (mkH xs s) p 8 = true := by
  simp only [g_SP, List.mem_cons, List.not_mem_nil, or_false] at hp
  rcases hp with rfl | rfl | rfl | rfl | rfl | rfl | rfl | rfl | rfl | rfl | rfl | rfl | rfl | rfl | rfl
  · exact c_9
  · exact c_22
  · exact c_33
  · exact c_36
  · exact c_39
  · exact c_42
  · exact c_45
  · exact c_50
  · exact c_53
  · exact c_56
  · exact c_59
  · exact c_62
  · exact c_66
  · exact c_69
  · exact c_73
theorem fS0 {p : Nat} (hp : p ∈ g_SP) : x_fl (mkH xs s) p 8 0 = some (.ref 3) := by
  simp only [g_SP, List.mem_cons, List.not_mem_nil, or_false] at hp
  rcases hp with rfl | rfl | rfl | rfl | rfl | rfl | rfl | rfl | rfl | rfl | rfl | rfl | rfl | rfl | rfl
  · exact f_9_0
  · exact f_22_0
  · exact f_33_0
  · exact f_36_0
  · exact f_39_0
  · exact f_42_0
  · exact f_45_0
  · exact f_50_0
  · exact f_53_0
  · exact f_56_0
  · exact f_59_0
  · exact f_62_0
  · exact f_66_0
  · exact f_69_0
  · exact f_73_0
theorem fS1 {p : Nat} (hp : p ∈ g_SP) : x_fl (mkH xs s) p 8 1 = some (.int (s.1 p 1)) := by
  simp only [g_SP, List.mem_cons, List.not_mem_nil, or_false] at hp
  rcases hp with rfl | rfl | rfl | rfl | rfl | rfl | rfl | rfl | rfl | rfl | rfl | rfl | rfl | rfl | rfl
  · exact f_9_1
  · exact f_22_1
  · exact f_33_1
  · exact f_36_1
  · exact f_39_1
  · exact f_42_1
  · exact f_45_1
  · exact f_50_1
  · exact f_53_1
  · exact f_56_1
  · exact f_59_1
  · exact f_62_1
  · exact f_66_1
  · exact f_69_1
  · exact f_73_1
theorem pS1 {p : Nat} (hp : p ∈ g_SP) (v : Int32) : x_fp (mkH xs s) p 8 1 (.int v) = some (mkH xs (s_p s p 1 v)) := by
  simp only [g_SP, List.mem_cons, List.not_mem_nil, or_false] at hp
  rcases hp with rfl | rfl | rfl | rfl | rfl | rfl | rfl | rfl | rfl | rfl | rfl | rfl | rfl | rfl | rfl
  · exact p_9_1 v
  · exact p_22_1 v
  · exact p_33_1 v
  · exact p_36_1 v
  · exact p_39_1 v
  · exact p_42_1 v
  · exact p_45_1 v
  · exact p_50_1 v
  · exact p_53_1 v
  · exact p_56_1 v
  · exact p_59_1 v
  · exact p_62_1 v
  · exact p_66_1 v
  · exact p_69_1 v
  · exact p_73_1 v
theorem fS2 {p : Nat} (hp : p ∈ g_SP) : x_fl (mkH xs s) p 8 2 = some (.int (s.1 p 2)) := by
  simp only [g_SP, List.mem_cons, List.not_mem_nil, or_false] at hp
  rcases hp with rfl | rfl | rfl | rfl | rfl | rfl | rfl | rfl | rfl | rfl | rfl | rfl | rfl | rfl | rfl
  · exact f_9_2
  · exact f_22_2
  · exact f_33_2
  · exact f_36_2
  · exact f_39_2
  · exact f_42_2
  · exact f_45_2
  · exact f_50_2
  · exact f_53_2
  · exact f_56_2
  · exact f_59_2
  · exact f_62_2
  · exact f_66_2
  · exact f_69_2
  · exact f_73_2
theorem pS2 {p : Nat} (hp : p ∈ g_SP) (v : Int32) : x_fp (mkH xs s) p 8 2 (.int v) = some (mkH xs (s_p s p 2 v)) := by
  simp only [g_SP, List.mem_cons, List.not_mem_nil, or_false] at hp
  rcases hp with rfl | rfl | rfl | rfl | rfl | rfl | rfl | rfl | rfl | rfl | rfl | rfl | rfl | rfl | rfl
  · exact p_9_2 v
  · exact p_22_2 v
  · exact p_33_2 v
  · exact p_36_2 v
  · exact p_39_2 v
  · exact p_42_2 v
  · exact p_45_2 v
  · exact p_50_2 v
  · exact p_53_2 v
  · exact p_56_2 v
  · exact p_59_2 v
  · exact p_62_2 v
  · exact p_66_2 v
  · exact p_69_2 v
  · exact p_73_2 v
theorem fS3 {p : Nat} (hp : p ∈ g_SP) : x_fl (mkH xs s) p 8 3 = some (.int (s.1 p 3)) := by
  simp only [g_SP, List.mem_cons, List.not_mem_nil, or_false] at hp
  rcases hp with rfl | rfl | rfl | rfl | rfl | rfl | rfl | rfl | rfl | rfl | rfl | rfl | rfl | rfl | rfl
  · exact f_9_3
  · exact f_22_3
  · exact f_33_3
  · exact f_36_3
  · exact f_39_3
  · exact f_42_3
  · exact f_45_3
  · exact f_50_3
  · exact f_53_3
  · exact f_56_3
  · exact f_59_3
  · exact f_62_3
  · exact f_66_3
  · exact f_69_3
  · exact f_73_3
theorem pS3 {p : Nat} (hp : p ∈ g_SP) (v : Int32) : x_fp (mkH xs s) p 8 3 (.int v) = some (mkH xs (s_p s p 3 v)) := by
  simp only [g_SP, List.mem_cons, List.not_mem_nil, or_false] at hp
  rcases hp with rfl | rfl | rfl | rfl | rfl | rfl | rfl | rfl | rfl | rfl | rfl | rfl | rfl | rfl | rfl
  · exact p_9_3 v
  · exact p_22_3 v
  · exact p_33_3 v
  · exact p_36_3 v
  · exact p_39_3 v
  · exact p_42_3 v
  · exact p_45_3 v
  · exact p_50_3 v
  · exact p_53_3 v
  · exact p_56_3 v
  · exact p_59_3 v
  · exact p_62_3 v
  · exact p_66_3 v
  · exact p_69_3 v
  · exact p_73_3 v
theorem fS4 {p : Nat} (hp : p ∈ g_SP) : x_fl (mkH xs s) p 8 4 = some (.int (s.1 p 4)) := by
  simp only [g_SP, List.mem_cons, List.not_mem_nil, or_false] at hp
  rcases hp with rfl | rfl | rfl | rfl | rfl | rfl | rfl | rfl | rfl | rfl | rfl | rfl | rfl | rfl | rfl
  · exact f_9_4
  · exact f_22_4
  · exact f_33_4
  · exact f_36_4
  · exact f_39_4
  · exact f_42_4
  · exact f_45_4
  · exact f_50_4
  · exact f_53_4
  · exact f_56_4
  · exact f_59_4
  · exact f_62_4
  · exact f_66_4
  · exact f_69_4
  · exact f_73_4
theorem pS4 {p : Nat} (hp : p ∈ g_SP) (v : Int32) : x_fp (mkH xs s) p 8 4 (.int v) = some (mkH xs (s_p s p 4 v)) := by
  simp only [g_SP, List.mem_cons, List.not_mem_nil, or_false] at hp
  rcases hp with rfl | rfl | rfl | rfl | rfl | rfl | rfl | rfl | rfl | rfl | rfl | rfl | rfl | rfl | rfl
  · exact p_9_4 v
  · exact p_22_4 v
  · exact p_33_4 v
  · exact p_36_4 v
  · exact p_39_4 v
  · exact p_42_4 v
  · exact p_45_4 v
  · exact p_50_4 v
  · exact p_53_4 v
  · exact p_56_4 v
  · exact p_59_4 v
  · exact p_62_4 v
  · exact p_66_4 v
  · exact p_69_4 v
  · exact p_73_4 v
theorem fS5 {p : Nat} (hp : p ∈ g_SP) : x_fl (mkH xs s) p 8 5 = some (.ref (p + 1)) := by
  simp only [g_SP, List.mem_cons, List.not_mem_nil, or_false] at hp
  rcases hp with rfl | rfl | rfl | rfl | rfl | rfl | rfl | rfl | rfl | rfl | rfl | rfl | rfl | rfl | rfl
  · exact f_9_5
  · exact f_22_5
  · exact f_33_5
  · exact f_36_5
  · exact f_39_5
  · exact f_42_5
  · exact f_45_5
  · exact f_50_5
  · exact f_53_5
  · exact f_56_5
  · exact f_59_5
  · exact f_62_5
  · exact f_66_5
  · exact f_69_5
  · exact f_73_5
theorem fS6 {p : Nat} (hp : p ∈ g_SP) : x_fl (mkH xs s) p 8 6 = some (.ref (p + 2)) := by
  simp only [g_SP, List.mem_cons, List.not_mem_nil, or_false] at hp
  rcases hp with rfl | rfl | rfl | rfl | rfl | rfl | rfl | rfl | rfl | rfl | rfl | rfl | rfl | rfl | rfl
  · exact f_9_6
  · exact f_22_6
  · exact f_33_6
  · exact f_36_6
  · exact f_39_6
  · exact f_42_6
  · exact f_45_6
  · exact f_50_6
  · exact f_53_6
  · exact f_56_6
  · exact f_59_6
  · exact f_62_6
  · exact f_66_6
  · exact f_69_6
  · exact f_73_6
theorem eS1 {p : Nat} (hp : p ∈ g_SP) (i : Int32) : x_ie (mkH xs s) (p + 1) i = x_rd (s.1 (p + 1)) 8 i := by
  simp only [g_SP, List.mem_cons, List.not_mem_nil, or_false] at hp
  rcases hp with rfl | rfl | rfl | rfl | rfl | rfl | rfl | rfl | rfl | rfl | rfl | rfl | rfl | rfl | rfl
  · exact e_10 i
  · exact e_23 i
  · exact e_34 i
  · exact e_37 i
  · exact e_40 i
  · exact e_43 i
  · exact e_46 i
  · exact e_51 i
  · exact e_54 i
  · exact e_57 i
  · exact e_60 i
  · exact e_63 i
  · exact e_67 i
  · exact e_70 i
  · exact e_74 i
theorem iS1 {p : Nat} (hp : p ∈ g_SP) (i v : Int32) : x_ip (mkH xs s) (p + 1) i v = (x_rd (s.1 (p + 1)) 8 i).map (fun _ => mkH xs (s_p s (p + 1) i.toNatClampNeg v)) := by
  simp only [g_SP, List.mem_cons, List.not_mem_nil, or_false] at hp
  rcases hp with rfl | rfl | rfl | rfl | rfl | rfl | rfl | rfl | rfl | rfl | rfl | rfl | rfl | rfl | rfl
  · exact i_10 i v
  · exact i_23 i v
  · exact i_34 i v
  · exact i_37 i v
  · exact i_40 i v
  · exact i_43 i v
  · exact i_46 i v
  · exact i_51 i v
  · exact i_54 i v
  · exact i_57 i v
  · exact i_60 i v
  · exact i_63 i v
  · exact i_67 i v
  · exact i_70 i v
  · exact i_74 i v
theorem eS2 {p : Nat} (hp : p ∈ g_SP) (i : Int32) : x_ie (mkH xs s) (p + 2) i = x_rd (s.1 (p + 2)) 6 i := by
  simp only [g_SP, List.mem_cons, List.not_mem_nil, or_false] at hp
  rcases hp with rfl | rfl | rfl | rfl | rfl | rfl | rfl | rfl | rfl | rfl | rfl | rfl | rfl | rfl | rfl
  · exact e_11 i
  · exact e_24 i
  · exact e_35 i
  · exact e_38 i
  · exact e_41 i
  · exact e_44 i
  · exact e_47 i
  · exact e_52 i
  · exact e_55 i
  · exact e_58 i
  · exact e_61 i
  · exact e_64 i
  · exact e_68 i
  · exact e_71 i
  · exact e_75 i
theorem iS2 {p : Nat} (hp : p ∈ g_SP) (i v : Int32) : x_ip (mkH xs s) (p + 2) i v = (x_rd (s.1 (p + 2)) 6 i).map (fun _ => mkH xs (s_p s (p + 2) i.toNatClampNeg v)) := by
  simp only [g_SP, List.mem_cons, List.not_mem_nil, or_false] at hp
  rcases hp with rfl | rfl | rfl | rfl | rfl | rfl | rfl | rfl | rfl | rfl | rfl | rfl | rfl | rfl | rfl
  · exact i_11 i v
  · exact i_24 i v
  · exact i_35 i v
  · exact i_38 i v
  · exact i_41 i v
  · exact i_44 i v
  · exact i_47 i v
  · exact i_52 i v
  · exact i_55 i v
  · exact i_58 i v
  · exact i_61 i v
  · exact i_64 i v
  · exact i_68 i v
  · exact i_71 i v
  · exact i_75 i v
/-- copies of rows of ints -/
theorem mk_cp {f d nf nd : Nat} (hf : f < 131) (hf0 : f ≠ 0) (hd : d < 131) (hd0 : d ≠ 0) (cf : ∀ s : xS, g_cell f s = xI 0 ((List.range nf).map (s.1 f))) (cd : ∀ s : xS, g_cell d s = xI 0 ((List.range nd).map (s.1 d))) {sp dp n : Int32} (h1 : ¬ sp < 0) (h2 : ¬ dp < 0) (h3 : ¬ n < 0) (h4 : sp.toNatClampNeg + n.toNatClampNeg ≤ nf) (h5 : dp.toNatClampNeg + n.toNatClampNeg ≤ nd) : x_cp (mkH xs s) f sp d dp n = some (mkH xs (s_c s f sp.toNatClampNeg d dp.toNatClampNeg n.toNatClampNeg)) := by
  unfold x_cp
  rw [if_neg (by simp [h1, h2, h3]), mk_get hf hf0, mk_get hd hd0, cf, cd]
  simp only
  rw [if_pos ⟨trivial, trivial, by simpa using h4, by simpa using h5⟩]
  congr 1
  refine mk_set hd hd0 ?_ s_c_o.1 s_c_o.2
  rw [cd]
  congr 3
  apply List.ext_getElem?
  intro q
  have hl := x_cpy_len ((List.range nf).map (s.1 f)) ((List.range nd).map (s.1 d)) (sp := sp.toNatClampNeg) (dp := dp.toNatClampNeg) (n := n.toNatClampNeg) (by simpa using h4) (by simpa using h5)
  by_cases hq : q < nd
  · have h6 := x_getD_cpy ((List.range nf).map (s.1 f)) ((List.range nd).map (s.1 d)) 0 (sp := sp.toNatClampNeg) (dp := dp.toNatClampNeg) (n := n.toNatClampNeg) (by simpa using h4) (by simpa using h5) q
    rw [List.getElem?_map, List.getElem?_range hq]
    have h7 : q < (x_cpy ((List.range nf).map (s.1 f)) ((List.range nd).map (s.1 d)) sp.toNatClampNeg dp.toNatClampNeg n.toNatClampNeg).length := by rw [hl]; simpa using hq
    rw [List.getElem?_eq_getElem h7]
    rw [List.getD_eq_getElem?_getD, List.getElem?_eq_getElem h7, Option.getD_some] at h6
    rw [h6]
    simp only [Option.map_some, va_cpy, s_c, true_and]
    congr 1
    by_cases hr : dp.toNatClampNeg ≤ q ∧ q < dp.toNatClampNeg + n.toNatClampNeg
    · rw [if_pos hr, if_pos hr]
      have h8 : sp.toNatClampNeg + (q - dp.toNatClampNeg) < nf := by omega
      simp [h8]
    · rw [if_neg hr, if_neg hr]
      simp [hq]
  · rw [List.getElem?_eq_none (by simp; omega), List.getElem?_eq_none (by rw [hl]; simp; omega)]
end CELLS
