/-! drawn, luck (own work) -/
theorem lB_toInt {n : Nat} (h : n < 2 ^ 63) : (lN n).toInt = (n : Int) := Int64.toInt_ofNat_of_lt h
theorem lB_div {a e : Nat} (ha : a < 2 ^ 63) (h0 : 0 < e) (he : e < 2 ^ 63) : lN a / lN e = lN (a / e) := by
  apply Int64.toInt_inj.mp
  have hn : lN e ≠ -1 := by
    intro z
    have := congrArg Int64.toInt z
    rw [lB_toInt he] at this
    have e1 : (-1 : Int64).toInt = -1 := rfl
    omega
  rw [Int64.toInt_div_of_ne_right _ _ hn, lB_toInt ha, lB_toInt he, lB_toInt (Nat.lt_of_le_of_lt (Nat.div_le_self a e) ha)]
  rfl
theorem lB_rem {a e : Nat} (ha : a < 2 ^ 63) (h0 : 0 < e) (he : e < 2 ^ 63) : lN a - lN a / lN e * lN e = lN (a % e) := by
  rw [lB_div ha h0 he, lN_mul, lN_sub (Nat.div_mul_le_self a e)]
  exact congrArg lN (by have := Nat.div_add_mod' a e; omega)
theorem lB_and (V : Nat) (h : V < 2 ^ 63) : lN V &&& 2147483647 = lN (V % 2147483648) := by
  apply Int64.toBitVec_inj.mp
  apply BitVec.eq_of_toNat_eq
  rw [Int64.toBitVec_and, BitVec.toNat_and]
  have e1 : (lN V).toBitVec.toNat = V := by
    show V % 2 ^ 64 = V
    exact Nat.mod_eq_of_lt (by omega)
  have e2 : (lN (V % 2147483648)).toBitVec.toNat = V % 2147483648 := by
    show V % 2147483648 % 2 ^ 64 = _
    exact Nat.mod_eq_of_lt (by omega)
  rw [e1, e2]
  exact Nat.and_two_pow_sub_one_eq_mod V 31
/-- the next of the drawn numbers -/
def xN (n : Nat) : Nat := (1103515245 * n + 12345) % 2147483648
theorem xN_lt (n : Nat) : xN n < 2147483648 := Nat.mod_lt _ (by omega)
theorem xN_v {n : Nat} : (1103515245 : Int64) * lN n + 12345 = lN (1103515245 * n + 12345) := by
  rw [show (1103515245 : Int64) = lN 1103515245 from rfl, show (12345 : Int64) = lN 12345 from rfl, lN_mul, lN_add]
theorem xN_c {n : Nat} (h : n < 2147483648) : ((1103515245 : Int64) * lN n + 12345) &&& 2147483647 = lN (xN n) := by
  rw [xN_v, lB_and _ (by omega)]
  rfl
theorem xN_r {n : Nat} (h : n < 2147483648) : ((1103515245 : Int64) * lN n + 12345) - ((1103515245 : Int64) * lN n + 12345) / 2147483648 * 2147483648 = lN (xN n) := by
  rw [xN_v]
  exact lB_rem (e := 2147483648) (by omega) (by omega) (by omega)
theorem dr_v {X e : Nat} (hX : X < 2147483648) (h0 : 0 < e) (he : e < 2147483648) : (lN X / 65536 - lN X / 65536 / (nI e).toInt64 * (nI e).toInt64).toInt32 = nI (X / 65536 % e) := by
  rw [nI_l (by omega), show (65536 : Int64) = lN 65536 from rfl, lB_div (by omega) (by omega) (by omega), lB_rem (by omega) h0 (by omega), lN_i]
theorem l_ne0 {e : Nat} (h0 : 0 < e) (he : e < 2147483648) : ¬ (nI e).toInt64 = 0 := by
  rw [nI_l (by omega)]
  intro z
  have := congrArg Int64.toInt z
  rw [lB_toInt (by omega)] at this
  have e1 : (0 : Int64).toInt = 0 := rfl
  omega
/-- what is good for one to settle -/
def gdB (T : Tw) (A : As) (p m : Nat) : Bool := tIs T p m && (tOpen T (msk A.1) m && (decide (0 < tGain T p m) && decide (0 ≤ tGain T (tOth T p m) m)))
/-- the state, the drawn number, how often drunk, how many frosts -/
abbrev Yr : Type := As × Nat × Nat × Nat
def gdS (T : Tw) (A : As) (p : Nat) : As := match frst (fun m => gdB T A p m) 0 (tM T) with
  | none => A
  | some m => aSettle A m
theorem gdS_n {T : Tw} {A : As} {p : Nat} (h : frst (fun m => gdB T A p m) 0 (tM T) = none) : gdS T A p = A := by unfold gdS; rw [h]
theorem gdS_s {T : Tw} {A : As} {p m : Nat} (h : frst (fun m => gdB T A p m) 0 (tM T) = some m) : gdS T A p = aSettle A m := by unfold gdS; rw [h]
def yD (T : Tw) (Y : Yr) : Yr :=
  if nI (xN Y.2.1 / 65536 % 100) < tFr T then (aDay T Y.1, xN Y.2.1, Y.2.2.1, Y.2.2.2 + 1)
  else if aWil T (aDay T Y.1) (xN (xN Y.2.1) / 65536 % tP T) = true then (aft T (aDay T Y.1) (xN (xN Y.2.1) / 65536 % tP T), xN (xN Y.2.1), Y.2.2.1 + 1, Y.2.2.2)
  else (gdS T (aDay T Y.1) (xN (xN Y.2.1) / 65536 % tP T), xN (xN Y.2.1), Y.2.2.1, Y.2.2.2)
def yI (T : Tw) : Nat → Yr → Yr
  | 0, Y => Y
  | n + 1, Y => yI T n (yD T Y)
def yOk (T : Tw) (Y : Yr) : Prop := aOk T Y.1 ∧ Y.2.1 < 2147483648
theorem gdB_o {T : Tw} {A : As} {p m : Nat} (h : gdB T A p m = true) : tOpen T (msk A.1) m = true := by
  unfold gdB at h
  simp only [Bool.and_eq_true] at h
  exact h.2.1
theorem aOk_settle {T : Tw} {A : As} {m : Nat} (hK : tOk T) (hO : aOk T A) (hm : m < tM T) (ho : tOpen T (msk A.1) m = true) : aOk T (aSettle A m) := ⟨aWf_settle hK.1 hO.1 hm ho, hO.2⟩
theorem yD_ok {T : Tw} (hK : tOk T) (hP : 0 < tP T) {Y : Yr} (h : yOk T Y) : yOk T (yD T Y) := by
  have h1 := aOk_day hK h.1
  unfold yD
  split
  · exact ⟨h1, xN_lt _⟩
  · split
    · rename_i hw
      exact ⟨aft_ok h1 (aWil_why hw) (Nat.mod_lt _ hP), xN_lt _⟩
    · refine ⟨?_, xN_lt _⟩
      show aOk T (gdS T (aDay T Y.1) (xN (xN Y.2.1) / 65536 % tP T))
      cases hf : frst (fun m => gdB T (aDay T Y.1) (xN (xN Y.2.1) / 65536 % tP T) m) 0 (tM T) with
      | none => rw [gdS_n hf]; exact h1
      | some m =>
        obtain ⟨-, f2, f3, -⟩ := frst_some hf
        rw [gdS_s hf]
        exact aOk_settle hK h1 (by omega) (gdB_o f3)
theorem yI_ok {T : Tw} (hK : tOk T) (hP : 0 < tP T) : ∀ n Y, yOk T Y → yOk T (yI T n Y) := by
  intro n
  induction n with
  | zero => intro Y h; exact h
  | succ n ih => intro Y h; exact ih _ (yD_ok hK hP h)
def offY (s s' : xS) : Prop := ∀ q, q < 72 ∨ 76 ≤ q → s'.1 q = s.1 q ∧ s'.2 q = s.2 q
theorem offY.rf {s : xS} : offY s s := fun _ _ => ⟨rfl, rfl⟩
theorem offY.tr {s s' s'' : xS} (h : offY s s') (h2 : offY s' s'') : offY s s'' := fun q a => ⟨((h2 q a).1).trans (h q a).1, ((h2 q a).2).trans (h q a).2⟩
theorem offY.ke {s s' : xS} (h : offY s s') : keC s s' := fun q hq => h q (by omega)
theorem offY.T {s s' : xS} {T : Tw} (h : offY s s') (hT : clsT s 3 T) : clsT s' 3 T := clsT_off (fun q a b => (h q (by omega)).1) hT
theorem off3.Y {s s' : xS} (h : off3 s s' 73) : offY s s' := fun q a => ⟨h.1 q (by omega) (by omega) (by omega), by rw [h.2]⟩
def clsY (s : xS) (T : Tw) (Y : Yr) : Prop := clsS s 73 T Y.1 ∧ s.2 72 2 = lN Y.2.1 ∧ s.1 72 3 = nI Y.2.2.1 ∧ s.1 72 4 = nI Y.2.2.2
def refY (s : xS) (T : Tw) (Y : Yr) : Prop := refS s T Y.1 ∧ s.2 110 32 = lN Y.2.1 ∧ s.1 110 33 = nI Y.2.2.1 ∧ s.1 110 34 = nI Y.2.2.2
def offW (s s' : xS) : Prop := (∀ q, q ≠ 110 → q ≠ 117 → q ≠ 118 → s'.1 q = s.1 q) ∧ (∀ k, k < 16 → s'.1 110 k = s.1 110 k) ∧ ∀ q, q ≠ 110 → s'.2 q = s.2 q
theorem offW.rf {s : xS} : offW s s := ⟨fun _ _ _ _ => rfl, fun _ _ => rfl, fun _ _ => rfl⟩
theorem offW.tr {s s' s'' : xS} (h : offW s s') (h2 : offW s' s'') : offW s s'' := ⟨fun q a b c => (h2.1 q a b c).trans (h.1 q a b c), fun k a => (h2.2.1 k a).trans (h.2.1 k a), fun q a => (h2.2.2 q a).trans (h.2.2 q a)⟩
theorem offW.ke {s s' : xS} (h : offW s s') : keR s s' := ⟨fun q a b => h.1 q a (by omega) (by omega), h.2.1, fun q a _ => h.2.2 q a⟩
theorem offR.W {s s' : xS} (h : offR s s') : offW s s' := ⟨h.1, fun k a => h.2.1 k (by omega) (by omega) (by omega), fun q _ => by rw [h.2.2]⟩
theorem offW.R {s s' : xS} {T : Tw} {l : List Int32} (h : offW s s') (hR : refW s T l) : refW s' T l := refW_at (h.1 111 (by omega) (by omega) (by omega)) hR
theorem offR.v {s s' : xS} (h : offR s s') : s'.2 110 32 = s.2 110 32 ∧ s'.1 110 33 = s.1 110 33 ∧ s'.1 110 34 = s.1 110 34 := ⟨by rw [h.2.2], h.2.1 33 (by omega) (by omega) (by omega), h.2.1 34 (by omega) (by omega) (by omega)⟩
theorem refS_to {s s' : xS} {T : Tw} {A : As} (h : ∀ k, k = 16 ∨ k = 18 ∨ k = 19 → s'.1 110 k = s.1 110 k) (h1 : s'.1 117 = s.1 117) (h2 : s'.1 118 = s.1 118) (hA : refS s T A) : refS s' T A := by
  unfold refS at *
  rw [h 16 (by omega), h 18 (by omega), h 19 (by omega), h1, h2]
  exact hA
section YEARS
variable {P : Nat → List Value → Option Value} {d : Nat} {xs : List Int32} {T : Tw} {A : As}
theorem y_draw (hd : 1 ≤ d) {s : xS} {n e : Nat} (hx : s.2 72 2 = lN n) (hn : n < 2147483648) (h0 : 0 < e) (he : e < 2147483648) : x_ev g_M P d 106 [.ref 72, .int (nI e)] (mkH xs s) (some (.int (nI (xN n / 65536 % e))), mkH xs (s_l s 72 2 (lN (xN n)))) := by
  have e2 : (s_l s 72 2 (lN (xN n))).2 72 2 = lN (xN n) := by simp [s_l]
  have hc : ¬ nI e ≤ 0 := nI_nle h0 (by omega)
  obtain ⟨d, rfl⟩ := x_1 (d := d) (by omega)
  rw [x_ev_in rfl (Nat.le_of_ble_eq_true rfl)]
  rw [show x_ent (x_nL g_M 106) [.ref 72, .int (nI e)] = [some (.ref 72), some (.int (nI e))] from rfl]
  simp only [w_Years_nextDraw_0, w_Years_nextDraw_8, w_Years_nextDraw_20, w_Years_nextDraw_24, w_Years_nextDraw_28, w_Years_nextDraw_32, w_Years_nextDraw_35, w_Years_nextDraw_39, w_Years_nextDraw_40, c_72, f_72_0, f_72_1, f_72_2, p_72_2, f_72_3, p_72_3, f_72_4, p_72_4, Option.some.injEq, exists_eq_left', exists_eq_left, Option.toList_some, Option.toList_none, List.cons_append, List.nil_append, true_and, and_true, Option.map_some, Option.map_none, hx, xN_c hn, e2, hc, if_false, show ¬ ((65536 : Int64) = 0) by decide, not_false_eq_true, l_ne0 h0 he, dr_v (xN_lt n) h0 he]
theorem ry_draw (hd : 1 ≤ d) {s : xS} {n e : Nat} (hx : s.2 110 32 = lN n) (hn : n < 2147483648) (h0 : 0 < e) (he : e < 2147483648) : x_ev g_M P d 324 [.ref 110, .int (nI e)] (mkH xs s) (some (.int (nI (xN n / 65536 % e))), mkH xs (s_l s 110 32 (lN (xN n)))) := by
  have e2 : (s_l s 110 32 (lN (xN n))).2 110 32 = lN (xN n) := by simp [s_l]
  obtain ⟨d, rfl⟩ := x_1 (d := d) (by omega)
  rw [x_ev_in rfl (Nat.le_of_ble_eq_true rfl)]
  rw [show x_ent (x_nL g_M 324) [.ref 110, .int (nI e)] = [some (.ref 110), some (.int (nI e))] from rfl]
  simp only [w_Ref_draw_0, w_Ref_draw_8, w_Ref_draw_17, w_Ref_draw_20, w_Ref_draw_24, w_Ref_draw_28, w_Ref_draw_31, c_110, f_110_0, p_110_0, f_110_1, f_110_2, f_110_3, f_110_4, f_110_5, p_110_5, f_110_6, f_110_7, p_110_7, f_110_8, p_110_8, f_110_9, p_110_9, f_110_10, p_110_10, f_110_11, p_110_11, f_110_12, p_110_12, f_110_13, p_110_13, f_110_14, f_110_15, f_110_16, p_110_16, f_110_17, f_110_18, p_110_18, f_110_19, p_110_19, f_110_20, f_110_21, p_110_21, f_110_22, p_110_22, f_110_23, f_110_24, f_110_25, p_110_25, f_110_26, f_110_27, f_110_28, f_110_29, f_110_30, f_110_31, p_110_31, f_110_32, p_110_32, f_110_33, p_110_33, f_110_34, p_110_34, f_110_35, f_110_36, f_110_37, f_110_38, Option.some.injEq, exists_eq_left', exists_eq_left, Option.toList_some, Option.toList_none, List.cons_append, List.nil_append, true_and, and_true, Option.map_some, Option.map_none, hx, show ¬ ((2147483648 : Int64) = 0) by decide, not_false_eq_true, xN_r hn, e2, show ¬ ((65536 : Int64) = 0) by decide, l_ne0 h0 he, dr_v (xN_lt n) h0 he]
theorem y_isGood (hd : 2 ≤ d) {s : xS} (hT : clsT s 3 T) (hW : tWf T) {p m : Nat} (hp : p < tP T) (hm : m < tM T) {q : Option Value × xH} : x_ev g_M P d 108 [.ref 72, .int (nI p), .int (nI m)] (mkH xs s) q ↔ q = (some (.int (b01 (decide (0 < tGain T p m) && decide (0 ≤ tGain T (tOth T p m) m)))), mkH xs s) := by
  have ho : tOth T p m < tP T := tOth_lt hW hm
  obtain ⟨d, rfl⟩ := x_1 (d := d) (by omega)
  rw [x_ev_in rfl (Nat.le_of_ble_eq_true rfl)]
  rw [show x_ent (x_nL g_M 108) [.ref 72, .int (nI p), .int (nI m)] = [some (.ref 72), some (.int (nI p)), some (.int (nI m))] from rfl]
  simp only [w_Years_isGoodFor_0, w_Years_isGoodFor_4, w_Years_isGoodFor_9, w_Years_isGoodFor_12, w_Years_isGoodFor_16, w_Years_isGoodFor_20, w_Years_isGoodFor_25, w_Years_isGoodFor_29, w_Years_isGoodFor_32, w_Years_isGoodFor_36, w_Years_isGoodFor_37, c_3, f_3_0, p_3_0, f_3_1, p_3_1, f_3_2, p_3_2, f_3_3, p_3_3, f_3_4, p_3_4, f_3_5, p_3_5, f_3_6, p_3_6, f_3_7, p_3_7, f_3_8, p_3_8, f_3_9, f_3_10, f_3_11, f_3_12, f_3_13, c_72, f_72_0, f_72_1, f_72_2, p_72_2, f_72_3, p_72_3, f_72_4, p_72_4, Option.some.injEq, exists_eq_left', exists_eq_left, Option.toList_some, Option.toList_none, List.cons_append, List.nil_append, true_and, and_true, Option.map_some, Option.map_none, t_gainOf (d := d) (by omega) hT hW hp hm, t_otherParty (d := d) (by omega) hT hW hm hp, show (if tPa T m 0 = p then tPa T m 1 else tPa T m 0) = tOth T p m from rfl, t_gainOf (d := d) (by omega) hT hW ho hm, x_nb0, x_nb1]
  have h1 : 0 < tGain T p m ↔ ¬ tGain T p m ≤ 0 := Int32.not_le.symm
  have h2 : 0 ≤ tGain T (tOth T p m) m ↔ ¬ tGain T (tOth T p m) m < 0 := Int32.not_lt.symm
  unfold b01
  by_cases g1 : tGain T p m ≤ 0 <;> by_cases g2 : tGain T (tOth T p m) m < 0 <;> simp [g1, g2, h1, h2, eq_comm (a := q)]
set_option maxHeartbeats 4000000 in
theorem y_settleFor (hd : 5 ≤ d) (hK : tOk T) {s : xS} (hT : clsT s 3 T) (hA : clsS s 73 T A) (hO : aOk T A) {p : Nat} (hp : p < tP T) : ∃ s', x_ev g_M P d 107 [.ref 72, .int (nI p)] (mkH xs s) (none, mkH xs s') ∧ off3 s s' 73 ∧ clsS s' 73 T (gdS T A p) := by
  have h73 : 73 ∈ g_SP := by decide
  have hW := hK.1
  have w1 := hW.1
  have w2 := hW.2.1
  have t5 := hT.1.2.2.2.2.2
  obtain ⟨d, rfl⟩ := x_1 (d := d) (by omega)
  have hmn : x_rd (s.1 5) 6 (nI p) = some (s.1 5 p) := x_rd_nI (by omega) (by omega)
  have hst : ∀ m, m < tM T → gdB T A p m = false → ∀ r, (x_R (x_ev g_M P d) 107 (2, [some (.ref 72), some (.int (nI p)), some (.int (nI m))], [], mkH xs s) r ↔ x_R (x_ev g_M P d) 107 (2, [some (.ref 72), some (.int (nI p)), some (.int (nI (m + 1)))], [], mkH xs s) r) := by
    intro m hm hf r
    have hc : ¬ nI (tM T) ≤ nI m := nI_ge hm (by omega)
    have hb : bt (s.1 5 p) m = true ↔ tIs T p m = true := (hT.2.2.2.2.2.1 p hp m).trans ⟨fun z => z.2, fun z => ⟨hm, z⟩⟩
    simp only [w_Years_settleFor_0, w_Years_settleFor_7, w_Years_settleFor_10, w_Years_settleFor_13, w_Years_settleFor_17, w_Years_settleFor_20, w_Years_settleFor_22, w_Years_settleFor_26, w_Years_settleFor_30, w_Years_settleFor_34, w_Years_settleFor_38, w_Years_settleFor_41, w_Years_settleFor_47, w_Years_settleFor_50, w_Years_settleFor_54, w_Years_settleFor_58, w_Years_settleFor_60, w_Years_settleFor_66, w_Years_settleFor_2 (l2 := nI m), c_3, f_3_0, p_3_0, f_3_1, p_3_1, f_3_2, p_3_2, f_3_3, p_3_3, f_3_4, p_3_4, f_3_5, p_3_5, f_3_6, p_3_6, f_3_7, p_3_7, f_3_8, p_3_8, f_3_9, f_3_10, f_3_11, f_3_12, f_3_13, e_5, i_5, c_72, f_72_0, f_72_1, f_72_2, p_72_2, f_72_3, p_72_3, f_72_4, p_72_4, c_73, f_73_0, f_73_1, p_73_1, f_73_2, p_73_2, f_73_3, p_73_3, f_73_4, p_73_4, f_73_5, f_73_6, Option.some.injEq, exists_eq_left', exists_eq_left, Option.toList_some, Option.toList_none, List.cons_append, List.nil_append, true_and, and_true, Option.map_some, Option.map_none, t5, hc, if_false, hmn, t_bitOf (d := d) (by omega), bit_1 (show m < 32 by omega), hb, s_isOpen (d := d) (by omega) h73 hT hW hA hm, y_isGood (d := d) (by omega) hT hW hp hm, nI_1]
    by_cases h1 : tIs T p m = true
    · by_cases h2 : tOpen T (msk A.1) m = true
      · have h3 : (decide (0 < tGain T p m) && decide (0 ≤ tGain T (tOth T p m) m)) = false := by
          unfold gdB at hf
          rw [h1, h2, Bool.true_and, Bool.true_and] at hf
          exact hf
        simp only [h1, h2, h3, b01, not_true_eq_false, if_false, if_true, show ¬ ((1 : Int32) = 0) by decide, Bool.false_eq_true]
      · simp only [h1, h2, not_true_eq_false, if_false, if_true, Bool.false_eq_true]
    · simp only [h1, not_false_eq_true, if_true, Bool.false_eq_true]
  cases hf : frst (fun m => gdB T A p m) 0 (tM T) with
  | none =>
    refine ⟨s, ?_, off3.rf, by rw [gdS_n hf]; exact hA⟩
    have hn := frst_none hf
    rw [x_ev_in rfl (Nat.le_of_ble_eq_true rfl)]
    rw [show x_ent (x_nL g_M 107) [.ref 72, .int (nI p)] = [some (.ref 72), some (.int (nI p)), none] from rfl]
    rw [w_Years_settleFor_0]
    refine (x_up (C := x_ev g_M P d) (k := 107) (N := tM T) (F := fun m => (2, [some (.ref 72), some (.int (nI p)), some (.int (nI m))], [], mkH xs s)) (fun m hm => hst m hm (hn m (by omega) (by omega)) _) 0 (Nat.zero_le _)).mpr ?_
    simp only [w_Years_settleFor_0, w_Years_settleFor_7, w_Years_settleFor_10, w_Years_settleFor_13, w_Years_settleFor_17, w_Years_settleFor_20, w_Years_settleFor_22, w_Years_settleFor_26, w_Years_settleFor_30, w_Years_settleFor_34, w_Years_settleFor_38, w_Years_settleFor_41, w_Years_settleFor_47, w_Years_settleFor_50, w_Years_settleFor_54, w_Years_settleFor_58, w_Years_settleFor_60, w_Years_settleFor_66, w_Years_settleFor_2 (l2 := nI (tM T)), c_3, f_3_0, p_3_0, f_3_1, p_3_1, f_3_2, p_3_2, f_3_3, p_3_3, f_3_4, p_3_4, f_3_5, p_3_5, f_3_6, p_3_6, f_3_7, p_3_7, f_3_8, p_3_8, f_3_9, f_3_10, f_3_11, f_3_12, f_3_13, c_72, f_72_0, f_72_1, f_72_2, p_72_2, f_72_3, p_72_3, f_72_4, p_72_4, Option.some.injEq, exists_eq_left', exists_eq_left, Option.toList_some, Option.toList_none, List.cons_append, List.nil_append, true_and, and_true, Option.map_some, Option.map_none, t5, show nI (tM T) ≤ nI (tM T) from Int32.le_refl _, if_true]
  | some m =>
    obtain ⟨-, f2, f3, f4⟩ := frst_some hf
    have hm : m < tM T := by omega
    have ho := gdB_o f3
    obtain ⟨s1, q1, q2, q3⟩ := s_take (P := P) (d := d) (xs := xs) (by omega) h73 hT hW hA hO.1 (nI m)
    rw [aTake_s hW hm, if_pos ho] at q1 q3
    refine ⟨s1, ?_, q2, by rw [gdS_s hf]; exact q3⟩
    rw [x_ev_in rfl (Nat.le_of_ble_eq_true rfl)]
    rw [show x_ent (x_nL g_M 107) [.ref 72, .int (nI p)] = [some (.ref 72), some (.int (nI p)), none] from rfl]
    rw [w_Years_settleFor_0]
    have hup : ∀ n, n ≤ m → (x_R (x_ev g_M P d) 107 (2, [some (.ref 72), some (.int (nI p)), some (.int (nI n))], [], mkH xs s) (none, mkH xs s1) ↔ x_R (x_ev g_M P d) 107 (2, [some (.ref 72), some (.int (nI p)), some (.int (nI m))], [], mkH xs s) (none, mkH xs s1)) := x_up (N := m) (F := fun m => (2, [some (.ref 72), some (.int (nI p)), some (.int (nI m))], [], mkH xs s)) (fun n hn => hst n (by omega) (f4 n (by omega) hn) _)
    refine (hup 0 (Nat.zero_le _)).mpr ?_
    have hc : ¬ nI (tM T) ≤ nI m := nI_ge hm (by omega)
    have hb : bt (s.1 5 p) m = true ↔ tIs T p m = true := (hT.2.2.2.2.2.1 p hp m).trans ⟨fun z => z.2, fun z => ⟨hm, z⟩⟩
    have h1 : tIs T p m = true := by
      unfold gdB at f3
      simp only [Bool.and_eq_true] at f3
      exact f3.1
    have h3 : (decide (0 < tGain T p m) && decide (0 ≤ tGain T (tOth T p m) m)) = true := by
      unfold gdB at f3
      rw [h1, ho, Bool.true_and, Bool.true_and] at f3
      exact f3
    simp only [w_Years_settleFor_0, w_Years_settleFor_7, w_Years_settleFor_10, w_Years_settleFor_13, w_Years_settleFor_17, w_Years_settleFor_20, w_Years_settleFor_22, w_Years_settleFor_26, w_Years_settleFor_30, w_Years_settleFor_34, w_Years_settleFor_38, w_Years_settleFor_41, w_Years_settleFor_47, w_Years_settleFor_50, w_Years_settleFor_54, w_Years_settleFor_58, w_Years_settleFor_60, w_Years_settleFor_66, w_Years_settleFor_2 (l2 := nI m), c_3, f_3_0, p_3_0, f_3_1, p_3_1, f_3_2, p_3_2, f_3_3, p_3_3, f_3_4, p_3_4, f_3_5, p_3_5, f_3_6, p_3_6, f_3_7, p_3_7, f_3_8, p_3_8, f_3_9, f_3_10, f_3_11, f_3_12, f_3_13, e_5, i_5, c_72, f_72_0, f_72_1, f_72_2, p_72_2, f_72_3, p_72_3, f_72_4, p_72_4, c_73, f_73_0, f_73_1, p_73_1, f_73_2, p_73_2, f_73_3, p_73_3, f_73_4, p_73_4, f_73_5, f_73_6, Option.some.injEq, exists_eq_left', exists_eq_left, Option.toList_some, Option.toList_none, List.cons_append, List.nil_append, true_and, and_true, Option.map_some, Option.map_none, t5, hc, if_false, hmn, t_bitOf (d := d) (by omega), bit_1 (show m < 32 by omega), hb, s_isOpen (d := d) (by omega) h73 hT hW hA hm, y_isGood (d := d) (by omega) hT hW hp hm, h1, ho, h3, b01, not_true_eq_false, if_true, show ¬ ((1 : Int32) = 0) by decide, x_ev_iff q1, Option.isSome_some]
set_option maxHeartbeats 4000000 in
theorem y_drawDay (hd : 6 ≤ d) (hK : tOk T) (hP : 0 < tP T) {s : xS} {Y : Yr} (hT : clsT s 3 T) (hY : clsY s T Y) (hO : yOk T Y) : ∃ s', x_ev g_M P d 105 [.ref 72] (mkH xs s) (none, mkH xs s') ∧ offY s s' ∧ clsY s' T (yD T Y) := by
  have h73 : 73 ∈ g_SP := by decide
  have hW := hK.1
  have w1 := hW.1
  obtain ⟨y1, y2, y3, y4⟩ := hY
  obtain ⟨d, rfl⟩ := x_1 (d := d) (by omega)
  obtain ⟨s1, q1, q2, q3⟩ := s_take (P := P) (d := d) (xs := xs) (by omega) h73 hT hW y1 hO.1.1 20
  rw [aTake_y hW] at q1 q3
  have hT1 := q2.T h73 hT
  have x1 : s1.2 72 2 = lN Y.2.1 := by rw [q2.2]; exact y2
  have e72 : s1.1 72 = s.1 72 := q2.1 72 (by omega) (by omega) (by omega)
  have dr1 := y_draw (P := P) (d := d) (xs := xs) (by omega) x1 hO.2 (e := 100) (by omega) (by omega)
  rw [show nI 100 = 100 from rfl] at dr1
  have hT2 : clsT (s_l s1 72 2 (lN (xN Y.2.1))) 3 T := hT1
  have o2 : offY s (s_l s1 72 2 (lN (xN Y.2.1))) := q2.Y.tr (fun q hq => ⟨rfl, s_l_o.2 q (by omega)⟩)
  have t3 := hT2.1.2.2.2.1
  have t4 := hT2.1.2.2.2.2.1
  unfold yD
  by_cases hf : nI (xN Y.2.1 / 65536 % 100) < tFr T
  · have hf' : ¬ tFr T ≤ nI (xN Y.2.1 / 65536 % 100) := Int32.not_le.mpr hf
    rw [if_pos hf]
    have e4 : (s_l s1 72 2 (lN (xN Y.2.1))).1 72 4 = nI Y.2.2.2 := by show s1.1 72 4 = _; rw [e72]; exact y4
    refine ⟨s_p (s_l s1 72 2 (lN (xN Y.2.1))) 72 4 (nI (Y.2.2.2 + 1)), ?_, o2.tr (fun q hq => ⟨s_p_o.1 q (by omega), rfl⟩), ?_, ?_, ?_, ?_⟩
    · rw [x_ev_in rfl (Nat.le_of_ble_eq_true rfl)]
      rw [show x_ent (x_nL g_M 105) [.ref 72] = [some (.ref 72), none] from rfl]
      simp only [w_Years_drawDay_0, w_Years_drawDay_4, w_Years_drawDay_9, w_Years_drawDay_16, w_Years_drawDay_20, w_Years_drawDay_23, w_Years_drawDay_26, w_Years_drawDay_31, w_Years_drawDay_36, w_Years_drawDay_37, w_Years_drawDay_42, w_Years_drawDay_45, w_Years_drawDay_48, w_Years_drawDay_53, w_Years_drawDay_57, w_Years_drawDay_60, w_Years_drawDay_64, w_Years_drawDay_71, w_Years_drawDay_77, w_Years_drawDay_82, w_Years_drawDay_85, w_Years_drawDay_90, c_3, f_3_0, p_3_0, f_3_1, p_3_1, f_3_2, p_3_2, f_3_3, p_3_3, f_3_4, p_3_4, f_3_5, p_3_5, f_3_6, p_3_6, f_3_7, p_3_7, f_3_8, p_3_8, f_3_9, f_3_10, f_3_11, f_3_12, f_3_13, c_72, f_72_0, f_72_1, f_72_2, p_72_2, f_72_3, p_72_3, f_72_4, p_72_4, c_73, f_73_0, f_73_1, p_73_1, f_73_2, p_73_2, f_73_3, p_73_3, f_73_4, p_73_4, f_73_5, f_73_6, Option.some.injEq, exists_eq_left', exists_eq_left, Option.toList_some, Option.toList_none, List.cons_append, List.nil_append, true_and, and_true, Option.map_some, Option.map_none, x_ev_iff q1, x_ev_iff dr1, t3, hf', if_false, e4, nI_1]
    · exact clsS_at (fun q a b => s_p_o.1 q (by omega)) q3
    · show (s_l s1 72 2 (lN (xN Y.2.1))).2 72 2 = _
      simp [s_l]
    · show (s_p (s_l s1 72 2 (lN (xN Y.2.1))) 72 4 (nI (Y.2.2.2 + 1))).1 72 3 = nI Y.2.2.1
      rw [← y3, ← e72]
      simp [s_p, s_l]
    · simp [s_p]
  · have hf' : tFr T ≤ nI (xN Y.2.1 / 65536 % 100) := Int32.not_lt.mp hf
    rw [if_neg hf]
    have x2 : (s_l s1 72 2 (lN (xN Y.2.1))).2 72 2 = lN (xN Y.2.1) := by simp [s_l]
    have dr2 := y_draw (P := P) (d := d) (xs := xs) (by omega) x2 (xN_lt _) (e := tP T) hP (by omega)
    have hp : xN (xN Y.2.1) / 65536 % tP T < tP T := Nat.mod_lt _ hP
    have o3 : offY s (s_l (s_l s1 72 2 (lN (xN Y.2.1))) 72 2 (lN (xN (xN Y.2.1)))) := o2.tr (fun q hq => ⟨rfl, s_l_o.2 q (by omega)⟩)
    generalize hz : s_l (s_l s1 72 2 (lN (xN Y.2.1))) 72 2 (lN (xN (xN Y.2.1))) = z at *
    have hTz : clsT z 3 T := o3.T hT
    have hAz : clsS z 73 T (aDay T Y.1) := by rw [← hz]; exact q3
    have hOz := aOk_day hK hO.1
    have z2 : z.2 72 2 = lN (xN (xN Y.2.1)) := by rw [← hz]; simp [s_l]
    have z3 : z.1 72 3 = nI Y.2.2.1 := by rw [← hz]; show s1.1 72 3 = _; rw [e72]; exact y3
    have z4 : z.1 72 4 = nI Y.2.2.2 := by rw [← hz]; show s1.1 72 4 = _; rw [e72]; exact y4
    generalize hpp : xN (xN Y.2.1) / 65536 % tP T = p at *
    by_cases hw : aWil T (aDay T Y.1) p = true
    · rw [if_pos hw]
      obtain ⟨s4, u1, u2, u3⟩ := s_take (P := P) (d := d) (xs := xs) (by omega) h73 hTz hW hAz hOz.1 (10 + nI p)
      rw [aTake_aft hW hp, if_pos (aWil_why hw)] at u1 u3
      have c72 : s4.1 72 = z.1 72 := u2.1 72 (by omega) (by omega) (by omega)
      have c3 : s4.1 72 3 = nI Y.2.2.1 := by rw [c72]; exact z3
      refine ⟨s_p s4 72 3 (nI (Y.2.2.1 + 1)), ?_, (o3.tr u2.Y).tr (fun q hq => ⟨s_p_o.1 q (by omega), rfl⟩), ?_, ?_, ?_, ?_⟩
      · rw [x_ev_in rfl (Nat.le_of_ble_eq_true rfl)]
        rw [show x_ent (x_nL g_M 105) [.ref 72] = [some (.ref 72), none] from rfl]
        simp only [w_Years_drawDay_0, w_Years_drawDay_4, w_Years_drawDay_9, w_Years_drawDay_16, w_Years_drawDay_20, w_Years_drawDay_23, w_Years_drawDay_26, w_Years_drawDay_31, w_Years_drawDay_36, w_Years_drawDay_37, w_Years_drawDay_42, w_Years_drawDay_45, w_Years_drawDay_48, w_Years_drawDay_53, w_Years_drawDay_57, w_Years_drawDay_60, w_Years_drawDay_64, w_Years_drawDay_71, w_Years_drawDay_77, w_Years_drawDay_82, w_Years_drawDay_85, w_Years_drawDay_90, c_3, f_3_0, p_3_0, f_3_1, p_3_1, f_3_2, p_3_2, f_3_3, p_3_3, f_3_4, p_3_4, f_3_5, p_3_5, f_3_6, p_3_6, f_3_7, p_3_7, f_3_8, p_3_8, f_3_9, f_3_10, f_3_11, f_3_12, f_3_13, c_72, f_72_0, f_72_1, f_72_2, p_72_2, f_72_3, p_72_3, f_72_4, p_72_4, c_73, f_73_0, f_73_1, p_73_1, f_73_2, p_73_2, f_73_3, p_73_3, f_73_4, p_73_4, f_73_5, f_73_6, Option.some.injEq, exists_eq_left', exists_eq_left, Option.toList_some, Option.toList_none, List.cons_append, List.nil_append, true_and, and_true, Option.map_some, Option.map_none, x_ev_iff q1, x_ev_iff dr1, t3, t4, hf', if_true, x_ev_iff dr2, s_isWilling (d := d) (by omega) h73 hTz hW hAz hOz.1 hp, hw, show ¬ ((1 : Int32) = 0) by decide, if_false, x_ev_iff u1, c3, nI_1]
      · exact clsS_at (fun q a b => s_p_o.1 q (by omega)) u3
      · show s4.2 72 2 = _
        rw [u2.2]; exact z2
      · simp [s_p]
      · show (s_p s4 72 3 (nI (Y.2.2.1 + 1))).1 72 4 = nI Y.2.2.2
        rw [← z4, ← c72]
        simp [s_p]
    · rw [if_neg hw]
      obtain ⟨s4, u1, u2, u3⟩ := y_settleFor (P := P) (d := d) (xs := xs) (by omega) hK hTz hAz hOz hp
      have c72 : s4.1 72 = z.1 72 := u2.1 72 (by omega) (by omega) (by omega)
      refine ⟨s4, ?_, o3.tr u2.Y, u3, by rw [u2.2]; exact z2, by rw [c72]; exact z3, by rw [c72]; exact z4⟩
      rw [x_ev_in rfl (Nat.le_of_ble_eq_true rfl)]
      rw [show x_ent (x_nL g_M 105) [.ref 72] = [some (.ref 72), none] from rfl]
      simp only [w_Years_drawDay_0, w_Years_drawDay_4, w_Years_drawDay_9, w_Years_drawDay_16, w_Years_drawDay_20, w_Years_drawDay_23, w_Years_drawDay_26, w_Years_drawDay_31, w_Years_drawDay_36, w_Years_drawDay_37, w_Years_drawDay_42, w_Years_drawDay_45, w_Years_drawDay_48, w_Years_drawDay_53, w_Years_drawDay_57, w_Years_drawDay_60, w_Years_drawDay_64, w_Years_drawDay_71, w_Years_drawDay_77, w_Years_drawDay_82, w_Years_drawDay_85, w_Years_drawDay_90, c_3, f_3_0, p_3_0, f_3_1, p_3_1, f_3_2, p_3_2, f_3_3, p_3_3, f_3_4, p_3_4, f_3_5, p_3_5, f_3_6, p_3_6, f_3_7, p_3_7, f_3_8, p_3_8, f_3_9, f_3_10, f_3_11, f_3_12, f_3_13, c_72, f_72_0, f_72_1, f_72_2, p_72_2, f_72_3, p_72_3, f_72_4, p_72_4, c_73, f_73_0, f_73_1, p_73_1, f_73_2, p_73_2, f_73_3, p_73_3, f_73_4, p_73_4, f_73_5, f_73_6, Option.some.injEq, exists_eq_left', exists_eq_left, Option.toList_some, Option.toList_none, List.cons_append, List.nil_append, true_and, and_true, Option.map_some, Option.map_none, x_ev_iff q1, x_ev_iff dr1, t3, t4, hf', if_true, x_ev_iff dr2, s_isWilling (d := d) (by omega) h73 hTz hW hAz hOz.1 hp, hw, Bool.false_eq_true, if_false, x_ev_iff u1]
theorem y_drawL (hd : 6 ≤ d) (hK : tOk T) (hP : 0 < tP T) {seed : Int64} {n : Nat} (hn : n ≤ 60) : ∀ (k i : Nat) (s : xS) (Y : Yr), i + k = n → clsT s 3 T → clsY s T Y → yOk T Y → ∃ s', x_R (x_ev g_M P d) 104 (26, [some (.ref 72), some (.ref 9), some (.long seed), none, some (.int (nI n)), some (.int (nI i))], [], mkH xs s) (none, mkH xs s') ∧ offY s s' ∧ clsY s' T (yI T k Y) := by
  intro k
  induction k with
  | zero =>
    intro i s Y hi hT hY hO
    obtain rfl : i = n := by omega
    refine ⟨s, ?_, offY.rf, hY⟩
    simp only [w_Years_draw_0, w_Years_draw_4, w_Years_draw_8, w_Years_draw_13, w_Years_draw_18, w_Years_draw_23, w_Years_draw_33, w_Years_draw_37, w_Years_draw_43, w_Years_draw_26 (l5 := nI i), show nI i ≤ nI i from Int32.le_refl _, if_true]
  | succ k ih =>
    intro i s Y hi hT hY hO
    have hc : ¬ nI n ≤ nI i := nI_ge (by omega) (by omega)
    obtain ⟨s1, q1, q2, q3⟩ := y_drawDay (P := P) (d := d) (xs := xs) hd hK hP hT hY hO
    obtain ⟨s2, z1, z2, z3⟩ := ih (i + 1) s1 (yD T Y) (by omega) (q2.T hT) q3 (yD_ok hK hP hO)
    refine ⟨s2, ?_, q2.tr z2, z3⟩
    simp only [w_Years_draw_0, w_Years_draw_4, w_Years_draw_8, w_Years_draw_13, w_Years_draw_18, w_Years_draw_23, w_Years_draw_33, w_Years_draw_37, w_Years_draw_43, w_Years_draw_26 (l5 := nI i), hc, if_false, c_72, f_72_0, f_72_1, f_72_2, p_72_2, f_72_3, p_72_3, f_72_4, p_72_4, Option.some.injEq, exists_eq_left', exists_eq_left, Option.toList_some, Option.toList_none, List.cons_append, List.nil_append, true_and, and_true, Option.map_some, Option.map_none, x_ev_iff q1, nI_1]
    exact z1
theorem y_go (hd : 7 ≤ d) (hK : tOk T) (hP : 0 < tP T) {s : xS} (hT : clsT s 3 T) (hA : clsS s 9 T A) (hO : aOk T A) {a n : Nat} (ha : a < 2147483648) (hn : n ≤ 60) : ∃ s', x_ev g_M P d 104 [.ref 72, .ref 9, .long (lN a), .int (nI n)] (mkH xs s) (none, mkH xs s') ∧ offY s s' ∧ clsY s' T (yI T n (A, a, 0, 0)) := by
  have h73 : 73 ∈ g_SP := by decide
  have h9 : 9 ∈ g_SP := by decide
  have hW := hK.1
  obtain ⟨d, rfl⟩ := x_1 (d := d) (by omega)
  obtain ⟨s1, q1, q2, q3⟩ := s_copyFrom (P := P) (d := d) (xs := xs) (by omega) h73 h9 (by decide) hW hA hO.1
  have o1 : offY s (s_p (s_p (s_l s1 72 2 (lN a)) 72 3 0) 72 4 0) := q2.Y.tr (fun q hq => ⟨by
    have h72 : ¬ q = 72 := by omega
    funext j
    simp [s_p, s_l, h72], s_l_o.2 q (by omega)⟩)
  have hY : clsY (s_p (s_p (s_l s1 72 2 (lN a)) 72 3 0) 72 4 0) T (A, a, 0, 0) := by
    refine ⟨clsS_at (fun q x y => ?_) q3, ?_, ?_, ?_⟩
    · have h72 : ¬ q = 72 := by omega
      funext j
      simp [s_p, s_l, h72]
    · show (s_l s1 72 2 (lN a)).2 72 2 = _
      simp [s_l]
    · simp [s_p]; rfl
    · simp [s_p]; rfl
  obtain ⟨s', z1, z2, z3⟩ := y_drawL (P := P) (d := d) (xs := xs) (by omega) hK hP (seed := lN a) hn n 0 _ (A, a, 0, 0) (by omega) (o1.T hT) hY ⟨hO, ha⟩
  refine ⟨s', ?_, o1.tr z2, z3⟩
  rw [x_ev_in rfl (Nat.le_of_ble_eq_true rfl)]
  rw [show x_ent (x_nL g_M 104) [.ref 72, .ref 9, .long (lN a), .int (nI n)] = [some (.ref 72), some (.ref 9), some (.long (lN a)), none, some (.int (nI n)), none] from rfl]
  simp only [w_Years_draw_0, w_Years_draw_4, w_Years_draw_8, w_Years_draw_13, w_Years_draw_18, w_Years_draw_23, w_Years_draw_33, w_Years_draw_37, w_Years_draw_43, c_72, f_72_0, f_72_1, f_72_2, p_72_2, f_72_3, p_72_3, f_72_4, p_72_4, c_73, f_73_0, f_73_1, p_73_1, f_73_2, p_73_2, f_73_3, p_73_3, f_73_4, p_73_4, f_73_5, f_73_6, Option.some.injEq, exists_eq_left', exists_eq_left, Option.toList_some, Option.toList_none, List.cons_append, List.nil_append, true_and, and_true, Option.map_some, Option.map_none, x_ev_iff q1]
  exact z1
end YEARS
