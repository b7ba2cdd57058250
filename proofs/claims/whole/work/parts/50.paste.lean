/-! row, write, paste (own work) -/
section PASTE0
variable {xs : List Int32} {s : xS}
/-- copies of rows of longs -/
theorem mk_cpl {f d nf nd : Nat} (hf : f < 131) (hf0 : f ≠ 0) (hd : d < 131) (hd0 : d ≠ 0) (cf : ∀ s : xS, g_cell f s = xL ((List.range nf).map (s.2 f))) (cd : ∀ s : xS, g_cell d s = xL ((List.range nd).map (s.2 d))) {sp dp n : Int32} (h1 : ¬ sp < 0) (h2 : ¬ dp < 0) (h3 : ¬ n < 0) (h4 : sp.toNatClampNeg + n.toNatClampNeg ≤ nf) (h5 : dp.toNatClampNeg + n.toNatClampNeg ≤ nd) : x_cp (mkH xs s) f sp d dp n = some (mkH xs (s_cl s f sp.toNatClampNeg d dp.toNatClampNeg n.toNatClampNeg)) := by
  unfold x_cp
  rw [if_neg (by simp [h1, h2, h3]), mk_get hf hf0, mk_get hd hd0, cf, cd]
  simp only
  rw [if_pos ⟨by simpa using h4, by simpa using h5⟩]
  congr 1
  refine mk_set hd hd0 ?_ s_cl_o.1 s_cl_o.2
  rw [cd]
  congr 3
  apply List.ext_getElem?
  intro q
  have hl := x_cpy_len ((List.range nf).map (s.2 f)) ((List.range nd).map (s.2 d)) (sp := sp.toNatClampNeg) (dp := dp.toNatClampNeg) (n := n.toNatClampNeg) (by simpa using h4) (by simpa using h5)
  by_cases hq : q < nd
  · have h6 := x_getD_cpy ((List.range nf).map (s.2 f)) ((List.range nd).map (s.2 d)) 0 (sp := sp.toNatClampNeg) (dp := dp.toNatClampNeg) (n := n.toNatClampNeg) (by simpa using h4) (by simpa using h5) q
    rw [List.getElem?_map, List.getElem?_range hq]
    have h7 : q < (x_cpy ((List.range nf).map (s.2 f)) ((List.range nd).map (s.2 d)) sp.toNatClampNeg dp.toNatClampNeg n.toNatClampNeg).length := by rw [hl]; simpa using hq
    rw [List.getElem?_eq_getElem h7]
    rw [List.getD_eq_getElem?_getD, List.getElem?_eq_getElem h7, Option.getD_some] at h6
    rw [h6]
    simp only [Option.map_some, va_cpy, s_cl, true_and]
    congr 1
    by_cases hr : dp.toNatClampNeg ≤ q ∧ q < dp.toNatClampNeg + n.toNatClampNeg
    · rw [if_pos hr, if_pos hr]
      have h8 : sp.toNatClampNeg + (q - dp.toNatClampNeg) < nf := by omega
      simp [h8]
    · rw [if_neg hr, if_neg hr]
      simp [hq]
  · rw [List.getElem?_eq_none (by simp; omega), List.getElem?_eq_none (by rw [hl]; simp; omega)]
end PASTE0
section PASTE1
variable {P : Nat → List Value → Option Value} {W : Wd}
set_option maxHeartbeats 4000000 in
theorem k_row (h : wOk W) (x w n : Int32) : do2 P 185 335 [.int x, .int w, .int n] W := by
  have e0 : w.toInt64 < 0 ↔ w < 0 := w_lt w 0
  rcases has_cs (n := 4) (by omega) x with h0 | ⟨p, hp, rfl, h1⟩
  · refine ask2.do h ⟨-2, cAsk0 ?_, rAsk0 ?_⟩
    · intro d xs s hd hC
      obtain ⟨d, rfl⟩ := x_1 (d := d) (by omega)
      rw [x_ev_in rfl (Nat.le_of_ble_eq_true rfl)]
      rw [show x_ent (x_nL g_M 185) [.ref 1, .int x, .int w, .int n] = [some (.ref 1), some (.int x), some (.int w), some (.int n)] from rfl]
      simp only [w_Top_row_0, w_Top_row_4, w_Top_row_7, w_Top_row_11, w_Top_row_16, w_Top_row_22, w_Top_row_25, w_Top_row_29, w_Top_row_32, w_Top_row_36, w_Top_row_38, w_Top_row_43, Option.some.injEq, exists_eq_left', exists_eq_left, Option.toList_some, Option.toList_none, List.cons_append, List.nil_append, true_and, and_true, Option.map_some, Option.map_none, t_isSlot (d := d) (by omega), h0, if_true]
    · intro d xs s hd hC
      obtain ⟨d, rfl⟩ := x_1 (d := d) (by omega)
      rw [x_ev_in rfl (Nat.le_of_ble_eq_true rfl)]
      rw [show x_ent (x_nL g_M 335) [.ref 110, .int x, .int w, .int n] = [some (.ref 110), some (.int x), some (.int w), some (.int n), none] from rfl]
      simp only [w_Ref_row_0, w_Ref_row_4, w_Ref_row_7, w_Ref_row_16, w_Ref_row_19, w_Ref_row_25, w_Ref_row_28, w_Ref_row_32, w_Ref_row_35, w_Ref_row_39, w_Ref_row_42, w_Ref_row_46, w_Ref_row_49, w_Ref_row_59, w_Ref_row_63, w_Ref_row_72, w_Ref_row_78, Option.some.injEq, exists_eq_left', exists_eq_left, Option.toList_some, Option.toList_none, List.cons_append, List.nil_append, true_and, and_true, Option.map_some, Option.map_none, r_isSlot (d := d) (by omega), h0, if_true]
  · rcases has_cs (n := 4) (by omega) w with g0 | ⟨k, hk, rfl, g1⟩
    · refine ask2.do h ⟨-2, cAsk0 ?_, rAsk0 ?_⟩
      · intro d xs s hd hC
        obtain ⟨d, rfl⟩ := x_1 (d := d) (by omega)
        rw [x_ev_in rfl (Nat.le_of_ble_eq_true rfl)]
        rw [show x_ent (x_nL g_M 185) [.ref 1, .int (nI p), .int w, .int n] = [some (.ref 1), some (.int (nI p)), some (.int w), some (.int n)] from rfl]
        by_cases hw : w < 0
        · simp only [w_Top_row_0, w_Top_row_4, w_Top_row_7, w_Top_row_11, w_Top_row_16, w_Top_row_22, w_Top_row_25, w_Top_row_29, w_Top_row_32, w_Top_row_36, w_Top_row_38, w_Top_row_43, Option.some.injEq, exists_eq_left', exists_eq_left, Option.toList_some, Option.toList_none, List.cons_append, List.nil_append, true_and, and_true, Option.map_some, Option.map_none, t_isSlot (d := d) (by omega), h1, show ¬ ((1 : Int32) = 0) by decide, if_false, hw, if_true]
        · have hw4 : (4 : Int32) ≤ w := by
            by_cases hz : nI 4 ≤ w
            · exact hz
            · rw [if_neg hw, if_neg hz] at g0
              exact absurd g0 (by decide)
          simp only [w_Top_row_0, w_Top_row_4, w_Top_row_7, w_Top_row_11, w_Top_row_16, w_Top_row_22, w_Top_row_25, w_Top_row_29, w_Top_row_32, w_Top_row_36, w_Top_row_38, w_Top_row_43, Option.some.injEq, exists_eq_left', exists_eq_left, Option.toList_some, Option.toList_none, List.cons_append, List.nil_append, true_and, and_true, Option.map_some, Option.map_none, t_isSlot (d := d) (by omega), h1, show ¬ ((1 : Int32) = 0) by decide, if_false, hw, hw4, if_true]
      · intro d xs s hd hC
        obtain ⟨d, rfl⟩ := x_1 (d := d) (by omega)
        rw [x_ev_in rfl (Nat.le_of_ble_eq_true rfl)]
        rw [show x_ent (x_nL g_M 335) [.ref 110, .int (nI p), .int w, .int n] = [some (.ref 110), some (.int (nI p)), some (.int w), some (.int n), none] from rfl]
        simp only [w_Ref_row_0, w_Ref_row_4, w_Ref_row_7, w_Ref_row_16, w_Ref_row_19, w_Ref_row_25, w_Ref_row_28, w_Ref_row_32, w_Ref_row_35, w_Ref_row_39, w_Ref_row_42, w_Ref_row_46, w_Ref_row_49, w_Ref_row_59, w_Ref_row_63, w_Ref_row_72, w_Ref_row_78, Option.some.injEq, exists_eq_left', exists_eq_left, Option.toList_some, Option.toList_none, List.cons_append, List.nil_append, true_and, and_true, Option.map_some, Option.map_none, r_isSlot (d := d) (by omega), h1, show ¬ ((1 : Int32) = 0) by decide, if_false, r_in (d := d) (by omega), e0, lt3, g0, if_true]
    · have k1 : ¬ nI k < 0 := nI_pos (by omega)
      have k2 : ¬ (4 : Int32) ≤ nI k := nI_ge (b := 4) hk (by omega)
      by_cases hn : n ≤ 60
      · by_cases hn0 : 0 ≤ n
        · obtain ⟨m, hm, rfl⟩ := nI_of (x := n) (Int32.not_lt.mpr hn0)
          have hm60 : m ≤ 60 := (nI_leI (b := 60) hm (by omega)).mp hn
          refine ⟨wSlt W p (some (k, m, fun _ => 0)), 0, wOk_sl h (fun z hz => by cases hz; exact ⟨hk, hm60⟩), ?_, ?_⟩
          · intro d xs s hd hC
            obtain ⟨d, rfl⟩ := x_1 (d := d) (by omega)
            obtain ⟨s', q1, q2, q3, q4⟩ := s_lay (P := P) (d := d) (xs := xs) (s := s) (w := k) (n := m) (by omega) hp
            refine ⟨s', ?_, cW_sl hC q2 q3 q4 hp, fun q hq => ⟨q2 q (by omega), q3 q (by omega)⟩⟩
            rw [x_ev_in rfl (Nat.le_of_ble_eq_true rfl)]
            rw [show x_ent (x_nL g_M 185) [.ref 1, .int (nI p), .int (nI k), .int (nI m)] = [some (.ref 1), some (.int (nI p)), some (.int (nI k)), some (.int (nI m))] from rfl]
            simp only [w_Top_row_0, w_Top_row_4, w_Top_row_7, w_Top_row_11, w_Top_row_16, w_Top_row_22, w_Top_row_25, w_Top_row_29, w_Top_row_32, w_Top_row_36, w_Top_row_38, w_Top_row_43, Option.some.injEq, exists_eq_left', exists_eq_left, Option.toList_some, Option.toList_none, List.cons_append, List.nil_append, true_and, and_true, Option.map_some, Option.map_none, t_isSlot (d := d) (by omega), h1, show ¬ ((1 : Int32) = 0) by decide, if_false, k1, k2, hn, hn0, if_true, c_1, f_1_0, f_1_1, p_1_1, f_1_2, f_1_3, f_1_4, f_1_5, f_1_6, p_1_6, f_1_7, f_1_8, f_1_9, f_1_10, f_1_11, f_1_12, f_1_13, f_1_14, e_76, sl_q hp, sl_c hp, x_ev_iff q1]
          · intro d xs s hd hC
            obtain ⟨d, rfl⟩ := x_1 (d := d) (by omega)
            generalize hz0 : s_p (s_p s 127 p (nI m)) 128 p (nI k) = z0
            obtain ⟨z, ho, e⟩ := x_upY (C := x_ev g_M P d) (k := 335) (N := 60) (β := xS) (R := fun j z => z.1 = z0.1 ∧ (∀ q, q ≠ 129 → z.2 q = s.2 q) ∧ ∀ i, z.2 129 i = if 60 * p ≤ i ∧ i < 60 * p + j then 0 else s.2 129 i) (F := fun j z => (52, [some (.ref 110), some (.int (nI p)), some (.int (nI k)), some (.int (nI m)), some (.int (nI j))], [], mkH xs z)) (fun j z hj ho => by
              obtain ⟨r1, r2, r3⟩ := ho
              have hc : ¬ 60 ≤ nI j := nI_ge (b := 60) hj (by omega)
              have ei : 60 * nI p + nI j = nI (60 * p + j) := by rw [show (60 : Int32) = nI 60 from rfl, pk_mul, nI_add]
              have hx : x_rd (z.2 129) 240 (nI (60 * p + j)) = some (z.2 129 (60 * p + j)) := x_rd_nI (by omega) (by omega)
              refine ⟨s_l z 129 (60 * p + j) 0, ⟨r1, fun q hq => ?_, fun i => ?_⟩, fun r => ?_⟩
              · rw [← r2 q hq]
                funext a
                simp [s_l, hq]
              · by_cases hi : i = 60 * p + j
                · rw [if_pos (by omega)]
                  simp [s_l, hi]
                · have h2 : (60 * p ≤ i ∧ i < 60 * p + (j + 1)) ↔ (60 * p ≤ i ∧ i < 60 * p + j) := by omega
                  simp only [h2, ← r3 i]
                  simp [s_l, hi]
              · simp only [w_Ref_row_0, w_Ref_row_4, w_Ref_row_7, w_Ref_row_16, w_Ref_row_19, w_Ref_row_25, w_Ref_row_28, w_Ref_row_32, w_Ref_row_35, w_Ref_row_39, w_Ref_row_42, w_Ref_row_46, w_Ref_row_49, w_Ref_row_59, w_Ref_row_63, w_Ref_row_72, w_Ref_row_78, w_Ref_row_52 (l4 := nI j), hc, if_false, c_110, f_110_0, p_110_0, f_110_1, f_110_2, f_110_3, f_110_4, f_110_5, p_110_5, f_110_6, f_110_7, p_110_7, f_110_8, p_110_8, f_110_9, p_110_9, f_110_10, p_110_10, f_110_11, p_110_11, f_110_12, p_110_12, f_110_13, p_110_13, f_110_14, f_110_15, f_110_16, p_110_16, f_110_17, f_110_18, p_110_18, f_110_19, p_110_19, f_110_20, f_110_21, p_110_21, f_110_22, p_110_22, f_110_23, f_110_24, f_110_25, p_110_25, f_110_26, f_110_27, f_110_28, f_110_29, f_110_30, f_110_31, p_110_31, f_110_32, p_110_32, f_110_33, p_110_33, f_110_34, p_110_34, f_110_35, f_110_36, f_110_37, f_110_38, e_129, i_129, Option.some.injEq, exists_eq_left', exists_eq_left, Option.toList_some, Option.toList_none, List.cons_append, List.nil_append, true_and, and_true, Option.map_some, Option.map_none, ei, hx, nI_clamp (show 60 * p + j < 2 ^ 31 by omega), nI_1]) 60 0 (z0.1, s.2) (by omega) ⟨rfl, fun _ _ => rfl, fun i => by rw [if_neg (by omega)]⟩
            obtain ⟨r1, r2, r3⟩ := ho
            have z1 : ∀ q, q ≠ 127 → q ≠ 128 → z.1 q = s.1 q := fun q a b => by
              rw [r1, ← hz0]
              funext j
              simp [s_p, a, b]
            refine ⟨z, ?_, rW_sl hC z1 (fun j hj => by rw [r1, ← hz0]; simp [s_p, hj]) (fun j hj => by rw [r1, ← hz0]; simp [s_p, hj]) (fun j hj i hi => by rw [r3, if_neg (by omega)]) ⟨by rw [r1, ← hz0]; simp [s_p], by rw [r1, ← hz0]; simp [s_p], fun j hj => by rw [r3, if_pos (by omega)]⟩, fun q hq => ⟨z1 q (by omega) (by omega), r2 q (by omega)⟩⟩
            have ez : (z0.1, s.2) = z0 := by rw [← hz0]; rfl
            rw [ez] at e
            have hx7 : x_rd (s.1 127) 4 (nI p) = some (s.1 127 p) := x_rd_nI hp (by omega)
            have hx8 : x_rd ((s_p s 127 p (nI m)).1 128) 4 (nI p) = some ((s_p s 127 p (nI m)).1 128 p) := x_rd_nI hp (by omega)
            rw [x_ev_in rfl (Nat.le_of_ble_eq_true rfl)]
            rw [show x_ent (x_nL g_M 335) [.ref 110, .int (nI p), .int (nI k), .int (nI m)] = [some (.ref 110), some (.int (nI p)), some (.int (nI k)), some (.int (nI m)), none] from rfl]
            simp only [w_Ref_row_0, w_Ref_row_4, w_Ref_row_7, w_Ref_row_16, w_Ref_row_19, w_Ref_row_25, w_Ref_row_28, w_Ref_row_32, w_Ref_row_35, w_Ref_row_39, w_Ref_row_42, w_Ref_row_46, w_Ref_row_49, w_Ref_row_59, w_Ref_row_63, w_Ref_row_72, w_Ref_row_78, Option.some.injEq, exists_eq_left', exists_eq_left, Option.toList_some, Option.toList_none, List.cons_append, List.nil_append, true_and, and_true, Option.map_some, Option.map_none, r_isSlot (d := d) (by omega), h1, show ¬ ((1 : Int32) = 0) by decide, if_false, r_in (d := d) (by omega), e0, lt3, g1, hn, hn0, if_true, c_110, f_110_0, p_110_0, f_110_1, f_110_2, f_110_3, f_110_4, f_110_5, p_110_5, f_110_6, f_110_7, p_110_7, f_110_8, p_110_8, f_110_9, p_110_9, f_110_10, p_110_10, f_110_11, p_110_11, f_110_12, p_110_12, f_110_13, p_110_13, f_110_14, f_110_15, f_110_16, p_110_16, f_110_17, f_110_18, p_110_18, f_110_19, p_110_19, f_110_20, f_110_21, p_110_21, f_110_22, p_110_22, f_110_23, f_110_24, f_110_25, p_110_25, f_110_26, f_110_27, f_110_28, f_110_29, f_110_30, f_110_31, p_110_31, f_110_32, p_110_32, f_110_33, p_110_33, f_110_34, p_110_34, f_110_35, f_110_36, f_110_37, f_110_38, e_127, i_127, e_128, i_128, hx7, hx8, nI_clamp (show p < 2 ^ 31 by omega), hz0]
            refine (e _).mpr ?_
            simp only [w_Ref_row_0, w_Ref_row_4, w_Ref_row_7, w_Ref_row_16, w_Ref_row_19, w_Ref_row_25, w_Ref_row_28, w_Ref_row_32, w_Ref_row_35, w_Ref_row_39, w_Ref_row_42, w_Ref_row_46, w_Ref_row_49, w_Ref_row_59, w_Ref_row_63, w_Ref_row_72, w_Ref_row_78, w_Ref_row_52 (l4 := nI 60), show (60 : Int32) ≤ nI 60 from Int32.le_refl _, if_true]
        · refine ask2.do h ⟨-3, cAsk0 ?_, rAsk0 ?_⟩
          · intro d xs s hd hC
            obtain ⟨d, rfl⟩ := x_1 (d := d) (by omega)
            rw [x_ev_in rfl (Nat.le_of_ble_eq_true rfl)]
            rw [show x_ent (x_nL g_M 185) [.ref 1, .int (nI p), .int (nI k), .int n] = [some (.ref 1), some (.int (nI p)), some (.int (nI k)), some (.int n)] from rfl]
            simp only [w_Top_row_0, w_Top_row_4, w_Top_row_7, w_Top_row_11, w_Top_row_16, w_Top_row_22, w_Top_row_25, w_Top_row_29, w_Top_row_32, w_Top_row_36, w_Top_row_38, w_Top_row_43, Option.some.injEq, exists_eq_left', exists_eq_left, Option.toList_some, Option.toList_none, List.cons_append, List.nil_append, true_and, and_true, Option.map_some, Option.map_none, t_isSlot (d := d) (by omega), h1, show ¬ ((1 : Int32) = 0) by decide, if_false, k1, k2, hn, hn0, if_true]
          · intro d xs s hd hC
            obtain ⟨d, rfl⟩ := x_1 (d := d) (by omega)
            rw [x_ev_in rfl (Nat.le_of_ble_eq_true rfl)]
            rw [show x_ent (x_nL g_M 335) [.ref 110, .int (nI p), .int (nI k), .int n] = [some (.ref 110), some (.int (nI p)), some (.int (nI k)), some (.int n), none] from rfl]
            simp only [w_Ref_row_0, w_Ref_row_4, w_Ref_row_7, w_Ref_row_16, w_Ref_row_19, w_Ref_row_25, w_Ref_row_28, w_Ref_row_32, w_Ref_row_35, w_Ref_row_39, w_Ref_row_42, w_Ref_row_46, w_Ref_row_49, w_Ref_row_59, w_Ref_row_63, w_Ref_row_72, w_Ref_row_78, Option.some.injEq, exists_eq_left', exists_eq_left, Option.toList_some, Option.toList_none, List.cons_append, List.nil_append, true_and, and_true, Option.map_some, Option.map_none, r_isSlot (d := d) (by omega), h1, show ¬ ((1 : Int32) = 0) by decide, if_false, r_in (d := d) (by omega), e0, lt3, g1, hn, hn0, if_true]
      · refine ask2.do h ⟨-2, cAsk0 ?_, rAsk0 ?_⟩
        · intro d xs s hd hC
          obtain ⟨d, rfl⟩ := x_1 (d := d) (by omega)
          rw [x_ev_in rfl (Nat.le_of_ble_eq_true rfl)]
          rw [show x_ent (x_nL g_M 185) [.ref 1, .int (nI p), .int (nI k), .int n] = [some (.ref 1), some (.int (nI p)), some (.int (nI k)), some (.int n)] from rfl]
          simp only [w_Top_row_0, w_Top_row_4, w_Top_row_7, w_Top_row_11, w_Top_row_16, w_Top_row_22, w_Top_row_25, w_Top_row_29, w_Top_row_32, w_Top_row_36, w_Top_row_38, w_Top_row_43, Option.some.injEq, exists_eq_left', exists_eq_left, Option.toList_some, Option.toList_none, List.cons_append, List.nil_append, true_and, and_true, Option.map_some, Option.map_none, t_isSlot (d := d) (by omega), h1, show ¬ ((1 : Int32) = 0) by decide, if_false, k1, k2, hn]
        · intro d xs s hd hC
          obtain ⟨d, rfl⟩ := x_1 (d := d) (by omega)
          rw [x_ev_in rfl (Nat.le_of_ble_eq_true rfl)]
          rw [show x_ent (x_nL g_M 335) [.ref 110, .int (nI p), .int (nI k), .int n] = [some (.ref 110), some (.int (nI p)), some (.int (nI k)), some (.int n), none] from rfl]
          simp only [w_Ref_row_0, w_Ref_row_4, w_Ref_row_7, w_Ref_row_16, w_Ref_row_19, w_Ref_row_25, w_Ref_row_28, w_Ref_row_32, w_Ref_row_35, w_Ref_row_39, w_Ref_row_42, w_Ref_row_46, w_Ref_row_49, w_Ref_row_59, w_Ref_row_63, w_Ref_row_72, w_Ref_row_78, Option.some.injEq, exists_eq_left', exists_eq_left, Option.toList_some, Option.toList_none, List.cons_append, List.nil_append, true_and, and_true, Option.map_some, Option.map_none, r_isSlot (d := d) (by omega), h1, show ¬ ((1 : Int32) = 0) by decide, if_false, r_in (d := d) (by omega), e0, lt3, g1, hn]
theorem nI_nm1 {m : Nat} (hm : m < 2 ^ 31) : ¬ nI m = -1 := by
  intro hz
  have := nI_pos hm
  rw [hz] at this
  exact this (by decide)
set_option maxHeartbeats 4000000 in
theorem k_write (h : wOk W) (x i : Int32) (v : Int64) : do2 P 186 336 [.int x, .int i, .long v] W := by
  have e0 : i.toInt64 < 0 ↔ i < 0 := w_lt i 0
  rcases has_cs (n := 4) (by omega) x with h0 | ⟨p, hp, rfl, h1⟩
  · refine ask2.do h ⟨-2, cAsk0 ?_, rAsk0 ?_⟩
    · intro d xs s hd hC
      obtain ⟨d, rfl⟩ := x_1 (d := d) (by omega)
      rw [x_ev_in rfl (Nat.le_of_ble_eq_true rfl)]
      rw [show x_ent (x_nL g_M 186) [.ref 1, .int x, .int i, .long v] = [some (.ref 1), some (.int x), some (.int i), some (.long v), none, none] from rfl]
      simp only [w_Top_write_0, w_Top_write_4, w_Top_write_7, w_Top_write_10, w_Top_write_14, w_Top_write_16, w_Top_write_23, w_Top_write_26, w_Top_write_29, w_Top_write_33, w_Top_write_39, w_Top_write_42, w_Top_write_45, w_Top_write_50, w_Top_write_57, w_Top_write_58, Option.some.injEq, exists_eq_left', exists_eq_left, Option.toList_some, Option.toList_none, List.cons_append, List.nil_append, true_and, and_true, Option.map_some, Option.map_none, t_isSlot (d := d) (by omega), h0, not_true_eq_false, if_false]
    · intro d xs s hd hC
      obtain ⟨d, rfl⟩ := x_1 (d := d) (by omega)
      rw [x_ev_in rfl (Nat.le_of_ble_eq_true rfl)]
      rw [show x_ent (x_nL g_M 336) [.ref 110, .int x, .int i, .long v] = [some (.ref 110), some (.int x), some (.int i), some (.long v), none] from rfl]
      simp only [w_Ref_write_0, w_Ref_write_4, w_Ref_write_7, w_Ref_write_10, w_Ref_write_14, w_Ref_write_16, w_Ref_write_20, w_Ref_write_23, w_Ref_write_30, w_Ref_write_32, w_Ref_write_38, w_Ref_write_41, w_Ref_write_44, w_Ref_write_48, w_Ref_write_59, w_Ref_write_61, w_Ref_write_64, w_Ref_write_65, Option.some.injEq, exists_eq_left', exists_eq_left, Option.toList_some, Option.toList_none, List.cons_append, List.nil_append, true_and, and_true, Option.map_some, Option.map_none, r_isSlot (d := d) (by omega), h0, not_true_eq_false, if_false]
  · have hso := h.2.2.2.2.2.1 p hp
    cases ho : wSl W p with
    | none =>
      refine ask2.do h ⟨-6, cAsk0 ?_, rAsk0 ?_⟩
      · intro d xs s hd hC
        obtain ⟨-, -, e, -⟩ := hC
        have e1 := e p hp
        rw [ho] at e1
        have e1 : s.1 (77 + 2 * p) 0 = 0 := e1
        obtain ⟨d, rfl⟩ := x_1 (d := d) (by omega)
        rw [x_ev_in rfl (Nat.le_of_ble_eq_true rfl)]
        rw [show x_ent (x_nL g_M 186) [.ref 1, .int (nI p), .int i, .long v] = [some (.ref 1), some (.int (nI p)), some (.int i), some (.long v), none, none] from rfl]
        simp only [w_Top_write_0, w_Top_write_4, w_Top_write_7, w_Top_write_10, w_Top_write_14, w_Top_write_16, w_Top_write_23, w_Top_write_26, w_Top_write_29, w_Top_write_33, w_Top_write_39, w_Top_write_42, w_Top_write_45, w_Top_write_50, w_Top_write_57, w_Top_write_58, Option.some.injEq, exists_eq_left', exists_eq_left, Option.toList_some, Option.toList_none, List.cons_append, List.nil_append, true_and, and_true, Option.map_some, Option.map_none, t_isSlot (d := d) (by omega), h1, show ¬ ((1 : Int32) = 0) by decide, not_false_eq_true, if_true, c_1, f_1_0, f_1_1, p_1_1, f_1_2, f_1_3, f_1_4, f_1_5, f_1_6, p_1_6, f_1_7, f_1_8, f_1_9, f_1_10, f_1_11, f_1_12, f_1_13, f_1_14, e_76, sl_q hp, sl_0 hp, e1, not_true_eq_false, if_false]
      · intro d xs s hd hC
        obtain ⟨-, -, e, -⟩ := hC
        have e1 := e p hp
        rw [ho] at e1
        have e1 : s.1 127 p = -1 := e1
        have hx : x_rd (s.1 127) 4 (nI p) = some (-1) := by rw [x_rd_nI hp (by omega), e1]
        obtain ⟨d, rfl⟩ := x_1 (d := d) (by omega)
        rw [x_ev_in rfl (Nat.le_of_ble_eq_true rfl)]
        rw [show x_ent (x_nL g_M 336) [.ref 110, .int (nI p), .int i, .long v] = [some (.ref 110), some (.int (nI p)), some (.int i), some (.long v), none] from rfl]
        simp only [w_Ref_write_0, w_Ref_write_4, w_Ref_write_7, w_Ref_write_10, w_Ref_write_14, w_Ref_write_16, w_Ref_write_20, w_Ref_write_23, w_Ref_write_30, w_Ref_write_32, w_Ref_write_38, w_Ref_write_41, w_Ref_write_44, w_Ref_write_48, w_Ref_write_59, w_Ref_write_61, w_Ref_write_64, w_Ref_write_65, Option.some.injEq, exists_eq_left', exists_eq_left, Option.toList_some, Option.toList_none, List.cons_append, List.nil_append, true_and, and_true, Option.map_some, Option.map_none, r_isSlot (d := d) (by omega), h1, show ¬ ((1 : Int32) = 0) by decide, not_false_eq_true, if_true, c_110, f_110_0, p_110_0, f_110_1, f_110_2, f_110_3, f_110_4, f_110_5, p_110_5, f_110_6, f_110_7, p_110_7, f_110_8, p_110_8, f_110_9, p_110_9, f_110_10, p_110_10, f_110_11, p_110_11, f_110_12, p_110_12, f_110_13, p_110_13, f_110_14, f_110_15, f_110_16, p_110_16, f_110_17, f_110_18, p_110_18, f_110_19, p_110_19, f_110_20, f_110_21, p_110_21, f_110_22, p_110_22, f_110_23, f_110_24, f_110_25, p_110_25, f_110_26, f_110_27, f_110_28, f_110_29, f_110_30, f_110_31, p_110_31, f_110_32, p_110_32, f_110_33, p_110_33, f_110_34, p_110_34, f_110_35, f_110_36, f_110_37, f_110_38, e_127, i_127, hx, not_true_eq_false, if_false]
    | some z =>
      obtain ⟨w, m, f⟩ := z
      rw [ho] at hso
      obtain ⟨hw, hm⟩ : w < 4 ∧ m ≤ 60 := hso _ rfl
      have hm1 : ¬ nI m = -1 := nI_nm1 (by omega)
      have hpr : ∀ y : Int32, nI m - 1 < y ↔ nI m ≤ y := fun y => nI_pr (by omega) y
      by_cases hi : i < 0 ∨ nI m ≤ i
      · refine ask2.do h ⟨-7, cAsk0 ?_, rAsk0 ?_⟩
        · intro d xs s hd hC
          obtain ⟨-, -, e, -⟩ := hC
          have e1 := e p hp
          rw [ho] at e1
          obtain ⟨a1, a2, a3, a4⟩ : s.1 (77 + 2 * p) 0 = 1 ∧ s.1 (77 + 2 * p) 1 = nI w ∧ s.1 (77 + 2 * p) 2 = nI m ∧ ∀ j, j < 60 → s.2 (78 + 2 * p) j = f j := e1
          obtain ⟨d, rfl⟩ := x_1 (d := d) (by omega)
          rw [x_ev_in rfl (Nat.le_of_ble_eq_true rfl)]
          rw [show x_ent (x_nL g_M 186) [.ref 1, .int (nI p), .int i, .long v] = [some (.ref 1), some (.int (nI p)), some (.int i), some (.long v), none, none] from rfl]
          by_cases hi0 : i < 0
          · simp only [w_Top_write_0, w_Top_write_4, w_Top_write_7, w_Top_write_10, w_Top_write_14, w_Top_write_16, w_Top_write_23, w_Top_write_26, w_Top_write_29, w_Top_write_33, w_Top_write_39, w_Top_write_42, w_Top_write_45, w_Top_write_50, w_Top_write_57, w_Top_write_58, Option.some.injEq, exists_eq_left', exists_eq_left, Option.toList_some, Option.toList_none, List.cons_append, List.nil_append, true_and, and_true, Option.map_some, Option.map_none, t_isSlot (d := d) (by omega), h1, show ¬ ((1 : Int32) = 0) by decide, not_false_eq_true, if_true, c_1, f_1_0, f_1_1, p_1_1, f_1_2, f_1_3, f_1_4, f_1_5, f_1_6, p_1_6, f_1_7, f_1_8, f_1_9, f_1_10, f_1_11, f_1_12, f_1_13, f_1_14, e_76, sl_q hp, sl_0 hp, a1, hi0]
          · have hi1 : ¬ i < nI m := Int32.not_lt.mpr (hi.resolve_left hi0)
            simp only [w_Top_write_0, w_Top_write_4, w_Top_write_7, w_Top_write_10, w_Top_write_14, w_Top_write_16, w_Top_write_23, w_Top_write_26, w_Top_write_29, w_Top_write_33, w_Top_write_39, w_Top_write_42, w_Top_write_45, w_Top_write_50, w_Top_write_57, w_Top_write_58, Option.some.injEq, exists_eq_left', exists_eq_left, Option.toList_some, Option.toList_none, List.cons_append, List.nil_append, true_and, and_true, Option.map_some, Option.map_none, t_isSlot (d := d) (by omega), h1, show ¬ ((1 : Int32) = 0) by decide, not_false_eq_true, if_true, if_false, c_1, f_1_0, f_1_1, p_1_1, f_1_2, f_1_3, f_1_4, f_1_5, f_1_6, p_1_6, f_1_7, f_1_8, f_1_9, f_1_10, f_1_11, f_1_12, f_1_13, f_1_14, e_76, sl_q hp, sl_0 hp, sl_2 hp, a1, a3, hi0, hi1]
        · intro d xs s hd hC
          obtain ⟨-, -, e, -⟩ := hC
          have e1 := e p hp
          rw [ho] at e1
          obtain ⟨a1, a2, a3⟩ : s.1 127 p = nI m ∧ s.1 128 p = nI w ∧ ∀ j, j < 60 → s.2 129 (60 * p + j) = f j := e1
          have hx : x_rd (s.1 127) 4 (nI p) = some (nI m) := by rw [x_rd_nI hp (by omega), a1]
          obtain ⟨d, rfl⟩ := x_1 (d := d) (by omega)
          rw [x_ev_in rfl (Nat.le_of_ble_eq_true rfl)]
          rw [show x_ent (x_nL g_M 336) [.ref 110, .int (nI p), .int i, .long v] = [some (.ref 110), some (.int (nI p)), some (.int i), some (.long v), none] from rfl]
          simp only [w_Ref_write_0, w_Ref_write_4, w_Ref_write_7, w_Ref_write_10, w_Ref_write_14, w_Ref_write_16, w_Ref_write_20, w_Ref_write_23, w_Ref_write_30, w_Ref_write_32, w_Ref_write_38, w_Ref_write_41, w_Ref_write_44, w_Ref_write_48, w_Ref_write_59, w_Ref_write_61, w_Ref_write_64, w_Ref_write_65, Option.some.injEq, exists_eq_left', exists_eq_left, Option.toList_some, Option.toList_none, List.cons_append, List.nil_append, true_and, and_true, Option.map_some, Option.map_none, r_isSlot (d := d) (by omega), h1, show ¬ ((1 : Int32) = 0) by decide, not_false_eq_true, if_true, if_false, c_110, f_110_0, p_110_0, f_110_1, f_110_2, f_110_3, f_110_4, f_110_5, p_110_5, f_110_6, f_110_7, p_110_7, f_110_8, p_110_8, f_110_9, p_110_9, f_110_10, p_110_10, f_110_11, p_110_11, f_110_12, p_110_12, f_110_13, p_110_13, f_110_14, f_110_15, f_110_16, p_110_16, f_110_17, f_110_18, p_110_18, f_110_19, p_110_19, f_110_20, f_110_21, p_110_21, f_110_22, p_110_22, f_110_23, f_110_24, f_110_25, p_110_25, f_110_26, f_110_27, f_110_28, f_110_29, f_110_30, f_110_31, p_110_31, f_110_32, p_110_32, f_110_33, p_110_33, f_110_34, p_110_34, f_110_35, f_110_36, f_110_37, f_110_38, e_127, i_127, hx, hm1, r_in (d := d) (by omega), e0, w_lt, hpr]
          by_cases hi0 : i < 0
          · simp only [hi0, if_true, not_true_eq_false, if_false]
          · simp only [hi0, hi.resolve_left hi0, if_true, not_true_eq_false, if_false]
      · have hi0 : ¬ i < 0 := fun z => hi (Or.inl z)
        have hi1 : ¬ nI m ≤ i := fun z => hi (Or.inr z)
        obtain ⟨j, hj, rfl⟩ := x_has (by omega) hi0 hi1
        have hlt : nI j < nI m := nI_lt hj (by omega)
        refine ⟨wSlt W p (some (w, m, fun k => if k = j then cutV w v else f k)), 0, wOk_sl h (fun z hz => by cases hz; exact ⟨hw, hm⟩), ?_, ?_⟩
        · intro d xs s hd hC
          obtain ⟨-, -, e, -⟩ := id hC
          have e1 := e p hp
          rw [ho] at e1
          obtain ⟨a1, a2, a3, a4⟩ : s.1 (77 + 2 * p) 0 = 1 ∧ s.1 (77 + 2 * p) 1 = nI w ∧ s.1 (77 + 2 * p) 2 = nI m ∧ ∀ j, j < 60 → s.2 (78 + 2 * p) j = f j := e1
          have hx : x_rd (s.2 (78 + 2 * p)) 60 (nI j) = some (s.2 (78 + 2 * p) j) := x_rd_nI (by omega) (by omega)
          have hz : slC (s_l s (78 + 2 * p) j (cutV w v)) p (some (w, m, fun k => if k = j then cutV w v else f k)) := by
            refine ⟨a1, a2, a3, fun k hk => ?_⟩
            show (s_l s (78 + 2 * p) j (cutV w v)).2 (78 + 2 * p) k = if k = j then cutV w v else f k
            by_cases hkj : k = j
            · simp [s_l, hkj]
            · rw [if_neg hkj, ← a4 k hk]
              simp [s_l, hkj]
          refine ⟨s_l s (78 + 2 * p) j (cutV w v), ?_, cW_sl hC (fun q _ => rfl) (fun q hq => s_l_o.2 q hq) hz hp, fun q hq => ⟨rfl, s_l_o.2 q (by omega)⟩⟩
          obtain ⟨d, rfl⟩ := x_1 (d := d) (by omega)
          rw [x_ev_in rfl (Nat.le_of_ble_eq_true rfl)]
          rw [show x_ent (x_nL g_M 186) [.ref 1, .int (nI p), .int (nI j), .long v] = [some (.ref 1), some (.int (nI p)), some (.int (nI j)), some (.long v), none, none] from rfl]
          simp only [w_Top_write_0, w_Top_write_4, w_Top_write_7, w_Top_write_10, w_Top_write_14, w_Top_write_16, w_Top_write_23, w_Top_write_26, w_Top_write_29, w_Top_write_33, w_Top_write_39, w_Top_write_42, w_Top_write_45, w_Top_write_50, w_Top_write_57, w_Top_write_58, Option.some.injEq, exists_eq_left', exists_eq_left, Option.toList_some, Option.toList_none, List.cons_append, List.nil_append, true_and, and_true, Option.map_some, Option.map_none, t_isSlot (d := d) (by omega), h1, show ¬ ((1 : Int32) = 0) by decide, not_false_eq_true, if_true, if_false, c_1, f_1_0, f_1_1, p_1_1, f_1_2, f_1_3, f_1_4, f_1_5, f_1_6, p_1_6, f_1_7, f_1_8, f_1_9, f_1_10, f_1_11, f_1_12, f_1_13, f_1_14, e_76, sl_q hp, sl_0 hp, sl_2 hp, sl_3 hp, sl_c hp, sl_i hp, a1, a3, hi0, hlt, t_cut (d := d) (by omega) hp hw a2, hx, nI_clamp (show j < 2 ^ 31 by omega)]
        · intro d xs s hd hC
          obtain ⟨-, -, e, -⟩ := id hC
          have e1 := e p hp
          rw [ho] at e1
          obtain ⟨a1, a2, a3⟩ : s.1 127 p = nI m ∧ s.1 128 p = nI w ∧ ∀ j, j < 60 → s.2 129 (60 * p + j) = f j := e1
          have hx7 : x_rd (s.1 127) 4 (nI p) = some (nI m) := by rw [x_rd_nI hp (by omega), a1]
          have hx8 : x_rd (s.1 128) 4 (nI p) = some (nI w) := by rw [x_rd_nI hp (by omega), a2]
          have ei : 60 * nI p + nI j = nI (60 * p + j) := by rw [show (60 : Int32) = nI 60 from rfl, pk_mul, nI_add]
          have hx9 : x_rd (s.2 129) 240 (nI (60 * p + j)) = some (s.2 129 (60 * p + j)) := x_rd_nI (by omega) (by omega)
          have hz : slR (s_l s 129 (60 * p + j) (cutV w v)) p (some (w, m, fun k => if k = j then cutV w v else f k)) := by
            refine ⟨a1, a2, fun k hk => ?_⟩
            show (s_l s 129 (60 * p + j) (cutV w v)).2 129 (60 * p + k) = if k = j then cutV w v else f k
            by_cases hkj : k = j
            · simp [s_l, hkj]
            · have hne : ¬ 60 * p + k = 60 * p + j := by omega
              rw [if_neg hkj, ← a3 k hk]
              simp [s_l, hkj]
          refine ⟨s_l s 129 (60 * p + j) (cutV w v), ?_, rW_sl hC (fun q _ _ => rfl) (fun k _ => rfl) (fun k _ => rfl) (fun k hk b hb => ?_) hz, fun q hq => ⟨rfl, s_l_o.2 q (by omega)⟩⟩
          · obtain ⟨d, rfl⟩ := x_1 (d := d) (by omega)
            rw [x_ev_in rfl (Nat.le_of_ble_eq_true rfl)]
            rw [show x_ent (x_nL g_M 336) [.ref 110, .int (nI p), .int (nI j), .long v] = [some (.ref 110), some (.int (nI p)), some (.int (nI j)), some (.long v), none] from rfl]
            simp only [w_Ref_write_0, w_Ref_write_4, w_Ref_write_7, w_Ref_write_10, w_Ref_write_14, w_Ref_write_16, w_Ref_write_20, w_Ref_write_23, w_Ref_write_30, w_Ref_write_32, w_Ref_write_38, w_Ref_write_41, w_Ref_write_44, w_Ref_write_48, w_Ref_write_59, w_Ref_write_61, w_Ref_write_64, w_Ref_write_65, Option.some.injEq, exists_eq_left', exists_eq_left, Option.toList_some, Option.toList_none, List.cons_append, List.nil_append, true_and, and_true, Option.map_some, Option.map_none, r_isSlot (d := d) (by omega), h1, show ¬ ((1 : Int32) = 0) by decide, not_false_eq_true, if_true, if_false, c_110, f_110_0, p_110_0, f_110_1, f_110_2, f_110_3, f_110_4, f_110_5, p_110_5, f_110_6, f_110_7, p_110_7, f_110_8, p_110_8, f_110_9, p_110_9, f_110_10, p_110_10, f_110_11, p_110_11, f_110_12, p_110_12, f_110_13, p_110_13, f_110_14, f_110_15, f_110_16, p_110_16, f_110_17, f_110_18, p_110_18, f_110_19, p_110_19, f_110_20, f_110_21, p_110_21, f_110_22, p_110_22, f_110_23, f_110_24, f_110_25, p_110_25, f_110_26, f_110_27, f_110_28, f_110_29, f_110_30, f_110_31, p_110_31, f_110_32, p_110_32, f_110_33, p_110_33, f_110_34, p_110_34, f_110_35, f_110_36, f_110_37, f_110_38, e_127, i_127, e_128, i_128, e_129, i_129, hx7, hx8, hm1, r_in (d := d) (by omega), e0, w_lt, hpr, hi0, hi1, ei, r_cut64 (d := d) (by omega) hw, hx9, nI_clamp (show 60 * p + j < 2 ^ 31 by omega)]
          · have hne : ¬ 60 * k + b = 60 * p + j := by omega
            show (if 129 = 129 ∧ 60 * k + b = 60 * p + j then _ else s.2 129 (60 * k + b)) = _
            rw [if_neg (fun z => hne z.2)]
end PASTE1
