/-! undo, anew, act (own work) -/
section ACTS3
variable {P : Nat → List Value → Option Value} {W : Wd}
theorem acC_cut {s : xS} {l : List Int32} {n : Nat} (hn : n ≤ l.length) (h : ∀ i, i < l.length → s.1 12 i = l.getD i 0) : acC (s_p s 1 6 (nI n)) (l.take n) := by
  refine ⟨?_, fun i hi => ?_⟩
  · rw [List.length_take, Nat.min_eq_left hn]
    simp [s_p]
  · rw [List.length_take, Nat.min_eq_left hn] at hi
    have := h i (by omega)
    simp only [List.getD_eq_getElem?_getD, List.getElem?_take, hi, if_true] at this ⊢
    rw [← this]
    simp [s_p]
/-- the class goes back to the first n ACTS -/
theorem c_cut (h : wOk W) {n : Nat} (hn : n ≤ (wAc W).length) : ∃ A', wOk (wAct W ((wAc W).take n) A') ∧ ∀ (d : Nat) (xs : List Int32) (s : xS), 5 ≤ d → cW s W → ∃ s', x_ev g_M P d 133 [.ref 1] (mkH xs (s_p s 1 6 (nI n))) (none, mkH xs s') ∧ s'.1 1 6 = nI n ∧ offA s s' ∧ cW s' (wAct W ((wAc W).take n) A') := by
  have h' := h
  obtain ⟨hK, hl60, hr, hrest⟩ := h; have hW := hK.1; have hO := aOk_run hK _ _ _ (aOk_begin hK) hr; have hAw := hO.1; have w1 := hW.1; have w2 := hW.2.1; have h9 : 9 ∈ g_SP := by decide
  obtain ⟨A', hA'⟩ := aRun_take (wAc W) n _ _ hr
  have hl : ((wAc W).take n).length ≤ 60 := by rw [List.length_take]; omega
  refine ⟨A', wOk_act h' hl hA', fun d xs s hd hC => ?_⟩
  have hC' := hC
  obtain ⟨⟨hT, hA, hn2, hacts⟩, -⟩ := hC
  have ha := acC_cut hn hacts
  have hT' : clsT (s_p s 1 6 (nI n)) 3 (wT W) := clsT_off (fun q a b => by
    funext k
    have : ¬ q = 1 := by omega
    simp [s_p, this]) hT
  obtain ⟨s', q1, q2, q3⟩ := s_replay (P := P) (d := d) (xs := xs) hd hT' hK ha hl hA'
  have hoA : offA s s' := ⟨fun q a b c e f => by
    rw [q2.1 q b c e]
    funext k
    simp [s_p, a], fun k hk => by
    rw [q2.1 1 (by omega) (by omega) (by omega)]
    simp [s_p, hk], q2.2⟩
  have e1 : s'.1 1 = (s_p s 1 6 (nI n)).1 1 := q2.1 1 (by omega) (by omega) (by omega)
  have e12 : s'.1 12 = (s_p s 1 6 (nI n)).1 12 := q2.1 12 (by omega) (by omega) (by omega)
  refine ⟨s', q1, ?_, hoA, cW_act hC' hoA q3 ⟨?_, ?_⟩⟩
  · rw [e1]; simp [s_p]
  · rw [e1]; exact ha.1
  · rw [e12]; exact ha.2
theorem r_cut {s : xS} {T : Tw} {l : List Int32} {n : Nat} (hW : tWf T) (hn : n ≤ l.length) (hR : refW s T l) : refW (s_p s 111 6 (nI n)) T (l.take n) := by
  obtain ⟨hT, r6, ra, r60⟩ := hR
  refine ⟨refT_pl hW (fun k h1 h2 => by simp [s_p, h2]) hT, ?_, fun i hi => ?_, ?_⟩
  · rw [List.length_take, Nat.min_eq_left hn]
    simp [s_p]
  · rw [List.length_take, Nat.min_eq_left hn] at hi
    have := ra i (by omega)
    simp only [List.getD_eq_getElem?_getD, List.getElem?_take, hi, if_true] at this ⊢
    rw [← this]
    have : ¬ 75 + i = 6 := by omega
    simp [s_p, this]
  · rw [List.length_take]; omega
theorem offB_p {s : xS} {k : Nat} {v : Int32} : offB s (s_p s 111 k v) := ⟨fun q a b c => by funext j; simp [s_p, b], fun k _ => by simp [s_p], fun _ _ _ => rfl⟩
set_option maxHeartbeats 4000000 in
theorem k_undo (h : wOk W) : do2 P 131 257 [] W := by
  have h' := h
  obtain ⟨hK, hl60, hr, hrest⟩ := h; have hW := hK.1; have hO := aOk_run hK _ _ _ (aOk_begin hK) hr; have hAw := hO.1; have w1 := hW.1; have w2 := hW.2.1; have h9 : 9 ∈ g_SP := by decide
  by_cases h1 : tLi (wT W) ≤ 0
  · refine ask2.do h' ⟨-2, cAsk0 ?_, rAsk0 ?_⟩
    · intro d xs s hd hC; obtain ⟨⟨hT, hA, hn, hacts⟩, -⟩ := hC
      obtain ⟨d, rfl⟩ := x_1 (d := d) (by omega)
      rw [x_ev_in rfl (Nat.le_of_ble_eq_true rfl)]
      rw [show x_ent (x_nL g_M 131) [.ref 1] = [some (.ref 1)] from rfl]
      simp only [w_Top_undo_0, w_Top_undo_4, w_Top_undo_7, w_Top_undo_10, w_Top_undo_13, w_Top_undo_17, w_Top_undo_20, w_Top_undo_23, w_Top_undo_28, w_Top_undo_33, w_Top_undo_37, w_Top_undo_41, c_1, f_1_0, f_1_1, p_1_1, f_1_2, f_1_3, f_1_4, f_1_5, f_1_6, p_1_6, f_1_7, f_1_8, f_1_9, f_1_10, f_1_11, f_1_12, f_1_13, f_1_14, c_3, f_3_0, p_3_0, f_3_1, p_3_1, f_3_2, p_3_2, f_3_3, p_3_3, f_3_4, p_3_4, f_3_5, p_3_5, f_3_6, p_3_6, f_3_7, p_3_7, f_3_8, p_3_8, f_3_9, f_3_10, f_3_11, f_3_12, f_3_13, c_9, f_9_0, f_9_1, p_9_1, f_9_2, p_9_2, f_9_3, p_9_3, f_9_4, p_9_4, f_9_5, f_9_6, Option.some.injEq, exists_eq_left', exists_eq_left, Option.toList_some, Option.toList_none, List.cons_append, List.nil_append, true_and, and_true, Option.map_some, Option.map_none, t_isTold (d := d) (by omega) hT, t_hasPerson (d := d) (by omega) hT, t_hasMatter (d := d) (by omega) hT, t_hasSet (d := d) (by omega) hT hW, t_bitOf (d := d) (by omega), t_isClosed (d := d) (by omega) hT hW, t_sumOfAll (d := d) (by omega) hT hW, s_openOnes (d := d) (by omega) h9 hT hW hA, s_wishers (d := d) (by omega) h9 hT hW hA hAw, s_allCups (d := d) (by omega) h9 hT hW hA, h1, if_true, not_true_eq_false, if_false]
    · intro d xs s hd hC; obtain ⟨hR, -⟩ := hC; have hT := hR.1
      obtain ⟨d, rfl⟩ := x_1 (d := d) (by omega)
      rw [x_ev_in rfl (Nat.le_of_ble_eq_true rfl)]
      rw [show x_ent (x_nL g_M 257) [.ref 110] = [some (.ref 110)] from rfl]
      simp only [w_Ref_undo_0, w_Ref_undo_4, w_Ref_undo_7, w_Ref_undo_10, w_Ref_undo_14, w_Ref_undo_17, w_Ref_undo_20, w_Ref_undo_23, w_Ref_undo_27, w_Ref_undo_31, w_Ref_undo_34, w_Ref_undo_38, w_Ref_undo_41, c_110, f_110_0, p_110_0, f_110_1, f_110_2, f_110_3, f_110_4, f_110_5, p_110_5, f_110_6, f_110_7, p_110_7, f_110_8, p_110_8, f_110_9, p_110_9, f_110_10, p_110_10, f_110_11, p_110_11, f_110_12, p_110_12, f_110_13, p_110_13, f_110_14, f_110_15, f_110_16, p_110_16, f_110_17, f_110_18, p_110_18, f_110_19, p_110_19, f_110_20, f_110_21, p_110_21, f_110_22, p_110_22, f_110_23, f_110_24, f_110_25, p_110_25, f_110_26, f_110_27, f_110_28, f_110_29, f_110_30, f_110_31, p_110_31, f_110_32, p_110_32, f_110_33, p_110_33, f_110_34, p_110_34, f_110_35, f_110_36, f_110_37, f_110_38, Option.some.injEq, exists_eq_left', exists_eq_left, Option.toList_some, Option.toList_none, List.cons_append, List.nil_append, true_and, and_true, Option.map_some, Option.map_none, r_isTown (d := d) (by omega) hT, r_isPerson (d := d) (by omega) hT hW, r_isMatterI (d := d) (by omega) hT hW, r_isSet (d := d) (by omega) hT hW, r_allMatters (d := d) (by omega) hT hW, r_isClosed (d := d) (by omega) hT hW, r_sumOfAll (d := d) (by omega) hT hW, r_restsOf (d := d) (by omega) hT hW, r_in (d := d) (by omega), r_bit (d := d) (by omega), r_bits (d := d) (by omega), h1, if_true, not_true_eq_false, if_false]
  · by_cases h0 : (wAc W).length = 0
    · refine ask2.do h' ⟨-5, cAsk0 ?_, rAsk0 ?_⟩
      · intro d xs s hd hC; obtain ⟨⟨hT, hA, hn, hacts⟩, -⟩ := hC
        rw [h0] at hn
        obtain ⟨d, rfl⟩ := x_1 (d := d) (by omega)
        rw [x_ev_in rfl (Nat.le_of_ble_eq_true rfl)]
        rw [show x_ent (x_nL g_M 131) [.ref 1] = [some (.ref 1)] from rfl]
        simp only [w_Top_undo_0, w_Top_undo_4, w_Top_undo_7, w_Top_undo_10, w_Top_undo_13, w_Top_undo_17, w_Top_undo_20, w_Top_undo_23, w_Top_undo_28, w_Top_undo_33, w_Top_undo_37, w_Top_undo_41, c_1, f_1_0, f_1_1, p_1_1, f_1_2, f_1_3, f_1_4, f_1_5, f_1_6, p_1_6, f_1_7, f_1_8, f_1_9, f_1_10, f_1_11, f_1_12, f_1_13, f_1_14, c_3, f_3_0, p_3_0, f_3_1, p_3_1, f_3_2, p_3_2, f_3_3, p_3_3, f_3_4, p_3_4, f_3_5, p_3_5, f_3_6, p_3_6, f_3_7, p_3_7, f_3_8, p_3_8, f_3_9, f_3_10, f_3_11, f_3_12, f_3_13, c_9, f_9_0, f_9_1, p_9_1, f_9_2, p_9_2, f_9_3, p_9_3, f_9_4, p_9_4, f_9_5, f_9_6, Option.some.injEq, exists_eq_left', exists_eq_left, Option.toList_some, Option.toList_none, List.cons_append, List.nil_append, true_and, and_true, Option.map_some, Option.map_none, t_isTold (d := d) (by omega) hT, t_hasPerson (d := d) (by omega) hT, t_hasMatter (d := d) (by omega) hT, t_hasSet (d := d) (by omega) hT hW, t_bitOf (d := d) (by omega), t_isClosed (d := d) (by omega) hT hW, t_sumOfAll (d := d) (by omega) hT hW, s_openOnes (d := d) (by omega) h9 hT hW hA, s_wishers (d := d) (by omega) h9 hT hW hA hAw, s_allCups (d := d) (by omega) h9 hT hW hA, h1, show ¬ ((1 : Int32) = 0) by decide, not_false_eq_true, if_true, hn, show (nI 0 = 0) ↔ True by decide, not_true_eq_false, if_false]
      · intro d xs s hd hC; obtain ⟨hR, -⟩ := hC; have hT := hR.1
        have e6 : x_rd (s.1 111) 135 6 = some (nI 0) := by rw [show (6 : Int32) = nI 6 from rfl, x_rd_nI (by omega) (by omega), hR.2.1, h0]
        obtain ⟨d, rfl⟩ := x_1 (d := d) (by omega)
        rw [x_ev_in rfl (Nat.le_of_ble_eq_true rfl)]
        rw [show x_ent (x_nL g_M 257) [.ref 110] = [some (.ref 110)] from rfl]
        simp only [w_Ref_undo_0, w_Ref_undo_4, w_Ref_undo_7, w_Ref_undo_10, w_Ref_undo_14, w_Ref_undo_17, w_Ref_undo_20, w_Ref_undo_23, w_Ref_undo_27, w_Ref_undo_31, w_Ref_undo_34, w_Ref_undo_38, w_Ref_undo_41, c_110, f_110_0, p_110_0, f_110_1, f_110_2, f_110_3, f_110_4, f_110_5, p_110_5, f_110_6, f_110_7, p_110_7, f_110_8, p_110_8, f_110_9, p_110_9, f_110_10, p_110_10, f_110_11, p_110_11, f_110_12, p_110_12, f_110_13, p_110_13, f_110_14, f_110_15, f_110_16, p_110_16, f_110_17, f_110_18, p_110_18, f_110_19, p_110_19, f_110_20, f_110_21, p_110_21, f_110_22, p_110_22, f_110_23, f_110_24, f_110_25, p_110_25, f_110_26, f_110_27, f_110_28, f_110_29, f_110_30, f_110_31, p_110_31, f_110_32, p_110_32, f_110_33, p_110_33, f_110_34, p_110_34, f_110_35, f_110_36, f_110_37, f_110_38, e_111, i_111, Option.some.injEq, exists_eq_left', exists_eq_left, Option.toList_some, Option.toList_none, List.cons_append, List.nil_append, true_and, and_true, Option.map_some, Option.map_none, r_isTown (d := d) (by omega) hT, r_isPerson (d := d) (by omega) hT hW, r_isMatterI (d := d) (by omega) hT hW, r_isSet (d := d) (by omega) hT hW, r_allMatters (d := d) (by omega) hT hW, r_isClosed (d := d) (by omega) hT hW, r_sumOfAll (d := d) (by omega) hT hW, r_restsOf (d := d) (by omega) hT hW, r_in (d := d) (by omega), r_bit (d := d) (by omega), r_bits (d := d) (by omega), h1, show ¬ ((1 : Int32) = 0) by decide, not_false_eq_true, if_true, e6, show (nI 0 = 0) ↔ True by decide, not_true_eq_false, if_false]
    · obtain ⟨n, hn⟩ : ∃ n, (wAc W).length = n + 1 := ⟨(wAc W).length - 1, by omega⟩
      obtain ⟨A', k1, k2⟩ := c_cut (P := P) h' (n := n) (by omega)
      have hne : ¬ nI (n + 1) = 0 := nI_ne0 (by omega) (by omega)
      refine ⟨_, nI n, k1, ?_, ?_⟩
      · intro d xs s hd hC
        obtain ⟨d, rfl⟩ := x_1 (d := d) (by omega)
        obtain ⟨s', q1, q2, q3, q4⟩ := k2 d xs s (by omega) hC
        refine ⟨s', ?_, q4, frC q3⟩
        obtain ⟨⟨hT, hA, hn2, hacts⟩, -⟩ := hC
        rw [hn] at hn2
        rw [x_ev_in rfl (Nat.le_of_ble_eq_true rfl)]
        rw [show x_ent (x_nL g_M 131) [.ref 1] = [some (.ref 1)] from rfl]
        simp only [w_Top_undo_0, w_Top_undo_4, w_Top_undo_7, w_Top_undo_10, w_Top_undo_13, w_Top_undo_17, w_Top_undo_20, w_Top_undo_23, w_Top_undo_28, w_Top_undo_33, w_Top_undo_37, w_Top_undo_41, c_1, f_1_0, f_1_1, p_1_1, f_1_2, f_1_3, f_1_4, f_1_5, f_1_6, p_1_6, f_1_7, f_1_8, f_1_9, f_1_10, f_1_11, f_1_12, f_1_13, f_1_14, c_3, f_3_0, p_3_0, f_3_1, p_3_1, f_3_2, p_3_2, f_3_3, p_3_3, f_3_4, p_3_4, f_3_5, p_3_5, f_3_6, p_3_6, f_3_7, p_3_7, f_3_8, p_3_8, f_3_9, f_3_10, f_3_11, f_3_12, f_3_13, c_9, f_9_0, f_9_1, p_9_1, f_9_2, p_9_2, f_9_3, p_9_3, f_9_4, p_9_4, f_9_5, f_9_6, Option.some.injEq, exists_eq_left', exists_eq_left, Option.toList_some, Option.toList_none, List.cons_append, List.nil_append, true_and, and_true, Option.map_some, Option.map_none, t_isTold (d := d) (by omega) hT, t_hasPerson (d := d) (by omega) hT, t_hasMatter (d := d) (by omega) hT, t_hasSet (d := d) (by omega) hT hW, t_bitOf (d := d) (by omega), t_isClosed (d := d) (by omega) hT hW, t_sumOfAll (d := d) (by omega) hT hW, s_openOnes (d := d) (by omega) h9 hT hW hA, s_wishers (d := d) (by omega) h9 hT hW hA hAw, s_allCups (d := d) (by omega) h9 hT hW hA, h1, show ¬ ((1 : Int32) = 0) by decide, not_false_eq_true, if_true, if_false, hn2, hne, nI_pred, x_ev_iff q1, q2]
      · intro d xs s hd hC
        obtain ⟨hR, -⟩ := id hC
        have hT := hR.1
        refine ⟨s_p s 111 6 (nI n), ?_, rW_act hC offB_p (r_cut hW (by omega) hR), frR offB_p⟩
        have e6 : x_rd (s.1 111) 135 6 = some (nI (n + 1)) := by rw [show (6 : Int32) = nI 6 from rfl, x_rd_nI (by omega) (by omega), hR.2.1, hn]
        have e7 : x_rd ((s_p s 111 6 (nI n)).1 111) 135 6 = some (nI n) := by
          rw [show (6 : Int32) = nI 6 from rfl, x_rd_nI (by omega) (by omega)]
          simp [s_p]
        obtain ⟨d, rfl⟩ := x_1 (d := d) (by omega)
        rw [x_ev_in rfl (Nat.le_of_ble_eq_true rfl)]
        rw [show x_ent (x_nL g_M 257) [.ref 110] = [some (.ref 110)] from rfl]
        simp only [w_Ref_undo_0, w_Ref_undo_4, w_Ref_undo_7, w_Ref_undo_10, w_Ref_undo_14, w_Ref_undo_17, w_Ref_undo_20, w_Ref_undo_23, w_Ref_undo_27, w_Ref_undo_31, w_Ref_undo_34, w_Ref_undo_38, w_Ref_undo_41, c_110, f_110_0, p_110_0, f_110_1, f_110_2, f_110_3, f_110_4, f_110_5, p_110_5, f_110_6, f_110_7, p_110_7, f_110_8, p_110_8, f_110_9, p_110_9, f_110_10, p_110_10, f_110_11, p_110_11, f_110_12, p_110_12, f_110_13, p_110_13, f_110_14, f_110_15, f_110_16, p_110_16, f_110_17, f_110_18, p_110_18, f_110_19, p_110_19, f_110_20, f_110_21, p_110_21, f_110_22, p_110_22, f_110_23, f_110_24, f_110_25, p_110_25, f_110_26, f_110_27, f_110_28, f_110_29, f_110_30, f_110_31, p_110_31, f_110_32, p_110_32, f_110_33, p_110_33, f_110_34, p_110_34, f_110_35, f_110_36, f_110_37, f_110_38, e_111, i_111, Option.some.injEq, exists_eq_left', exists_eq_left, Option.toList_some, Option.toList_none, List.cons_append, List.nil_append, true_and, and_true, Option.map_some, Option.map_none, r_isTown (d := d) (by omega) hT, r_isPerson (d := d) (by omega) hT hW, r_isMatterI (d := d) (by omega) hT hW, r_isSet (d := d) (by omega) hT hW, r_allMatters (d := d) (by omega) hT hW, r_isClosed (d := d) (by omega) hT hW, r_sumOfAll (d := d) (by omega) hT hW, r_restsOf (d := d) (by omega) hT hW, r_in (d := d) (by omega), r_bit (d := d) (by omega), r_bits (d := d) (by omega), h1, show ¬ ((1 : Int32) = 0) by decide, not_false_eq_true, if_true, if_false, e6, hne, nI_pred, show (6 : Int32).toNatClampNeg = 6 by decide, e7]
set_option maxHeartbeats 4000000 in
theorem k_anew (h : wOk W) : do2 P 132 258 [] W := by
  have h' := h
  obtain ⟨hK, hl60, hr, hrest⟩ := h; have hW := hK.1; have hO := aOk_run hK _ _ _ (aOk_begin hK) hr; have hAw := hO.1; have w1 := hW.1; have w2 := hW.2.1; have h9 : 9 ∈ g_SP := by decide
  by_cases h1 : tLi (wT W) ≤ 0
  · refine ask2.do h' ⟨-2, cAsk0 ?_, rAsk0 ?_⟩
    · intro d xs s hd hC; obtain ⟨⟨hT, hA, hn, hacts⟩, -⟩ := hC
      obtain ⟨d, rfl⟩ := x_1 (d := d) (by omega)
      rw [x_ev_in rfl (Nat.le_of_ble_eq_true rfl)]
      rw [show x_ent (x_nL g_M 132) [.ref 1] = [some (.ref 1), none] from rfl]
      simp only [w_Top_anew_0, w_Top_anew_4, w_Top_anew_7, w_Top_anew_10, w_Top_anew_13, w_Top_anew_17, w_Top_anew_23, w_Top_anew_27, c_1, f_1_0, f_1_1, p_1_1, f_1_2, f_1_3, f_1_4, f_1_5, f_1_6, p_1_6, f_1_7, f_1_8, f_1_9, f_1_10, f_1_11, f_1_12, f_1_13, f_1_14, c_3, f_3_0, p_3_0, f_3_1, p_3_1, f_3_2, p_3_2, f_3_3, p_3_3, f_3_4, p_3_4, f_3_5, p_3_5, f_3_6, p_3_6, f_3_7, p_3_7, f_3_8, p_3_8, f_3_9, f_3_10, f_3_11, f_3_12, f_3_13, c_9, f_9_0, f_9_1, p_9_1, f_9_2, p_9_2, f_9_3, p_9_3, f_9_4, p_9_4, f_9_5, f_9_6, Option.some.injEq, exists_eq_left', exists_eq_left, Option.toList_some, Option.toList_none, List.cons_append, List.nil_append, true_and, and_true, Option.map_some, Option.map_none, t_isTold (d := d) (by omega) hT, t_hasPerson (d := d) (by omega) hT, t_hasMatter (d := d) (by omega) hT, t_hasSet (d := d) (by omega) hT hW, t_bitOf (d := d) (by omega), t_isClosed (d := d) (by omega) hT hW, t_sumOfAll (d := d) (by omega) hT hW, s_openOnes (d := d) (by omega) h9 hT hW hA, s_wishers (d := d) (by omega) h9 hT hW hA hAw, s_allCups (d := d) (by omega) h9 hT hW hA, h1, if_true, not_true_eq_false, if_false]
    · intro d xs s hd hC; obtain ⟨hR, -⟩ := hC; have hT := hR.1
      obtain ⟨d, rfl⟩ := x_1 (d := d) (by omega)
      rw [x_ev_in rfl (Nat.le_of_ble_eq_true rfl)]
      rw [show x_ent (x_nL g_M 258) [.ref 110] = [some (.ref 110), none] from rfl]
      simp only [w_Ref_anew_0, w_Ref_anew_4, w_Ref_anew_7, w_Ref_anew_10, w_Ref_anew_14, w_Ref_anew_17, w_Ref_anew_22, w_Ref_anew_26, c_110, f_110_0, p_110_0, f_110_1, f_110_2, f_110_3, f_110_4, f_110_5, p_110_5, f_110_6, f_110_7, p_110_7, f_110_8, p_110_8, f_110_9, p_110_9, f_110_10, p_110_10, f_110_11, p_110_11, f_110_12, p_110_12, f_110_13, p_110_13, f_110_14, f_110_15, f_110_16, p_110_16, f_110_17, f_110_18, p_110_18, f_110_19, p_110_19, f_110_20, f_110_21, p_110_21, f_110_22, p_110_22, f_110_23, f_110_24, f_110_25, p_110_25, f_110_26, f_110_27, f_110_28, f_110_29, f_110_30, f_110_31, p_110_31, f_110_32, p_110_32, f_110_33, p_110_33, f_110_34, p_110_34, f_110_35, f_110_36, f_110_37, f_110_38, Option.some.injEq, exists_eq_left', exists_eq_left, Option.toList_some, Option.toList_none, List.cons_append, List.nil_append, true_and, and_true, Option.map_some, Option.map_none, r_isTown (d := d) (by omega) hT, r_isPerson (d := d) (by omega) hT hW, r_isMatterI (d := d) (by omega) hT hW, r_isSet (d := d) (by omega) hT hW, r_allMatters (d := d) (by omega) hT hW, r_isClosed (d := d) (by omega) hT hW, r_sumOfAll (d := d) (by omega) hT hW, r_restsOf (d := d) (by omega) hT hW, r_in (d := d) (by omega), r_bit (d := d) (by omega), r_bits (d := d) (by omega), h1, if_true, not_true_eq_false, if_false]
  · obtain ⟨A', k1, k2⟩ := c_cut (P := P) h' (n := 0) (by omega)
    refine ⟨_, nI (wAc W).length, k1, ?_, ?_⟩
    · intro d xs s hd hC
      obtain ⟨d, rfl⟩ := x_1 (d := d) (by omega)
      obtain ⟨s', q1, q2, q3, q4⟩ := k2 d xs s (by omega) hC
      rw [show nI 0 = 0 by decide] at q1
      refine ⟨s', ?_, q4, frC q3⟩
      obtain ⟨⟨hT, hA, hn2, hacts⟩, -⟩ := hC
      rw [x_ev_in rfl (Nat.le_of_ble_eq_true rfl)]
      rw [show x_ent (x_nL g_M 132) [.ref 1] = [some (.ref 1), none] from rfl]
      simp only [w_Top_anew_0, w_Top_anew_4, w_Top_anew_7, w_Top_anew_10, w_Top_anew_13, w_Top_anew_17, w_Top_anew_23, w_Top_anew_27, c_1, f_1_0, f_1_1, p_1_1, f_1_2, f_1_3, f_1_4, f_1_5, f_1_6, p_1_6, f_1_7, f_1_8, f_1_9, f_1_10, f_1_11, f_1_12, f_1_13, f_1_14, c_3, f_3_0, p_3_0, f_3_1, p_3_1, f_3_2, p_3_2, f_3_3, p_3_3, f_3_4, p_3_4, f_3_5, p_3_5, f_3_6, p_3_6, f_3_7, p_3_7, f_3_8, p_3_8, f_3_9, f_3_10, f_3_11, f_3_12, f_3_13, c_9, f_9_0, f_9_1, p_9_1, f_9_2, p_9_2, f_9_3, p_9_3, f_9_4, p_9_4, f_9_5, f_9_6, Option.some.injEq, exists_eq_left', exists_eq_left, Option.toList_some, Option.toList_none, List.cons_append, List.nil_append, true_and, and_true, Option.map_some, Option.map_none, t_isTold (d := d) (by omega) hT, t_hasPerson (d := d) (by omega) hT, t_hasMatter (d := d) (by omega) hT, t_hasSet (d := d) (by omega) hT hW, t_bitOf (d := d) (by omega), t_isClosed (d := d) (by omega) hT hW, t_sumOfAll (d := d) (by omega) hT hW, s_openOnes (d := d) (by omega) h9 hT hW hA, s_wishers (d := d) (by omega) h9 hT hW hA hAw, s_allCups (d := d) (by omega) h9 hT hW hA, h1, show ¬ ((1 : Int32) = 0) by decide, not_false_eq_true, if_true, if_false, hn2, x_ev_iff q1]
    · intro d xs s hd hC
      obtain ⟨hR, -⟩ := id hC
      have hT := hR.1
      refine ⟨s_p s 111 6 (nI 0), ?_, rW_act hC offB_p (r_cut hW (by omega) hR), frR offB_p⟩
      have e6 : x_rd (s.1 111) 135 6 = some (nI (wAc W).length) := by rw [show (6 : Int32) = nI 6 from rfl, x_rd_nI (by omega) (by omega), hR.2.1]
      obtain ⟨d, rfl⟩ := x_1 (d := d) (by omega)
      rw [x_ev_in rfl (Nat.le_of_ble_eq_true rfl)]
      rw [show x_ent (x_nL g_M 258) [.ref 110] = [some (.ref 110), none] from rfl]
      simp only [w_Ref_anew_0, w_Ref_anew_4, w_Ref_anew_7, w_Ref_anew_10, w_Ref_anew_14, w_Ref_anew_17, w_Ref_anew_22, w_Ref_anew_26, c_110, f_110_0, p_110_0, f_110_1, f_110_2, f_110_3, f_110_4, f_110_5, p_110_5, f_110_6, f_110_7, p_110_7, f_110_8, p_110_8, f_110_9, p_110_9, f_110_10, p_110_10, f_110_11, p_110_11, f_110_12, p_110_12, f_110_13, p_110_13, f_110_14, f_110_15, f_110_16, p_110_16, f_110_17, f_110_18, p_110_18, f_110_19, p_110_19, f_110_20, f_110_21, p_110_21, f_110_22, p_110_22, f_110_23, f_110_24, f_110_25, p_110_25, f_110_26, f_110_27, f_110_28, f_110_29, f_110_30, f_110_31, p_110_31, f_110_32, p_110_32, f_110_33, p_110_33, f_110_34, p_110_34, f_110_35, f_110_36, f_110_37, f_110_38, e_111, i_111, Option.some.injEq, exists_eq_left', exists_eq_left, Option.toList_some, Option.toList_none, List.cons_append, List.nil_append, true_and, and_true, Option.map_some, Option.map_none, r_isTown (d := d) (by omega) hT, r_isPerson (d := d) (by omega) hT hW, r_isMatterI (d := d) (by omega) hT hW, r_isSet (d := d) (by omega) hT hW, r_allMatters (d := d) (by omega) hT hW, r_isClosed (d := d) (by omega) hT hW, r_sumOfAll (d := d) (by omega) hT hW, r_restsOf (d := d) (by omega) hT hW, r_in (d := d) (by omega), r_bit (d := d) (by omega), r_bits (d := d) (by omega), h1, show ¬ ((1 : Int32) = 0) by decide, not_false_eq_true, if_true, if_false, e6, show (6 : Int32).toNatClampNeg = 6 by decide]
      rfl
set_option maxHeartbeats 4000000 in
theorem k_act (h : wOk W) (x : Int32) : ask2 P 134 259 [.int x] W := by
  obtain ⟨hK, hl60, hr, hrest⟩ := h; have hW := hK.1; have hO := aOk_run hK _ _ _ (aOk_begin hK) hr; have hAw := hO.1; have w1 := hW.1; have w2 := hW.2.1; have h9 : 9 ∈ g_SP := by decide
  by_cases h1 : tLi (wT W) ≤ 0
  · refine ⟨-2, cAsk0 ?_, rAsk0 ?_⟩
    · intro d xs s hd hC; obtain ⟨⟨hT, hA, hn, hacts⟩, -⟩ := hC
      obtain ⟨d, rfl⟩ := x_1 (d := d) (by omega)
      rw [x_ev_in rfl (Nat.le_of_ble_eq_true rfl)]
      rw [show x_ent (x_nL g_M 134) [.ref 1, .int x] = [some (.ref 1), some (.int x)] from rfl]
      simp only [w_Top_act_0, w_Top_act_4, w_Top_act_7, w_Top_act_10, w_Top_act_13, w_Top_act_17, w_Top_act_22, w_Top_act_25, w_Top_act_29, w_Top_act_31, w_Top_act_34, w_Top_act_35, c_1, f_1_0, f_1_1, p_1_1, f_1_2, f_1_3, f_1_4, f_1_5, f_1_6, p_1_6, f_1_7, f_1_8, f_1_9, f_1_10, f_1_11, f_1_12, f_1_13, f_1_14, c_3, f_3_0, p_3_0, f_3_1, p_3_1, f_3_2, p_3_2, f_3_3, p_3_3, f_3_4, p_3_4, f_3_5, p_3_5, f_3_6, p_3_6, f_3_7, p_3_7, f_3_8, p_3_8, f_3_9, f_3_10, f_3_11, f_3_12, f_3_13, c_9, f_9_0, f_9_1, p_9_1, f_9_2, p_9_2, f_9_3, p_9_3, f_9_4, p_9_4, f_9_5, f_9_6, Option.some.injEq, exists_eq_left', exists_eq_left, Option.toList_some, Option.toList_none, List.cons_append, List.nil_append, true_and, and_true, Option.map_some, Option.map_none, t_isTold (d := d) (by omega) hT, t_hasPerson (d := d) (by omega) hT, t_hasMatter (d := d) (by omega) hT, t_hasSet (d := d) (by omega) hT hW, t_bitOf (d := d) (by omega), t_isClosed (d := d) (by omega) hT hW, t_sumOfAll (d := d) (by omega) hT hW, s_openOnes (d := d) (by omega) h9 hT hW hA, s_wishers (d := d) (by omega) h9 hT hW hA hAw, s_allCups (d := d) (by omega) h9 hT hW hA, h1, if_true, not_true_eq_false, if_false]
    · intro d xs s hd hC; obtain ⟨hR, -⟩ := hC; have hT := hR.1
      obtain ⟨d, rfl⟩ := x_1 (d := d) (by omega)
      rw [x_ev_in rfl (Nat.le_of_ble_eq_true rfl)]
      rw [show x_ent (x_nL g_M 259) [.ref 110, .int x] = [some (.ref 110), some (.int x)] from rfl]
      simp only [w_Ref_act_0, w_Ref_act_4, w_Ref_act_7, w_Ref_act_12, w_Ref_act_19, w_Ref_act_22, w_Ref_act_28, w_Ref_act_31, w_Ref_act_35, w_Ref_act_40, w_Ref_act_43, w_Ref_act_44, c_110, f_110_0, p_110_0, f_110_1, f_110_2, f_110_3, f_110_4, f_110_5, p_110_5, f_110_6, f_110_7, p_110_7, f_110_8, p_110_8, f_110_9, p_110_9, f_110_10, p_110_10, f_110_11, p_110_11, f_110_12, p_110_12, f_110_13, p_110_13, f_110_14, f_110_15, f_110_16, p_110_16, f_110_17, f_110_18, p_110_18, f_110_19, p_110_19, f_110_20, f_110_21, p_110_21, f_110_22, p_110_22, f_110_23, f_110_24, f_110_25, p_110_25, f_110_26, f_110_27, f_110_28, f_110_29, f_110_30, f_110_31, p_110_31, f_110_32, p_110_32, f_110_33, p_110_33, f_110_34, p_110_34, f_110_35, f_110_36, f_110_37, f_110_38, Option.some.injEq, exists_eq_left', exists_eq_left, Option.toList_some, Option.toList_none, List.cons_append, List.nil_append, true_and, and_true, Option.map_some, Option.map_none, r_isTown (d := d) (by omega) hT, r_isPerson (d := d) (by omega) hT hW, r_isMatterI (d := d) (by omega) hT hW, r_isSet (d := d) (by omega) hT hW, r_allMatters (d := d) (by omega) hT hW, r_isClosed (d := d) (by omega) hT hW, r_sumOfAll (d := d) (by omega) hT hW, r_restsOf (d := d) (by omega) hT hW, r_in (d := d) (by omega), r_bit (d := d) (by omega), r_bits (d := d) (by omega), h1, if_true, not_true_eq_false, if_false]
  · have e : x.toInt64 < 0 ↔ x < 0 := w_lt x 0
    by_cases h2 : x < 0
    · refine ⟨-1, cAsk0 ?_, rAsk0 ?_⟩
      · intro d xs s hd hC; obtain ⟨⟨hT, hA, hn, hacts⟩, -⟩ := hC
        obtain ⟨d, rfl⟩ := x_1 (d := d) (by omega)
        rw [x_ev_in rfl (Nat.le_of_ble_eq_true rfl)]
        rw [show x_ent (x_nL g_M 134) [.ref 1, .int x] = [some (.ref 1), some (.int x)] from rfl]
        simp only [w_Top_act_0, w_Top_act_4, w_Top_act_7, w_Top_act_10, w_Top_act_13, w_Top_act_17, w_Top_act_22, w_Top_act_25, w_Top_act_29, w_Top_act_31, w_Top_act_34, w_Top_act_35, c_1, f_1_0, f_1_1, p_1_1, f_1_2, f_1_3, f_1_4, f_1_5, f_1_6, p_1_6, f_1_7, f_1_8, f_1_9, f_1_10, f_1_11, f_1_12, f_1_13, f_1_14, c_3, f_3_0, p_3_0, f_3_1, p_3_1, f_3_2, p_3_2, f_3_3, p_3_3, f_3_4, p_3_4, f_3_5, p_3_5, f_3_6, p_3_6, f_3_7, p_3_7, f_3_8, p_3_8, f_3_9, f_3_10, f_3_11, f_3_12, f_3_13, c_9, f_9_0, f_9_1, p_9_1, f_9_2, p_9_2, f_9_3, p_9_3, f_9_4, p_9_4, f_9_5, f_9_6, Option.some.injEq, exists_eq_left', exists_eq_left, Option.toList_some, Option.toList_none, List.cons_append, List.nil_append, true_and, and_true, Option.map_some, Option.map_none, t_isTold (d := d) (by omega) hT, t_hasPerson (d := d) (by omega) hT, t_hasMatter (d := d) (by omega) hT, t_hasSet (d := d) (by omega) hT hW, t_bitOf (d := d) (by omega), t_isClosed (d := d) (by omega) hT hW, t_sumOfAll (d := d) (by omega) hT hW, s_openOnes (d := d) (by omega) h9 hT hW hA, s_wishers (d := d) (by omega) h9 hT hW hA hAw, s_allCups (d := d) (by omega) h9 hT hW hA, h1, show ¬ ((1 : Int32) = 0) by decide, if_true, not_false_eq_true, if_false, h2]
      · intro d xs s hd hC; obtain ⟨hR, -⟩ := hC; have hT := hR.1
        have e6 : x_rd (s.1 111) 135 6 = some (nI (wAc W).length) := by rw [show (6 : Int32) = nI 6 from rfl, x_rd_nI (by omega) (by omega), hR.2.1]
        obtain ⟨d, rfl⟩ := x_1 (d := d) (by omega)
        rw [x_ev_in rfl (Nat.le_of_ble_eq_true rfl)]
        rw [show x_ent (x_nL g_M 259) [.ref 110, .int x] = [some (.ref 110), some (.int x)] from rfl]
        simp only [w_Ref_act_0, w_Ref_act_4, w_Ref_act_7, w_Ref_act_12, w_Ref_act_19, w_Ref_act_22, w_Ref_act_28, w_Ref_act_31, w_Ref_act_35, w_Ref_act_40, w_Ref_act_43, w_Ref_act_44, c_110, f_110_0, p_110_0, f_110_1, f_110_2, f_110_3, f_110_4, f_110_5, p_110_5, f_110_6, f_110_7, p_110_7, f_110_8, p_110_8, f_110_9, p_110_9, f_110_10, p_110_10, f_110_11, p_110_11, f_110_12, p_110_12, f_110_13, p_110_13, f_110_14, f_110_15, f_110_16, p_110_16, f_110_17, f_110_18, p_110_18, f_110_19, p_110_19, f_110_20, f_110_21, p_110_21, f_110_22, p_110_22, f_110_23, f_110_24, f_110_25, p_110_25, f_110_26, f_110_27, f_110_28, f_110_29, f_110_30, f_110_31, p_110_31, f_110_32, p_110_32, f_110_33, p_110_33, f_110_34, p_110_34, f_110_35, f_110_36, f_110_37, f_110_38, e_111, i_111, Option.some.injEq, exists_eq_left', exists_eq_left, Option.toList_some, Option.toList_none, List.cons_append, List.nil_append, true_and, and_true, Option.map_some, Option.map_none, r_isTown (d := d) (by omega) hT, r_isPerson (d := d) (by omega) hT hW, r_isMatterI (d := d) (by omega) hT hW, r_isSet (d := d) (by omega) hT hW, r_allMatters (d := d) (by omega) hT hW, r_isClosed (d := d) (by omega) hT hW, r_sumOfAll (d := d) (by omega) hT hW, r_restsOf (d := d) (by omega) hT hW, r_in (d := d) (by omega), r_bit (d := d) (by omega), r_bits (d := d) (by omega), h1, show ¬ ((1 : Int32) = 0) by decide, if_true, not_false_eq_true, if_false, e6, e, h2, exists_eq']
    · by_cases h3 : nI (wAc W).length ≤ x
      · refine ⟨-1, cAsk0 ?_, rAsk0 ?_⟩
        · intro d xs s hd hC; obtain ⟨⟨hT, hA, hn, hacts⟩, -⟩ := hC
          obtain ⟨d, rfl⟩ := x_1 (d := d) (by omega)
          rw [x_ev_in rfl (Nat.le_of_ble_eq_true rfl)]
          rw [show x_ent (x_nL g_M 134) [.ref 1, .int x] = [some (.ref 1), some (.int x)] from rfl]
          simp only [w_Top_act_0, w_Top_act_4, w_Top_act_7, w_Top_act_10, w_Top_act_13, w_Top_act_17, w_Top_act_22, w_Top_act_25, w_Top_act_29, w_Top_act_31, w_Top_act_34, w_Top_act_35, c_1, f_1_0, f_1_1, p_1_1, f_1_2, f_1_3, f_1_4, f_1_5, f_1_6, p_1_6, f_1_7, f_1_8, f_1_9, f_1_10, f_1_11, f_1_12, f_1_13, f_1_14, c_3, f_3_0, p_3_0, f_3_1, p_3_1, f_3_2, p_3_2, f_3_3, p_3_3, f_3_4, p_3_4, f_3_5, p_3_5, f_3_6, p_3_6, f_3_7, p_3_7, f_3_8, p_3_8, f_3_9, f_3_10, f_3_11, f_3_12, f_3_13, c_9, f_9_0, f_9_1, p_9_1, f_9_2, p_9_2, f_9_3, p_9_3, f_9_4, p_9_4, f_9_5, f_9_6, Option.some.injEq, exists_eq_left', exists_eq_left, Option.toList_some, Option.toList_none, List.cons_append, List.nil_append, true_and, and_true, Option.map_some, Option.map_none, t_isTold (d := d) (by omega) hT, t_hasPerson (d := d) (by omega) hT, t_hasMatter (d := d) (by omega) hT, t_hasSet (d := d) (by omega) hT hW, t_bitOf (d := d) (by omega), t_isClosed (d := d) (by omega) hT hW, t_sumOfAll (d := d) (by omega) hT hW, s_openOnes (d := d) (by omega) h9 hT hW hA, s_wishers (d := d) (by omega) h9 hT hW hA hAw, s_allCups (d := d) (by omega) h9 hT hW hA, h1, show ¬ ((1 : Int32) = 0) by decide, if_true, not_false_eq_true, if_false, h2, hn, h3]
        · intro d xs s hd hC; obtain ⟨hR, -⟩ := hC; have hT := hR.1
          have e6 : x_rd (s.1 111) 135 6 = some (nI (wAc W).length) := by rw [show (6 : Int32) = nI 6 from rfl, x_rd_nI (by omega) (by omega), hR.2.1]
          obtain ⟨d, rfl⟩ := x_1 (d := d) (by omega)
          rw [x_ev_in rfl (Nat.le_of_ble_eq_true rfl)]
          rw [show x_ent (x_nL g_M 259) [.ref 110, .int x] = [some (.ref 110), some (.int x)] from rfl]
          simp only [w_Ref_act_0, w_Ref_act_4, w_Ref_act_7, w_Ref_act_12, w_Ref_act_19, w_Ref_act_22, w_Ref_act_28, w_Ref_act_31, w_Ref_act_35, w_Ref_act_40, w_Ref_act_43, w_Ref_act_44, c_110, f_110_0, p_110_0, f_110_1, f_110_2, f_110_3, f_110_4, f_110_5, p_110_5, f_110_6, f_110_7, p_110_7, f_110_8, p_110_8, f_110_9, p_110_9, f_110_10, p_110_10, f_110_11, p_110_11, f_110_12, p_110_12, f_110_13, p_110_13, f_110_14, f_110_15, f_110_16, p_110_16, f_110_17, f_110_18, p_110_18, f_110_19, p_110_19, f_110_20, f_110_21, p_110_21, f_110_22, p_110_22, f_110_23, f_110_24, f_110_25, p_110_25, f_110_26, f_110_27, f_110_28, f_110_29, f_110_30, f_110_31, p_110_31, f_110_32, p_110_32, f_110_33, p_110_33, f_110_34, p_110_34, f_110_35, f_110_36, f_110_37, f_110_38, e_111, i_111, Option.some.injEq, exists_eq_left', exists_eq_left, Option.toList_some, Option.toList_none, List.cons_append, List.nil_append, true_and, and_true, Option.map_some, Option.map_none, r_isTown (d := d) (by omega) hT, r_isPerson (d := d) (by omega) hT hW, r_isMatterI (d := d) (by omega) hT hW, r_isSet (d := d) (by omega) hT hW, r_allMatters (d := d) (by omega) hT hW, r_isClosed (d := d) (by omega) hT hW, r_sumOfAll (d := d) (by omega) hT hW, r_restsOf (d := d) (by omega) hT hW, r_in (d := d) (by omega), r_bit (d := d) (by omega), r_bits (d := d) (by omega), h1, show ¬ ((1 : Int32) = 0) by decide, if_true, not_false_eq_true, if_false, e6, e, w_lt, nI_pr (show (wAc W).length < 2 ^ 30 by omega), h2, h3]
      · obtain ⟨i, hi, rfl⟩ := x_has (by omega) h2 h3
        refine ⟨(wAc W).getD i 0, cAsk0 ?_, rAsk0 ?_⟩
        · intro d xs s hd hC; obtain ⟨⟨hT, hA, hn, hacts⟩, -⟩ := hC
          have hx : x_rd (s.1 12) 60 (nI i) = some ((wAc W).getD i 0) := by rw [x_rd_nI (by omega) (by omega), hacts i hi]
          obtain ⟨d, rfl⟩ := x_1 (d := d) (by omega)
          rw [x_ev_in rfl (Nat.le_of_ble_eq_true rfl)]
          rw [show x_ent (x_nL g_M 134) [.ref 1, .int (nI i)] = [some (.ref 1), some (.int (nI i))] from rfl]
          simp only [w_Top_act_0, w_Top_act_4, w_Top_act_7, w_Top_act_10, w_Top_act_13, w_Top_act_17, w_Top_act_22, w_Top_act_25, w_Top_act_29, w_Top_act_31, w_Top_act_34, w_Top_act_35, c_1, f_1_0, f_1_1, p_1_1, f_1_2, f_1_3, f_1_4, f_1_5, f_1_6, p_1_6, f_1_7, f_1_8, f_1_9, f_1_10, f_1_11, f_1_12, f_1_13, f_1_14, c_3, f_3_0, p_3_0, f_3_1, p_3_1, f_3_2, p_3_2, f_3_3, p_3_3, f_3_4, p_3_4, f_3_5, p_3_5, f_3_6, p_3_6, f_3_7, p_3_7, f_3_8, p_3_8, f_3_9, f_3_10, f_3_11, f_3_12, f_3_13, c_9, f_9_0, f_9_1, p_9_1, f_9_2, p_9_2, f_9_3, p_9_3, f_9_4, p_9_4, f_9_5, f_9_6, e_12, i_12, Option.some.injEq, exists_eq_left', exists_eq_left, Option.toList_some, Option.toList_none, List.cons_append, List.nil_append, true_and, and_true, Option.map_some, Option.map_none, t_isTold (d := d) (by omega) hT, t_hasPerson (d := d) (by omega) hT, t_hasMatter (d := d) (by omega) hT, t_hasSet (d := d) (by omega) hT hW, t_bitOf (d := d) (by omega), t_isClosed (d := d) (by omega) hT hW, t_sumOfAll (d := d) (by omega) hT hW, s_openOnes (d := d) (by omega) h9 hT hW hA, s_wishers (d := d) (by omega) h9 hT hW hA hAw, s_allCups (d := d) (by omega) h9 hT hW hA, h1, show ¬ ((1 : Int32) = 0) by decide, if_true, not_false_eq_true, if_false, h2, hn, h3, hx]
        · intro d xs s hd hC; obtain ⟨hR, -⟩ := hC; have hT := hR.1
          have e6 : x_rd (s.1 111) 135 6 = some (nI (wAc W).length) := by rw [show (6 : Int32) = nI 6 from rfl, x_rd_nI (by omega) (by omega), hR.2.1]
          have e7 : x_rd (s.1 111) 135 (75 + nI i) = some ((wAc W).getD i 0) := by rw [show (75 : Int32) = nI 75 from rfl, nI_add, x_rd_nI (by omega) (by omega), hR.2.2.1 i hi]
          obtain ⟨d, rfl⟩ := x_1 (d := d) (by omega)
          rw [x_ev_in rfl (Nat.le_of_ble_eq_true rfl)]
          rw [show x_ent (x_nL g_M 259) [.ref 110, .int (nI i)] = [some (.ref 110), some (.int (nI i))] from rfl]
          simp only [w_Ref_act_0, w_Ref_act_4, w_Ref_act_7, w_Ref_act_12, w_Ref_act_19, w_Ref_act_22, w_Ref_act_28, w_Ref_act_31, w_Ref_act_35, w_Ref_act_40, w_Ref_act_43, w_Ref_act_44, c_110, f_110_0, p_110_0, f_110_1, f_110_2, f_110_3, f_110_4, f_110_5, p_110_5, f_110_6, f_110_7, p_110_7, f_110_8, p_110_8, f_110_9, p_110_9, f_110_10, p_110_10, f_110_11, p_110_11, f_110_12, p_110_12, f_110_13, p_110_13, f_110_14, f_110_15, f_110_16, p_110_16, f_110_17, f_110_18, p_110_18, f_110_19, p_110_19, f_110_20, f_110_21, p_110_21, f_110_22, p_110_22, f_110_23, f_110_24, f_110_25, p_110_25, f_110_26, f_110_27, f_110_28, f_110_29, f_110_30, f_110_31, p_110_31, f_110_32, p_110_32, f_110_33, p_110_33, f_110_34, p_110_34, f_110_35, f_110_36, f_110_37, f_110_38, e_111, i_111, Option.some.injEq, exists_eq_left', exists_eq_left, Option.toList_some, Option.toList_none, List.cons_append, List.nil_append, true_and, and_true, Option.map_some, Option.map_none, r_isTown (d := d) (by omega) hT, r_isPerson (d := d) (by omega) hT hW, r_isMatterI (d := d) (by omega) hT hW, r_isSet (d := d) (by omega) hT hW, r_allMatters (d := d) (by omega) hT hW, r_isClosed (d := d) (by omega) hT hW, r_sumOfAll (d := d) (by omega) hT hW, r_restsOf (d := d) (by omega) hT hW, r_in (d := d) (by omega), r_bit (d := d) (by omega), r_bits (d := d) (by omega), h1, show ¬ ((1 : Int32) = 0) by decide, if_true, not_false_eq_true, if_false, e6, e, w_lt, nI_pr (show (wAc W).length < 2 ^ 30 by omega), h2, h3, e7]
end ACTS3
