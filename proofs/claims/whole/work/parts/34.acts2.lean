/-! settle, drink, day, undo, anew, act (own work) -/
section ACTS2
variable {P : Nat → List Value → Option Value} {W : Wd}
theorem frC {s s' : xS} (ho : offA s s') : ∀ q, 110 ≤ q → s'.1 q = s.1 q ∧ s'.2 q = s.2 q := fun q hq => ⟨ho.1 q (by omega) (by omega) (by omega) (by omega) (by omega), by rw [ho.2.2]⟩
theorem frR {s s' : xS} (ho : offB s s') : ∀ q, q < 110 → s'.1 q = s.1 q ∧ s'.2 q = s.2 q := fun q hq => ⟨ho.1 q (by omega) (by omega) (by omega), ho.2.2 q (by omega) (by omega)⟩
theorem offB.mk2 {s s1 s2 : xS} (h1 : offR s s1) (h2 : ∀ q, q ≠ 111 → s2.1 q = s1.1 q) (h3 : s2.2 = s1.2) : offB s s2 := ⟨fun q a b c => (h2 q b).trans (h1.1 q a (by omega) (by omega)), fun k hk => (congrFun (h2 110 (by omega)) k).trans (h1.2.1 k (by omega) (by omega) (by omega)), fun q _ _ => by rw [h3, h1.2.2]⟩
theorem offB.mk3 {s s1 s2 s3 : xS} (h1 : offR s s1) (h2 : ∀ q, q ≠ 111 → s2.1 q = s1.1 q) (h3 : s2.2 = s1.2) (h4 : offR s2 s3) : offB s s3 := by
  obtain ⟨a, b, c⟩ := offB.mk2 h1 h2 h3
  exact ⟨fun q g1 g2 g3 => (h4.1 q g1 (by omega) (by omega)).trans (a q g1 g2 g3), fun k hk => (h4.2.1 k (by omega) (by omega) (by omega)).trans (b k hk), fun q g1 g2 => by rw [h4.2.2]; exact c q g1 g2⟩
/-- the class takes an ACT, if it can be -/
theorem c_take (h : wOk W) (act : Int32) {o : Option As} (ho : (if (wAc W).length < 60 then aTake (wT W) (wA W) act else none) = o) {d : Nat} {xs : List Int32} {s : xS} (hd : 5 ≤ d) (hC : cW s W) :
    ∃ s', x_ev g_M P d 130 [.ref 1, .int act] (mkH xs s) (some (.int (if o.isSome = true then 1 else 0)), mkH xs s') ∧ offA s s' ∧ clsS s' 9 (wT W) (o.getD (wA W)) ∧ acC s' (if o.isSome = true then wAc W ++ [act] else wAc W) := by
  obtain ⟨hK, hl60, hr, hrest⟩ := h; have hW := hK.1; have hO := aOk_run hK _ _ _ (aOk_begin hK) hr; have hAw := hO.1; have w1 := hW.1; have w2 := hW.2.1; have h9 : 9 ∈ g_SP := by decide
  exact s_takeAct hd hC.1.1 hW hC.1.2.1 hAw hC.1.2.2 hl60 act ho
theorem wOk_take (h : wOk W) {act : Int32} {A' : As} (h6 : (wAc W).length < 60) (ht : aTake (wT W) (wA W) act = some A') : wOk (wAct W (wAc W ++ [act]) A') := by
  refine wOk_act h (by rw [List.length_append]; simp; omega) ?_
  rw [aRun_snoc, h.2.2.1]
  exact ht
set_option maxHeartbeats 4000000 in
theorem k_settle (h : wOk W) (x : Int32) : do2 P 127 254 [.int x] W := by
  have h' := h
  obtain ⟨hK, hl60, hr, hrest⟩ := h; have hW := hK.1; have hO := aOk_run hK _ _ _ (aOk_begin hK) hr; have hAw := hO.1; have w1 := hW.1; have w2 := hW.2.1; have h9 : 9 ∈ g_SP := by decide
  rcases has_cs (n := tM (wT W)) (by omega) x with h0 | ⟨m, hm, rfl, h1⟩
  · refine ask2.do h' ⟨-2, cAsk0 ?_, rAsk0 ?_⟩
    · intro d xs s hd hC; obtain ⟨⟨hT, hA, hn, hacts⟩, -⟩ := hC
      obtain ⟨d, rfl⟩ := x_1 (d := d) (by omega)
      rw [x_ev_in rfl (Nat.le_of_ble_eq_true rfl)]
      rw [show x_ent (x_nL g_M 127) [.ref 1, .int x] = [some (.ref 1), some (.int x)] from rfl]
      simp only [w_Top_settle_0, w_Top_settle_4, w_Top_settle_8, w_Top_settle_11, w_Top_settle_14, w_Top_settle_19, w_Top_settle_22, w_Top_settle_26, w_Top_settle_29, w_Top_settle_32, w_Top_settle_34, c_1, f_1_0, f_1_1, p_1_1, f_1_2, f_1_3, f_1_4, f_1_5, f_1_6, p_1_6, f_1_7, f_1_8, f_1_9, f_1_10, f_1_11, f_1_12, f_1_13, f_1_14, c_3, f_3_0, p_3_0, f_3_1, p_3_1, f_3_2, p_3_2, f_3_3, p_3_3, f_3_4, p_3_4, f_3_5, p_3_5, f_3_6, p_3_6, f_3_7, p_3_7, f_3_8, p_3_8, f_3_9, f_3_10, f_3_11, f_3_12, f_3_13, c_9, f_9_0, f_9_1, p_9_1, f_9_2, p_9_2, f_9_3, p_9_3, f_9_4, p_9_4, f_9_5, f_9_6, Option.some.injEq, exists_eq_left', exists_eq_left, Option.toList_some, Option.toList_none, List.cons_append, List.nil_append, true_and, and_true, Option.map_some, Option.map_none, t_isTold (d := d) (by omega) hT, t_hasPerson (d := d) (by omega) hT, t_hasMatter (d := d) (by omega) hT, t_hasSet (d := d) (by omega) hT hW, t_bitOf (d := d) (by omega), t_isClosed (d := d) (by omega) hT hW, t_sumOfAll (d := d) (by omega) hT hW, s_openOnes (d := d) (by omega) h9 hT hW hA, s_wishers (d := d) (by omega) h9 hT hW hA hAw, s_allCups (d := d) (by omega) h9 hT hW hA, h0, not_true_eq_false, if_false]
    · intro d xs s hd hC; obtain ⟨hR, -⟩ := hC; have hT := hR.1
      obtain ⟨d, rfl⟩ := x_1 (d := d) (by omega)
      rw [x_ev_in rfl (Nat.le_of_ble_eq_true rfl)]
      rw [show x_ent (x_nL g_M 254) [.ref 110, .int x] = [some (.ref 110), some (.int x)] from rfl]
      simp only [w_Ref_settle_0, w_Ref_settle_6, w_Ref_settle_9, w_Ref_settle_12, w_Ref_settle_16, w_Ref_settle_21, w_Ref_settle_24, w_Ref_settle_28, w_Ref_settle_31, w_Ref_settle_36, w_Ref_settle_39, w_Ref_settle_44, w_Ref_settle_48, c_110, f_110_0, p_110_0, f_110_1, f_110_2, f_110_3, f_110_4, f_110_5, p_110_5, f_110_6, f_110_7, p_110_7, f_110_8, p_110_8, f_110_9, p_110_9, f_110_10, p_110_10, f_110_11, p_110_11, f_110_12, p_110_12, f_110_13, p_110_13, f_110_14, f_110_15, f_110_16, p_110_16, f_110_17, f_110_18, p_110_18, f_110_19, p_110_19, f_110_20, f_110_21, p_110_21, f_110_22, p_110_22, f_110_23, f_110_24, f_110_25, p_110_25, f_110_26, f_110_27, f_110_28, f_110_29, f_110_30, f_110_31, p_110_31, f_110_32, p_110_32, f_110_33, p_110_33, f_110_34, p_110_34, f_110_35, f_110_36, f_110_37, f_110_38, Option.some.injEq, exists_eq_left', exists_eq_left, Option.toList_some, Option.toList_none, List.cons_append, List.nil_append, true_and, and_true, Option.map_some, Option.map_none, r_isTown (d := d) (by omega) hT, r_isPerson (d := d) (by omega) hT hW, r_isMatterI (d := d) (by omega) hT hW, r_isSet (d := d) (by omega) hT hW, r_allMatters (d := d) (by omega) hT hW, r_isClosed (d := d) (by omega) hT hW, r_sumOfAll (d := d) (by omega) hT hW, r_restsOf (d := d) (by omega) hT hW, r_in (d := d) (by omega), r_bit (d := d) (by omega), r_bits (d := d) (by omega), h0, not_true_eq_false, if_false]
  · have ht := aTake_s (A := wA W) hW hm
    by_cases ho : tOpen (wT W) (msk (wA W).1) m = true
    · rw [if_pos ho] at ht
      by_cases h6 : (wAc W).length < 60
      · refine ⟨wAct W (wAc W ++ [nI m]) (aSettle (wA W) m), nI ((wA W).1.length + 1), wOk_take h' h6 ht, ?_, ?_⟩
        · intro d xs s hd hC
          obtain ⟨d, rfl⟩ := x_1 (d := d) (by omega)
          obtain ⟨s', q1, q2, q3, q4⟩ := c_take (P := P) (xs := xs) (d := d) h' (nI m) (o := some (aSettle (wA W) m)) (by rw [if_pos h6, ht]) (by omega) hC
          refine ⟨s', ?_, cW_act hC q2 q3 q4, frC q2⟩
          obtain ⟨⟨hT, hA, hn, hacts⟩, -⟩ := hC
          have e4 : s'.1 9 4 = nI ((wA W).1.length + 1) := by
            have := q3.2.2.2.1
            rw [this]
            simp [aSettle]
          rw [x_ev_in rfl (Nat.le_of_ble_eq_true rfl)]
          rw [show x_ent (x_nL g_M 127) [.ref 1, .int (nI m)] = [some (.ref 1), some (.int (nI m))] from rfl]
          simp only [w_Top_settle_0, w_Top_settle_4, w_Top_settle_8, w_Top_settle_11, w_Top_settle_14, w_Top_settle_19, w_Top_settle_22, w_Top_settle_26, w_Top_settle_29, w_Top_settle_32, w_Top_settle_34, c_1, f_1_0, f_1_1, p_1_1, f_1_2, f_1_3, f_1_4, f_1_5, f_1_6, p_1_6, f_1_7, f_1_8, f_1_9, f_1_10, f_1_11, f_1_12, f_1_13, f_1_14, c_3, f_3_0, p_3_0, f_3_1, p_3_1, f_3_2, p_3_2, f_3_3, p_3_3, f_3_4, p_3_4, f_3_5, p_3_5, f_3_6, p_3_6, f_3_7, p_3_7, f_3_8, p_3_8, f_3_9, f_3_10, f_3_11, f_3_12, f_3_13, c_9, f_9_0, f_9_1, p_9_1, f_9_2, p_9_2, f_9_3, p_9_3, f_9_4, p_9_4, f_9_5, f_9_6, Option.some.injEq, exists_eq_left', exists_eq_left, Option.toList_some, Option.toList_none, List.cons_append, List.nil_append, true_and, and_true, Option.map_some, Option.map_none, t_isTold (d := d) (by omega) hT, t_hasPerson (d := d) (by omega) hT, t_hasMatter (d := d) (by omega) hT, t_hasSet (d := d) (by omega) hT hW, t_bitOf (d := d) (by omega), t_isClosed (d := d) (by omega) hT hW, t_sumOfAll (d := d) (by omega) hT hW, s_openOnes (d := d) (by omega) h9 hT hW hA, s_wishers (d := d) (by omega) h9 hT hW hA hAw, s_allCups (d := d) (by omega) h9 hT hW hA, h1, show ¬ ((1 : Int32) = 0) by decide, not_false_eq_true, if_true, x_ev_iff q1, Option.isSome_some, if_false, e4]
        · intro d xs s hd hC
          have hC' := hC
          obtain ⟨hR, -⟩ := hC
          have hT := hR.1
          obtain ⟨d, rfl⟩ := x_1 (d := d) (by omega)
          obtain ⟨s1, e1, o1, hA1⟩ := r_asItIs (P := P) (d := d) (xs := xs) (by omega) hR hK hr
          have hT1 := o1.T hT
          have hR1 := refW_at (o1.1 111 (by omega) (by omega) (by omega)) hR
          obtain ⟨s2, z1, z2, z3, z4⟩ := r_keepAct (P := P) (d := d) (xs := xs) (by omega) hW hR1 h6 (nI m)
          have hO2 := offB.mk2 o1 z2 z3
          refine ⟨s2, ?_, rW_act hC' hO2 z4, frR hO2⟩
          have e6 : x_rd (s1.1 111) 135 6 = some (nI (wAc W).length) := by rw [show (6 : Int32) = nI 6 from rfl, x_rd_nI (by omega) (by omega), hR1.2.1]
          have h60 : ¬ nI (wAc W).length = 60 := by
            have := nI_eq (a := (wAc W).length) (b := 60) (by omega) (by omega)
            intro z
            have := this.mp z
            omega
          have e7 : s2.1 110 16 = nI (wA W).1.length := by rw [z2 110 (by omega)]; exact hA1.1
          rw [x_ev_in rfl (Nat.le_of_ble_eq_true rfl)]
          rw [show x_ent (x_nL g_M 254) [.ref 110, .int (nI m)] = [some (.ref 110), some (.int (nI m))] from rfl]
          simp only [w_Ref_settle_0, w_Ref_settle_6, w_Ref_settle_9, w_Ref_settle_12, w_Ref_settle_16, w_Ref_settle_21, w_Ref_settle_24, w_Ref_settle_28, w_Ref_settle_31, w_Ref_settle_36, w_Ref_settle_39, w_Ref_settle_44, w_Ref_settle_48, c_110, f_110_0, p_110_0, f_110_1, f_110_2, f_110_3, f_110_4, f_110_5, p_110_5, f_110_6, f_110_7, p_110_7, f_110_8, p_110_8, f_110_9, p_110_9, f_110_10, p_110_10, f_110_11, p_110_11, f_110_12, p_110_12, f_110_13, p_110_13, f_110_14, f_110_15, f_110_16, p_110_16, f_110_17, f_110_18, p_110_18, f_110_19, p_110_19, f_110_20, f_110_21, p_110_21, f_110_22, p_110_22, f_110_23, f_110_24, f_110_25, p_110_25, f_110_26, f_110_27, f_110_28, f_110_29, f_110_30, f_110_31, p_110_31, f_110_32, p_110_32, f_110_33, p_110_33, f_110_34, p_110_34, f_110_35, f_110_36, f_110_37, f_110_38, e_111, i_111, Option.some.injEq, exists_eq_left', exists_eq_left, Option.toList_some, Option.toList_none, List.cons_append, List.nil_append, true_and, and_true, Option.map_some, Option.map_none, r_isTown (d := d) (by omega) hT, r_isPerson (d := d) (by omega) hT hW, r_isMatterI (d := d) (by omega) hT hW, r_isSet (d := d) (by omega) hT hW, r_allMatters (d := d) (by omega) hT hW, r_isClosed (d := d) (by omega) hT hW, r_sumOfAll (d := d) (by omega) hT hW, r_restsOf (d := d) (by omega) hT hW, r_in (d := d) (by omega), r_bit (d := d) (by omega), r_bits (d := d) (by omega), r_fallIn (d := d) (by omega) hT1 hW hm, r_isOpen (d := d) (by omega) hT1 hW hA1 hAw hm, h1, show ¬ ((1 : Int32) = 0) by decide, not_false_eq_true, if_true, x_ev_iff e1, ho, b01, if_false, e6, h60, x_ev_iff z1, e7, nI_1]
      · have hl : (wAc W).length = 60 := by omega
        refine ⟨wAct W (wAc W) (wA W), -5, wOk_act h' hl60 hr, ?_, ?_⟩
        · intro d xs s hd hC
          obtain ⟨d, rfl⟩ := x_1 (d := d) (by omega)
          obtain ⟨s', q1, q2, q3, q4⟩ := c_take (P := P) (xs := xs) (d := d) h' (nI m) (o := none) (by rw [if_neg h6]) (by omega) hC
          refine ⟨s', ?_, cW_act hC q2 q3 q4, frC q2⟩
          obtain ⟨⟨hT, hA, hn, hacts⟩, -⟩ := hC
          rw [x_ev_in rfl (Nat.le_of_ble_eq_true rfl)]
          rw [show x_ent (x_nL g_M 127) [.ref 1, .int (nI m)] = [some (.ref 1), some (.int (nI m))] from rfl]
          simp only [w_Top_settle_0, w_Top_settle_4, w_Top_settle_8, w_Top_settle_11, w_Top_settle_14, w_Top_settle_19, w_Top_settle_22, w_Top_settle_26, w_Top_settle_29, w_Top_settle_32, w_Top_settle_34, c_1, f_1_0, f_1_1, p_1_1, f_1_2, f_1_3, f_1_4, f_1_5, f_1_6, p_1_6, f_1_7, f_1_8, f_1_9, f_1_10, f_1_11, f_1_12, f_1_13, f_1_14, c_3, f_3_0, p_3_0, f_3_1, p_3_1, f_3_2, p_3_2, f_3_3, p_3_3, f_3_4, p_3_4, f_3_5, p_3_5, f_3_6, p_3_6, f_3_7, p_3_7, f_3_8, p_3_8, f_3_9, f_3_10, f_3_11, f_3_12, f_3_13, c_9, f_9_0, f_9_1, p_9_1, f_9_2, p_9_2, f_9_3, p_9_3, f_9_4, p_9_4, f_9_5, f_9_6, Option.some.injEq, exists_eq_left', exists_eq_left, Option.toList_some, Option.toList_none, List.cons_append, List.nil_append, true_and, and_true, Option.map_some, Option.map_none, t_isTold (d := d) (by omega) hT, t_hasPerson (d := d) (by omega) hT, t_hasMatter (d := d) (by omega) hT, t_hasSet (d := d) (by omega) hT hW, t_bitOf (d := d) (by omega), t_isClosed (d := d) (by omega) hT hW, t_sumOfAll (d := d) (by omega) hT hW, s_openOnes (d := d) (by omega) h9 hT hW hA, s_wishers (d := d) (by omega) h9 hT hW hA hAw, s_allCups (d := d) (by omega) h9 hT hW hA, h1, show ¬ ((1 : Int32) = 0) by decide, not_false_eq_true, if_true, x_ev_iff q1, Option.isSome_none, Bool.false_eq_true, if_false]
        · refine rAsk ?_
          intro d xs s hd hC; obtain ⟨hR, -⟩ := hC; have hT := hR.1; obtain ⟨d, rfl⟩ := x_1 (d := d) (by omega); obtain ⟨s1, e1, o1, hA1⟩ := r_asItIs (P := P) (d := d) (xs := xs) (by omega) hR hK hr; have hT1 := o1.T hT
          have hR1 := refW_at (o1.1 111 (by omega) (by omega) (by omega)) hR
          refine ⟨s1, ?_, o1.ke⟩
          have e6 : x_rd (s1.1 111) 135 6 = some 60 := by rw [show (6 : Int32) = nI 6 from rfl, x_rd_nI (by omega) (by omega), hR1.2.1, hl]; rfl
          rw [x_ev_in rfl (Nat.le_of_ble_eq_true rfl)]
          rw [show x_ent (x_nL g_M 254) [.ref 110, .int (nI m)] = [some (.ref 110), some (.int (nI m))] from rfl]
          simp only [w_Ref_settle_0, w_Ref_settle_6, w_Ref_settle_9, w_Ref_settle_12, w_Ref_settle_16, w_Ref_settle_21, w_Ref_settle_24, w_Ref_settle_28, w_Ref_settle_31, w_Ref_settle_36, w_Ref_settle_39, w_Ref_settle_44, w_Ref_settle_48, c_110, f_110_0, p_110_0, f_110_1, f_110_2, f_110_3, f_110_4, f_110_5, p_110_5, f_110_6, f_110_7, p_110_7, f_110_8, p_110_8, f_110_9, p_110_9, f_110_10, p_110_10, f_110_11, p_110_11, f_110_12, p_110_12, f_110_13, p_110_13, f_110_14, f_110_15, f_110_16, p_110_16, f_110_17, f_110_18, p_110_18, f_110_19, p_110_19, f_110_20, f_110_21, p_110_21, f_110_22, p_110_22, f_110_23, f_110_24, f_110_25, p_110_25, f_110_26, f_110_27, f_110_28, f_110_29, f_110_30, f_110_31, p_110_31, f_110_32, p_110_32, f_110_33, p_110_33, f_110_34, p_110_34, f_110_35, f_110_36, f_110_37, f_110_38, e_111, i_111, Option.some.injEq, exists_eq_left', exists_eq_left, Option.toList_some, Option.toList_none, List.cons_append, List.nil_append, true_and, and_true, Option.map_some, Option.map_none, r_isTown (d := d) (by omega) hT, r_isPerson (d := d) (by omega) hT hW, r_isMatterI (d := d) (by omega) hT hW, r_isSet (d := d) (by omega) hT hW, r_allMatters (d := d) (by omega) hT hW, r_isClosed (d := d) (by omega) hT hW, r_sumOfAll (d := d) (by omega) hT hW, r_restsOf (d := d) (by omega) hT hW, r_in (d := d) (by omega), r_bit (d := d) (by omega), r_bits (d := d) (by omega), r_fallIn (d := d) (by omega) hT1 hW hm, r_isOpen (d := d) (by omega) hT1 hW hA1 hAw hm, h1, show ¬ ((1 : Int32) = 0) by decide, not_false_eq_true, if_true, x_ev_iff e1, ho, b01, if_false, e6, not_true_eq_false]
    · rw [if_neg ho] at ht
      refine ⟨wAct W (wAc W) (wA W), -5, wOk_act h' hl60 hr, ?_, ?_⟩
      · intro d xs s hd hC
        obtain ⟨d, rfl⟩ := x_1 (d := d) (by omega)
        obtain ⟨s', q1, q2, q3, q4⟩ := c_take (P := P) (xs := xs) (d := d) h' (nI m) (o := none) (by rw [ht]; split <;> rfl) (by omega) hC
        refine ⟨s', ?_, cW_act hC q2 q3 q4, frC q2⟩
        obtain ⟨⟨hT, hA, hn, hacts⟩, -⟩ := hC
        rw [x_ev_in rfl (Nat.le_of_ble_eq_true rfl)]
        rw [show x_ent (x_nL g_M 127) [.ref 1, .int (nI m)] = [some (.ref 1), some (.int (nI m))] from rfl]
        simp only [w_Top_settle_0, w_Top_settle_4, w_Top_settle_8, w_Top_settle_11, w_Top_settle_14, w_Top_settle_19, w_Top_settle_22, w_Top_settle_26, w_Top_settle_29, w_Top_settle_32, w_Top_settle_34, c_1, f_1_0, f_1_1, p_1_1, f_1_2, f_1_3, f_1_4, f_1_5, f_1_6, p_1_6, f_1_7, f_1_8, f_1_9, f_1_10, f_1_11, f_1_12, f_1_13, f_1_14, c_3, f_3_0, p_3_0, f_3_1, p_3_1, f_3_2, p_3_2, f_3_3, p_3_3, f_3_4, p_3_4, f_3_5, p_3_5, f_3_6, p_3_6, f_3_7, p_3_7, f_3_8, p_3_8, f_3_9, f_3_10, f_3_11, f_3_12, f_3_13, c_9, f_9_0, f_9_1, p_9_1, f_9_2, p_9_2, f_9_3, p_9_3, f_9_4, p_9_4, f_9_5, f_9_6, Option.some.injEq, exists_eq_left', exists_eq_left, Option.toList_some, Option.toList_none, List.cons_append, List.nil_append, true_and, and_true, Option.map_some, Option.map_none, t_isTold (d := d) (by omega) hT, t_hasPerson (d := d) (by omega) hT, t_hasMatter (d := d) (by omega) hT, t_hasSet (d := d) (by omega) hT hW, t_bitOf (d := d) (by omega), t_isClosed (d := d) (by omega) hT hW, t_sumOfAll (d := d) (by omega) hT hW, s_openOnes (d := d) (by omega) h9 hT hW hA, s_wishers (d := d) (by omega) h9 hT hW hA hAw, s_allCups (d := d) (by omega) h9 hT hW hA, h1, show ¬ ((1 : Int32) = 0) by decide, not_false_eq_true, if_true, x_ev_iff q1, Option.isSome_none, Bool.false_eq_true, if_false]
      · refine rAsk ?_
        intro d xs s hd hC; obtain ⟨hR, -⟩ := hC; have hT := hR.1; obtain ⟨d, rfl⟩ := x_1 (d := d) (by omega); obtain ⟨s1, e1, o1, hA1⟩ := r_asItIs (P := P) (d := d) (xs := xs) (by omega) hR hK hr; have hT1 := o1.T hT
        refine ⟨s1, ?_, o1.ke⟩
        rw [x_ev_in rfl (Nat.le_of_ble_eq_true rfl)]
        rw [show x_ent (x_nL g_M 254) [.ref 110, .int (nI m)] = [some (.ref 110), some (.int (nI m))] from rfl]
        simp only [w_Ref_settle_0, w_Ref_settle_6, w_Ref_settle_9, w_Ref_settle_12, w_Ref_settle_16, w_Ref_settle_21, w_Ref_settle_24, w_Ref_settle_28, w_Ref_settle_31, w_Ref_settle_36, w_Ref_settle_39, w_Ref_settle_44, w_Ref_settle_48, c_110, f_110_0, p_110_0, f_110_1, f_110_2, f_110_3, f_110_4, f_110_5, p_110_5, f_110_6, f_110_7, p_110_7, f_110_8, p_110_8, f_110_9, p_110_9, f_110_10, p_110_10, f_110_11, p_110_11, f_110_12, p_110_12, f_110_13, p_110_13, f_110_14, f_110_15, f_110_16, p_110_16, f_110_17, f_110_18, p_110_18, f_110_19, p_110_19, f_110_20, f_110_21, p_110_21, f_110_22, p_110_22, f_110_23, f_110_24, f_110_25, p_110_25, f_110_26, f_110_27, f_110_28, f_110_29, f_110_30, f_110_31, p_110_31, f_110_32, p_110_32, f_110_33, p_110_33, f_110_34, p_110_34, f_110_35, f_110_36, f_110_37, f_110_38, e_111, i_111, Option.some.injEq, exists_eq_left', exists_eq_left, Option.toList_some, Option.toList_none, List.cons_append, List.nil_append, true_and, and_true, Option.map_some, Option.map_none, r_isTown (d := d) (by omega) hT, r_isPerson (d := d) (by omega) hT hW, r_isMatterI (d := d) (by omega) hT hW, r_isSet (d := d) (by omega) hT hW, r_allMatters (d := d) (by omega) hT hW, r_isClosed (d := d) (by omega) hT hW, r_sumOfAll (d := d) (by omega) hT hW, r_restsOf (d := d) (by omega) hT hW, r_in (d := d) (by omega), r_bit (d := d) (by omega), r_bits (d := d) (by omega), r_fallIn (d := d) (by omega) hT1 hW hm, r_isOpen (d := d) (by omega) hT1 hW hA1 hAw hm, h1, show ¬ ((1 : Int32) = 0) by decide, not_false_eq_true, if_true, x_ev_iff e1, ho, b01, Bool.false_eq_true, if_false]
set_option maxHeartbeats 4000000 in
theorem k_drink (h : wOk W) (x : Int32) : do2 P 128 255 [.int x] W := by
  have h' := h
  obtain ⟨hK, hl60, hr, hrest⟩ := h; have hW := hK.1; have hO := aOk_run hK _ _ _ (aOk_begin hK) hr; have hAw := hO.1; have w1 := hW.1; have w2 := hW.2.1; have h9 : 9 ∈ g_SP := by decide
  rcases has_cs (n := tP (wT W)) (by omega) x with h0 | ⟨p, hp, rfl, h1⟩
  · refine ask2.do h' ⟨-2, cAsk0 ?_, rAsk0 ?_⟩
    · intro d xs s hd hC; obtain ⟨⟨hT, hA, hn, hacts⟩, -⟩ := hC
      obtain ⟨d, rfl⟩ := x_1 (d := d) (by omega)
      rw [x_ev_in rfl (Nat.le_of_ble_eq_true rfl)]
      rw [show x_ent (x_nL g_M 128) [.ref 1, .int x] = [some (.ref 1), some (.int x), none] from rfl]
      simp only [w_Top_drink_0, w_Top_drink_4, w_Top_drink_8, w_Top_drink_11, w_Top_drink_14, w_Top_drink_18, w_Top_drink_21, w_Top_drink_30, w_Top_drink_33, w_Top_drink_38, w_Top_drink_41, w_Top_drink_45, w_Top_drink_47, c_1, f_1_0, f_1_1, p_1_1, f_1_2, f_1_3, f_1_4, f_1_5, f_1_6, p_1_6, f_1_7, f_1_8, f_1_9, f_1_10, f_1_11, f_1_12, f_1_13, f_1_14, c_3, f_3_0, p_3_0, f_3_1, p_3_1, f_3_2, p_3_2, f_3_3, p_3_3, f_3_4, p_3_4, f_3_5, p_3_5, f_3_6, p_3_6, f_3_7, p_3_7, f_3_8, p_3_8, f_3_9, f_3_10, f_3_11, f_3_12, f_3_13, c_9, f_9_0, f_9_1, p_9_1, f_9_2, p_9_2, f_9_3, p_9_3, f_9_4, p_9_4, f_9_5, f_9_6, Option.some.injEq, exists_eq_left', exists_eq_left, Option.toList_some, Option.toList_none, List.cons_append, List.nil_append, true_and, and_true, Option.map_some, Option.map_none, t_isTold (d := d) (by omega) hT, t_hasPerson (d := d) (by omega) hT, t_hasMatter (d := d) (by omega) hT, t_hasSet (d := d) (by omega) hT hW, t_bitOf (d := d) (by omega), t_isClosed (d := d) (by omega) hT hW, t_sumOfAll (d := d) (by omega) hT hW, s_openOnes (d := d) (by omega) h9 hT hW hA, s_wishers (d := d) (by omega) h9 hT hW hA hAw, s_allCups (d := d) (by omega) h9 hT hW hA, h0, not_true_eq_false, if_false]
    · intro d xs s hd hC; obtain ⟨hR, -⟩ := hC; have hT := hR.1
      obtain ⟨d, rfl⟩ := x_1 (d := d) (by omega)
      rw [x_ev_in rfl (Nat.le_of_ble_eq_true rfl)]
      rw [show x_ent (x_nL g_M 255) [.ref 110, .int x] = [some (.ref 110), some (.int x)] from rfl]
      simp only [w_Ref_drink_0, w_Ref_drink_5, w_Ref_drink_8, w_Ref_drink_11, w_Ref_drink_15, w_Ref_drink_20, w_Ref_drink_23, w_Ref_drink_27, w_Ref_drink_30, w_Ref_drink_35, w_Ref_drink_38, w_Ref_drink_46, w_Ref_drink_51, c_110, f_110_0, p_110_0, f_110_1, f_110_2, f_110_3, f_110_4, f_110_5, p_110_5, f_110_6, f_110_7, p_110_7, f_110_8, p_110_8, f_110_9, p_110_9, f_110_10, p_110_10, f_110_11, p_110_11, f_110_12, p_110_12, f_110_13, p_110_13, f_110_14, f_110_15, f_110_16, p_110_16, f_110_17, f_110_18, p_110_18, f_110_19, p_110_19, f_110_20, f_110_21, p_110_21, f_110_22, p_110_22, f_110_23, f_110_24, f_110_25, p_110_25, f_110_26, f_110_27, f_110_28, f_110_29, f_110_30, f_110_31, p_110_31, f_110_32, p_110_32, f_110_33, p_110_33, f_110_34, p_110_34, f_110_35, f_110_36, f_110_37, f_110_38, Option.some.injEq, exists_eq_left', exists_eq_left, Option.toList_some, Option.toList_none, List.cons_append, List.nil_append, true_and, and_true, Option.map_some, Option.map_none, r_isTown (d := d) (by omega) hT, r_isPerson (d := d) (by omega) hT hW, r_isMatterI (d := d) (by omega) hT hW, r_isSet (d := d) (by omega) hT hW, r_allMatters (d := d) (by omega) hT hW, r_isClosed (d := d) (by omega) hT hW, r_sumOfAll (d := d) (by omega) hT hW, r_restsOf (d := d) (by omega) hT hW, r_in (d := d) (by omega), r_bit (d := d) (by omega), r_bits (d := d) (by omega), h0, not_true_eq_false, if_false]
  · have ht := aTake_d (A := wA W) hW hp
    by_cases ho : aWhy (wT W) (wA W) p = 0
    · rw [if_pos ho] at ht
      obtain ⟨m, hlm⟩ := aWhy_last ho
      have hm : m < tM (wT W) := hAw.1 m (lastN_in (Nat.le_refl _) hlm).1
      rw [hlm, Option.getD_some] at ht
      by_cases h6 : (wAc W).length < 60
      · refine ⟨wAct W (wAc W ++ [10 + nI p]) (aDrink (wT W) (wA W) p m), fellN (wT W) (wA W) m, wOk_take h' h6 ht, ?_, ?_⟩
        · intro d xs s hd hC
          obtain ⟨d, rfl⟩ := x_1 (d := d) (by omega)
          obtain ⟨s', q1, q2, q3, q4⟩ := c_take (P := P) (xs := xs) (d := d) h' (10 + nI p) (o := some (aDrink (wT W) (wA W) p m)) (by rw [if_pos h6, ht]) (by omega) hC
          refine ⟨s', ?_, cW_act hC q2 q3 q4, frC q2⟩
          obtain ⟨⟨hT, hA, hn, hacts⟩, -⟩ := hC
          have e0 : s.1 9 4 = nI (wA W).1.length := hA.2.2.2.1
          have e4 : s'.1 9 4 = nI (aDrink (wT W) (wA W) p m).1.length := q3.2.2.2.1
          rw [x_ev_in rfl (Nat.le_of_ble_eq_true rfl)]
          rw [show x_ent (x_nL g_M 128) [.ref 1, .int (nI p)] = [some (.ref 1), some (.int (nI p)), none] from rfl]
          simp only [w_Top_drink_0, w_Top_drink_4, w_Top_drink_8, w_Top_drink_11, w_Top_drink_14, w_Top_drink_18, w_Top_drink_21, w_Top_drink_30, w_Top_drink_33, w_Top_drink_38, w_Top_drink_41, w_Top_drink_45, w_Top_drink_47, c_1, f_1_0, f_1_1, p_1_1, f_1_2, f_1_3, f_1_4, f_1_5, f_1_6, p_1_6, f_1_7, f_1_8, f_1_9, f_1_10, f_1_11, f_1_12, f_1_13, f_1_14, c_3, f_3_0, p_3_0, f_3_1, p_3_1, f_3_2, p_3_2, f_3_3, p_3_3, f_3_4, p_3_4, f_3_5, p_3_5, f_3_6, p_3_6, f_3_7, p_3_7, f_3_8, p_3_8, f_3_9, f_3_10, f_3_11, f_3_12, f_3_13, c_9, f_9_0, f_9_1, p_9_1, f_9_2, p_9_2, f_9_3, p_9_3, f_9_4, p_9_4, f_9_5, f_9_6, Option.some.injEq, exists_eq_left', exists_eq_left, Option.toList_some, Option.toList_none, List.cons_append, List.nil_append, true_and, and_true, Option.map_some, Option.map_none, t_isTold (d := d) (by omega) hT, t_hasPerson (d := d) (by omega) hT, t_hasMatter (d := d) (by omega) hT, t_hasSet (d := d) (by omega) hT hW, t_bitOf (d := d) (by omega), t_isClosed (d := d) (by omega) hT hW, t_sumOfAll (d := d) (by omega) hT hW, s_openOnes (d := d) (by omega) h9 hT hW hA, s_wishers (d := d) (by omega) h9 hT hW hA hAw, s_allCups (d := d) (by omega) h9 hT hW hA, h1, show ¬ ((1 : Int32) = 0) by decide, not_false_eq_true, if_true, x_ev_iff q1, Option.isSome_some, if_false, e0, e4, fellN_eq hW hAw hm]
        · intro d xs s hd hC
          have hC' := hC
          obtain ⟨hR, -⟩ := hC
          have hT := hR.1
          obtain ⟨d, rfl⟩ := x_1 (d := d) (by omega)
          obtain ⟨s1, e1, o1, hA1⟩ := r_asItIs (P := P) (d := d) (xs := xs) (by omega) hR hK hr
          have hT1 := o1.T hT
          have hR1 := refW_at (o1.1 111 (by omega) (by omega) (by omega)) hR
          obtain ⟨s2, z1, z2, z3, z4⟩ := r_keepAct (P := P) (d := d) (xs := xs) (by omega) hW hR1 h6 (10 + nI p)
          have hA2 : refS s2 (wT W) (wA W) := offR.S (z2 110 (by omega)) (z2 117 (by omega)) (z2 118 (by omega)) hA1
          obtain ⟨s3, y1, y2, y3⟩ := r_drink0 (P := P) (d := d) (xs := xs) (by omega) z4.1 hW hA2 hAw hp hlm
          have hO2 := offB.mk3 o1 z2 z3 y2
          refine ⟨s3, ?_, rW_act hC' hO2 (refW_at (y2.1 111 (by omega) (by omega) (by omega)) z4), frR hO2⟩
          have e6 : x_rd (s1.1 111) 135 6 = some (nI (wAc W).length) := by rw [show (6 : Int32) = nI 6 from rfl, x_rd_nI (by omega) (by omega), hR1.2.1]
          have h60 : ¬ nI (wAc W).length = 60 := by
            have := nI_eq (a := (wAc W).length) (b := 60) (by omega) (by omega)
            intro z
            have := this.mp z
            omega
          rw [x_ev_in rfl (Nat.le_of_ble_eq_true rfl)]
          rw [show x_ent (x_nL g_M 255) [.ref 110, .int (nI p)] = [some (.ref 110), some (.int (nI p))] from rfl]
          simp only [w_Ref_drink_0, w_Ref_drink_5, w_Ref_drink_8, w_Ref_drink_11, w_Ref_drink_15, w_Ref_drink_20, w_Ref_drink_23, w_Ref_drink_27, w_Ref_drink_30, w_Ref_drink_35, w_Ref_drink_38, w_Ref_drink_46, w_Ref_drink_51, c_110, f_110_0, p_110_0, f_110_1, f_110_2, f_110_3, f_110_4, f_110_5, p_110_5, f_110_6, f_110_7, p_110_7, f_110_8, p_110_8, f_110_9, p_110_9, f_110_10, p_110_10, f_110_11, p_110_11, f_110_12, p_110_12, f_110_13, p_110_13, f_110_14, f_110_15, f_110_16, p_110_16, f_110_17, f_110_18, p_110_18, f_110_19, p_110_19, f_110_20, f_110_21, p_110_21, f_110_22, p_110_22, f_110_23, f_110_24, f_110_25, p_110_25, f_110_26, f_110_27, f_110_28, f_110_29, f_110_30, f_110_31, p_110_31, f_110_32, p_110_32, f_110_33, p_110_33, f_110_34, p_110_34, f_110_35, f_110_36, f_110_37, f_110_38, e_111, i_111, Option.some.injEq, exists_eq_left', exists_eq_left, Option.toList_some, Option.toList_none, List.cons_append, List.nil_append, true_and, and_true, Option.map_some, Option.map_none, r_isTown (d := d) (by omega) hT, r_isPerson (d := d) (by omega) hT hW, r_isMatterI (d := d) (by omega) hT hW, r_isSet (d := d) (by omega) hT hW, r_allMatters (d := d) (by omega) hT hW, r_isClosed (d := d) (by omega) hT hW, r_sumOfAll (d := d) (by omega) hT hW, r_restsOf (d := d) (by omega) hT hW, r_in (d := d) (by omega), r_bit (d := d) (by omega), r_bits (d := d) (by omega), r_lastOf (d := d) (by omega) hT1 hW hA1 hAw hp, r_whyNot (d := d) (by omega) hT1 hW hA1 hO hp, r_wishes (d := d) (by omega) hT1 hW hA1 hO hp, r_sumOf (d := d) (by omega) hT1 hW hp, r_swingOf (d := d) (by omega) hT1 hW hp, r_isStubborn (d := d) (by omega) hT1 hW hp, h1, show ¬ ((1 : Int32) = 0) by decide, not_false_eq_true, if_true, x_ev_iff e1, ho, not_true_eq_false, if_false, e6, h60, x_ev_iff z1, x_ev_iff y1]
      · have hl : (wAc W).length = 60 := by omega
        refine ⟨wAct W (wAc W) (wA W), -5, wOk_act h' hl60 hr, ?_, ?_⟩
        · intro d xs s hd hC
          obtain ⟨d, rfl⟩ := x_1 (d := d) (by omega)
          obtain ⟨s', q1, q2, q3, q4⟩ := c_take (P := P) (xs := xs) (d := d) h' (10 + nI p) (o := none) (by rw [if_neg h6]) (by omega) hC
          refine ⟨s', ?_, cW_act hC q2 q3 q4, frC q2⟩
          obtain ⟨⟨hT, hA, hn, hacts⟩, -⟩ := hC
          rw [x_ev_in rfl (Nat.le_of_ble_eq_true rfl)]
          rw [show x_ent (x_nL g_M 128) [.ref 1, .int (nI p)] = [some (.ref 1), some (.int (nI p)), none] from rfl]
          simp only [w_Top_drink_0, w_Top_drink_4, w_Top_drink_8, w_Top_drink_11, w_Top_drink_14, w_Top_drink_18, w_Top_drink_21, w_Top_drink_30, w_Top_drink_33, w_Top_drink_38, w_Top_drink_41, w_Top_drink_45, w_Top_drink_47, c_1, f_1_0, f_1_1, p_1_1, f_1_2, f_1_3, f_1_4, f_1_5, f_1_6, p_1_6, f_1_7, f_1_8, f_1_9, f_1_10, f_1_11, f_1_12, f_1_13, f_1_14, c_3, f_3_0, p_3_0, f_3_1, p_3_1, f_3_2, p_3_2, f_3_3, p_3_3, f_3_4, p_3_4, f_3_5, p_3_5, f_3_6, p_3_6, f_3_7, p_3_7, f_3_8, p_3_8, f_3_9, f_3_10, f_3_11, f_3_12, f_3_13, c_9, f_9_0, f_9_1, p_9_1, f_9_2, p_9_2, f_9_3, p_9_3, f_9_4, p_9_4, f_9_5, f_9_6, Option.some.injEq, exists_eq_left', exists_eq_left, Option.toList_some, Option.toList_none, List.cons_append, List.nil_append, true_and, and_true, Option.map_some, Option.map_none, t_isTold (d := d) (by omega) hT, t_hasPerson (d := d) (by omega) hT, t_hasMatter (d := d) (by omega) hT, t_hasSet (d := d) (by omega) hT hW, t_bitOf (d := d) (by omega), t_isClosed (d := d) (by omega) hT hW, t_sumOfAll (d := d) (by omega) hT hW, s_openOnes (d := d) (by omega) h9 hT hW hA, s_wishers (d := d) (by omega) h9 hT hW hA hAw, s_allCups (d := d) (by omega) h9 hT hW hA, h1, show ¬ ((1 : Int32) = 0) by decide, not_false_eq_true, if_true, x_ev_iff q1, Option.isSome_none, Bool.false_eq_true, if_false]
        · refine rAsk ?_
          intro d xs s hd hC; obtain ⟨hR, -⟩ := hC; have hT := hR.1; obtain ⟨d, rfl⟩ := x_1 (d := d) (by omega); obtain ⟨s1, e1, o1, hA1⟩ := r_asItIs (P := P) (d := d) (xs := xs) (by omega) hR hK hr; have hT1 := o1.T hT
          have hR1 := refW_at (o1.1 111 (by omega) (by omega) (by omega)) hR
          refine ⟨s1, ?_, o1.ke⟩
          have e6 : x_rd (s1.1 111) 135 6 = some 60 := by rw [show (6 : Int32) = nI 6 from rfl, x_rd_nI (by omega) (by omega), hR1.2.1, hl]; rfl
          rw [x_ev_in rfl (Nat.le_of_ble_eq_true rfl)]
          rw [show x_ent (x_nL g_M 255) [.ref 110, .int (nI p)] = [some (.ref 110), some (.int (nI p))] from rfl]
          simp only [w_Ref_drink_0, w_Ref_drink_5, w_Ref_drink_8, w_Ref_drink_11, w_Ref_drink_15, w_Ref_drink_20, w_Ref_drink_23, w_Ref_drink_27, w_Ref_drink_30, w_Ref_drink_35, w_Ref_drink_38, w_Ref_drink_46, w_Ref_drink_51, c_110, f_110_0, p_110_0, f_110_1, f_110_2, f_110_3, f_110_4, f_110_5, p_110_5, f_110_6, f_110_7, p_110_7, f_110_8, p_110_8, f_110_9, p_110_9, f_110_10, p_110_10, f_110_11, p_110_11, f_110_12, p_110_12, f_110_13, p_110_13, f_110_14, f_110_15, f_110_16, p_110_16, f_110_17, f_110_18, p_110_18, f_110_19, p_110_19, f_110_20, f_110_21, p_110_21, f_110_22, p_110_22, f_110_23, f_110_24, f_110_25, p_110_25, f_110_26, f_110_27, f_110_28, f_110_29, f_110_30, f_110_31, p_110_31, f_110_32, p_110_32, f_110_33, p_110_33, f_110_34, p_110_34, f_110_35, f_110_36, f_110_37, f_110_38, e_111, i_111, Option.some.injEq, exists_eq_left', exists_eq_left, Option.toList_some, Option.toList_none, List.cons_append, List.nil_append, true_and, and_true, Option.map_some, Option.map_none, r_isTown (d := d) (by omega) hT, r_isPerson (d := d) (by omega) hT hW, r_isMatterI (d := d) (by omega) hT hW, r_isSet (d := d) (by omega) hT hW, r_allMatters (d := d) (by omega) hT hW, r_isClosed (d := d) (by omega) hT hW, r_sumOfAll (d := d) (by omega) hT hW, r_restsOf (d := d) (by omega) hT hW, r_in (d := d) (by omega), r_bit (d := d) (by omega), r_bits (d := d) (by omega), r_lastOf (d := d) (by omega) hT1 hW hA1 hAw hp, r_whyNot (d := d) (by omega) hT1 hW hA1 hO hp, r_wishes (d := d) (by omega) hT1 hW hA1 hO hp, r_sumOf (d := d) (by omega) hT1 hW hp, r_swingOf (d := d) (by omega) hT1 hW hp, r_isStubborn (d := d) (by omega) hT1 hW hp, h1, show ¬ ((1 : Int32) = 0) by decide, not_false_eq_true, if_true, x_ev_iff e1, ho, if_false, e6, not_true_eq_false]
    · rw [if_neg ho] at ht
      refine ⟨wAct W (wAc W) (wA W), -5, wOk_act h' hl60 hr, ?_, ?_⟩
      · intro d xs s hd hC
        obtain ⟨d, rfl⟩ := x_1 (d := d) (by omega)
        obtain ⟨s', q1, q2, q3, q4⟩ := c_take (P := P) (xs := xs) (d := d) h' (10 + nI p) (o := none) (by rw [ht]; split <;> rfl) (by omega) hC
        refine ⟨s', ?_, cW_act hC q2 q3 q4, frC q2⟩
        obtain ⟨⟨hT, hA, hn, hacts⟩, -⟩ := hC
        rw [x_ev_in rfl (Nat.le_of_ble_eq_true rfl)]
        rw [show x_ent (x_nL g_M 128) [.ref 1, .int (nI p)] = [some (.ref 1), some (.int (nI p)), none] from rfl]
        simp only [w_Top_drink_0, w_Top_drink_4, w_Top_drink_8, w_Top_drink_11, w_Top_drink_14, w_Top_drink_18, w_Top_drink_21, w_Top_drink_30, w_Top_drink_33, w_Top_drink_38, w_Top_drink_41, w_Top_drink_45, w_Top_drink_47, c_1, f_1_0, f_1_1, p_1_1, f_1_2, f_1_3, f_1_4, f_1_5, f_1_6, p_1_6, f_1_7, f_1_8, f_1_9, f_1_10, f_1_11, f_1_12, f_1_13, f_1_14, c_3, f_3_0, p_3_0, f_3_1, p_3_1, f_3_2, p_3_2, f_3_3, p_3_3, f_3_4, p_3_4, f_3_5, p_3_5, f_3_6, p_3_6, f_3_7, p_3_7, f_3_8, p_3_8, f_3_9, f_3_10, f_3_11, f_3_12, f_3_13, c_9, f_9_0, f_9_1, p_9_1, f_9_2, p_9_2, f_9_3, p_9_3, f_9_4, p_9_4, f_9_5, f_9_6, Option.some.injEq, exists_eq_left', exists_eq_left, Option.toList_some, Option.toList_none, List.cons_append, List.nil_append, true_and, and_true, Option.map_some, Option.map_none, t_isTold (d := d) (by omega) hT, t_hasPerson (d := d) (by omega) hT, t_hasMatter (d := d) (by omega) hT, t_hasSet (d := d) (by omega) hT hW, t_bitOf (d := d) (by omega), t_isClosed (d := d) (by omega) hT hW, t_sumOfAll (d := d) (by omega) hT hW, s_openOnes (d := d) (by omega) h9 hT hW hA, s_wishers (d := d) (by omega) h9 hT hW hA hAw, s_allCups (d := d) (by omega) h9 hT hW hA, h1, show ¬ ((1 : Int32) = 0) by decide, not_false_eq_true, if_true, x_ev_iff q1, Option.isSome_none, Bool.false_eq_true, if_false]
      · refine rAsk ?_
        intro d xs s hd hC; obtain ⟨hR, -⟩ := hC; have hT := hR.1; obtain ⟨d, rfl⟩ := x_1 (d := d) (by omega); obtain ⟨s1, e1, o1, hA1⟩ := r_asItIs (P := P) (d := d) (xs := xs) (by omega) hR hK hr; have hT1 := o1.T hT
        refine ⟨s1, ?_, o1.ke⟩
        rw [x_ev_in rfl (Nat.le_of_ble_eq_true rfl)]
        rw [show x_ent (x_nL g_M 255) [.ref 110, .int (nI p)] = [some (.ref 110), some (.int (nI p))] from rfl]
        simp only [w_Ref_drink_0, w_Ref_drink_5, w_Ref_drink_8, w_Ref_drink_11, w_Ref_drink_15, w_Ref_drink_20, w_Ref_drink_23, w_Ref_drink_27, w_Ref_drink_30, w_Ref_drink_35, w_Ref_drink_38, w_Ref_drink_46, w_Ref_drink_51, c_110, f_110_0, p_110_0, f_110_1, f_110_2, f_110_3, f_110_4, f_110_5, p_110_5, f_110_6, f_110_7, p_110_7, f_110_8, p_110_8, f_110_9, p_110_9, f_110_10, p_110_10, f_110_11, p_110_11, f_110_12, p_110_12, f_110_13, p_110_13, f_110_14, f_110_15, f_110_16, p_110_16, f_110_17, f_110_18, p_110_18, f_110_19, p_110_19, f_110_20, f_110_21, p_110_21, f_110_22, p_110_22, f_110_23, f_110_24, f_110_25, p_110_25, f_110_26, f_110_27, f_110_28, f_110_29, f_110_30, f_110_31, p_110_31, f_110_32, p_110_32, f_110_33, p_110_33, f_110_34, p_110_34, f_110_35, f_110_36, f_110_37, f_110_38, e_111, i_111, Option.some.injEq, exists_eq_left', exists_eq_left, Option.toList_some, Option.toList_none, List.cons_append, List.nil_append, true_and, and_true, Option.map_some, Option.map_none, r_isTown (d := d) (by omega) hT, r_isPerson (d := d) (by omega) hT hW, r_isMatterI (d := d) (by omega) hT hW, r_isSet (d := d) (by omega) hT hW, r_allMatters (d := d) (by omega) hT hW, r_isClosed (d := d) (by omega) hT hW, r_sumOfAll (d := d) (by omega) hT hW, r_restsOf (d := d) (by omega) hT hW, r_in (d := d) (by omega), r_bit (d := d) (by omega), r_bits (d := d) (by omega), r_lastOf (d := d) (by omega) hT1 hW hA1 hAw hp, r_whyNot (d := d) (by omega) hT1 hW hA1 hO hp, r_wishes (d := d) (by omega) hT1 hW hA1 hO hp, r_sumOf (d := d) (by omega) hT1 hW hp, r_swingOf (d := d) (by omega) hT1 hW hp, r_isStubborn (d := d) (by omega) hT1 hW hp, h1, show ¬ ((1 : Int32) = 0) by decide, not_false_eq_true, if_true, x_ev_iff e1, ho]
set_option maxHeartbeats 4000000 in
theorem k_day (h : wOk W) : do2 P 129 256 [] W := by
  have h' := h
  obtain ⟨hK, hl60, hr, hrest⟩ := h; have hW := hK.1; have hO := aOk_run hK _ _ _ (aOk_begin hK) hr; have hAw := hO.1; have w1 := hW.1; have w2 := hW.2.1; have h9 : 9 ∈ g_SP := by decide
  by_cases h1 : tLi (wT W) ≤ 0
  · refine ask2.do h' ⟨-2, cAsk0 ?_, rAsk0 ?_⟩
    · intro d xs s hd hC; obtain ⟨⟨hT, hA, hn, hacts⟩, -⟩ := hC
      obtain ⟨d, rfl⟩ := x_1 (d := d) (by omega)
      rw [x_ev_in rfl (Nat.le_of_ble_eq_true rfl)]
      rw [show x_ent (x_nL g_M 129) [.ref 1] = [some (.ref 1)] from rfl]
      simp only [w_Top_day_0, w_Top_day_4, w_Top_day_7, w_Top_day_10, w_Top_day_13, w_Top_day_19, w_Top_day_22, w_Top_day_26, w_Top_day_29, w_Top_day_32, w_Top_day_34, c_1, f_1_0, f_1_1, p_1_1, f_1_2, f_1_3, f_1_4, f_1_5, f_1_6, p_1_6, f_1_7, f_1_8, f_1_9, f_1_10, f_1_11, f_1_12, f_1_13, f_1_14, c_3, f_3_0, p_3_0, f_3_1, p_3_1, f_3_2, p_3_2, f_3_3, p_3_3, f_3_4, p_3_4, f_3_5, p_3_5, f_3_6, p_3_6, f_3_7, p_3_7, f_3_8, p_3_8, f_3_9, f_3_10, f_3_11, f_3_12, f_3_13, c_9, f_9_0, f_9_1, p_9_1, f_9_2, p_9_2, f_9_3, p_9_3, f_9_4, p_9_4, f_9_5, f_9_6, Option.some.injEq, exists_eq_left', exists_eq_left, Option.toList_some, Option.toList_none, List.cons_append, List.nil_append, true_and, and_true, Option.map_some, Option.map_none, t_isTold (d := d) (by omega) hT, t_hasPerson (d := d) (by omega) hT, t_hasMatter (d := d) (by omega) hT, t_hasSet (d := d) (by omega) hT hW, t_bitOf (d := d) (by omega), t_isClosed (d := d) (by omega) hT hW, t_sumOfAll (d := d) (by omega) hT hW, s_openOnes (d := d) (by omega) h9 hT hW hA, s_wishers (d := d) (by omega) h9 hT hW hA hAw, s_allCups (d := d) (by omega) h9 hT hW hA, h1, if_true, not_true_eq_false, if_false]
    · intro d xs s hd hC; obtain ⟨hR, -⟩ := hC; have hT := hR.1
      obtain ⟨d, rfl⟩ := x_1 (d := d) (by omega)
      rw [x_ev_in rfl (Nat.le_of_ble_eq_true rfl)]
      rw [show x_ent (x_nL g_M 256) [.ref 110] = [some (.ref 110)] from rfl]
      simp only [w_Ref_day_0, w_Ref_day_4, w_Ref_day_7, w_Ref_day_10, w_Ref_day_14, w_Ref_day_18, w_Ref_day_21, w_Ref_day_26, w_Ref_day_29, w_Ref_day_35, w_Ref_day_39, w_Ref_day_43, c_110, f_110_0, p_110_0, f_110_1, f_110_2, f_110_3, f_110_4, f_110_5, p_110_5, f_110_6, f_110_7, p_110_7, f_110_8, p_110_8, f_110_9, p_110_9, f_110_10, p_110_10, f_110_11, p_110_11, f_110_12, p_110_12, f_110_13, p_110_13, f_110_14, f_110_15, f_110_16, p_110_16, f_110_17, f_110_18, p_110_18, f_110_19, p_110_19, f_110_20, f_110_21, p_110_21, f_110_22, p_110_22, f_110_23, f_110_24, f_110_25, p_110_25, f_110_26, f_110_27, f_110_28, f_110_29, f_110_30, f_110_31, p_110_31, f_110_32, p_110_32, f_110_33, p_110_33, f_110_34, p_110_34, f_110_35, f_110_36, f_110_37, f_110_38, Option.some.injEq, exists_eq_left', exists_eq_left, Option.toList_some, Option.toList_none, List.cons_append, List.nil_append, true_and, and_true, Option.map_some, Option.map_none, r_isTown (d := d) (by omega) hT, r_isPerson (d := d) (by omega) hT hW, r_isMatterI (d := d) (by omega) hT hW, r_isSet (d := d) (by omega) hT hW, r_allMatters (d := d) (by omega) hT hW, r_isClosed (d := d) (by omega) hT hW, r_sumOfAll (d := d) (by omega) hT hW, r_restsOf (d := d) (by omega) hT hW, r_in (d := d) (by omega), r_bit (d := d) (by omega), r_bits (d := d) (by omega), h1, if_true, not_true_eq_false, if_false]
  · have ht := aTake_y (A := wA W) hW
    by_cases h6 : (wAc W).length < 60
    · refine ⟨wAct W (wAc W ++ [20]) (aDay (wT W) (wA W)), (aDay (wT W) (wA W)).2.2.1, wOk_take h' h6 ht, ?_, ?_⟩
      · intro d xs s hd hC
        obtain ⟨d, rfl⟩ := x_1 (d := d) (by omega)
        obtain ⟨s', q1, q2, q3, q4⟩ := c_take (P := P) (xs := xs) (d := d) h' 20 (o := some (aDay (wT W) (wA W))) (by rw [if_pos h6, ht]) (by omega) hC
        refine ⟨s', ?_, cW_act hC q2 q3 q4, frC q2⟩
        obtain ⟨⟨hT, hA, hn, hacts⟩, -⟩ := hC
        have e4 : s'.1 9 3 = (aDay (wT W) (wA W)).2.2.1 := q3.2.2.1
        rw [x_ev_in rfl (Nat.le_of_ble_eq_true rfl)]
        rw [show x_ent (x_nL g_M 129) [.ref 1] = [some (.ref 1)] from rfl]
        simp only [w_Top_day_0, w_Top_day_4, w_Top_day_7, w_Top_day_10, w_Top_day_13, w_Top_day_19, w_Top_day_22, w_Top_day_26, w_Top_day_29, w_Top_day_32, w_Top_day_34, c_1, f_1_0, f_1_1, p_1_1, f_1_2, f_1_3, f_1_4, f_1_5, f_1_6, p_1_6, f_1_7, f_1_8, f_1_9, f_1_10, f_1_11, f_1_12, f_1_13, f_1_14, c_3, f_3_0, p_3_0, f_3_1, p_3_1, f_3_2, p_3_2, f_3_3, p_3_3, f_3_4, p_3_4, f_3_5, p_3_5, f_3_6, p_3_6, f_3_7, p_3_7, f_3_8, p_3_8, f_3_9, f_3_10, f_3_11, f_3_12, f_3_13, c_9, f_9_0, f_9_1, p_9_1, f_9_2, p_9_2, f_9_3, p_9_3, f_9_4, p_9_4, f_9_5, f_9_6, Option.some.injEq, exists_eq_left', exists_eq_left, Option.toList_some, Option.toList_none, List.cons_append, List.nil_append, true_and, and_true, Option.map_some, Option.map_none, t_isTold (d := d) (by omega) hT, t_hasPerson (d := d) (by omega) hT, t_hasMatter (d := d) (by omega) hT, t_hasSet (d := d) (by omega) hT hW, t_bitOf (d := d) (by omega), t_isClosed (d := d) (by omega) hT hW, t_sumOfAll (d := d) (by omega) hT hW, s_openOnes (d := d) (by omega) h9 hT hW hA, s_wishers (d := d) (by omega) h9 hT hW hA hAw, s_allCups (d := d) (by omega) h9 hT hW hA, h1, show ¬ ((1 : Int32) = 0) by decide, not_false_eq_true, if_true, x_ev_iff q1, Option.isSome_some, if_false, e4]
      · intro d xs s hd hC
        have hC' := hC
        obtain ⟨hR, -⟩ := hC
        have hT := hR.1
        obtain ⟨d, rfl⟩ := x_1 (d := d) (by omega)
        obtain ⟨s1, e1, o1, hA1⟩ := r_asItIs (P := P) (d := d) (xs := xs) (by omega) hR hK hr
        have hT1 := o1.T hT
        have hR1 := refW_at (o1.1 111 (by omega) (by omega) (by omega)) hR
        obtain ⟨s2, z1, z2, z3, z4⟩ := r_keepAct (P := P) (d := d) (xs := xs) (by omega) hW hR1 h6 20
        have hA2 : refS s2 (wT W) (wA W) := offR.S (z2 110 (by omega)) (z2 117 (by omega)) (z2 118 (by omega)) hA1
        obtain ⟨s3, y1, y2, y3⟩ := r_day0 (P := P) (d := d) (xs := xs) (by omega) z4.1 hA2
        have hO2 := offB.mk3 o1 z2 z3 y2
        refine ⟨s3, ?_, rW_act hC' hO2 (refW_at (y2.1 111 (by omega) (by omega) (by omega)) z4), frR hO2⟩
        have e6 : x_rd (s1.1 111) 135 6 = some (nI (wAc W).length) := by rw [show (6 : Int32) = nI 6 from rfl, x_rd_nI (by omega) (by omega), hR1.2.1]
        have h60 : ¬ nI (wAc W).length = 60 := by
          have := nI_eq (a := (wAc W).length) (b := 60) (by omega) (by omega)
          intro z
          have := this.mp z
          omega
        have e4 := y3.2.2.2.1
        rw [x_ev_in rfl (Nat.le_of_ble_eq_true rfl)]
        rw [show x_ent (x_nL g_M 256) [.ref 110] = [some (.ref 110)] from rfl]
        simp only [w_Ref_day_0, w_Ref_day_4, w_Ref_day_7, w_Ref_day_10, w_Ref_day_14, w_Ref_day_18, w_Ref_day_21, w_Ref_day_26, w_Ref_day_29, w_Ref_day_35, w_Ref_day_39, w_Ref_day_43, c_110, f_110_0, p_110_0, f_110_1, f_110_2, f_110_3, f_110_4, f_110_5, p_110_5, f_110_6, f_110_7, p_110_7, f_110_8, p_110_8, f_110_9, p_110_9, f_110_10, p_110_10, f_110_11, p_110_11, f_110_12, p_110_12, f_110_13, p_110_13, f_110_14, f_110_15, f_110_16, p_110_16, f_110_17, f_110_18, p_110_18, f_110_19, p_110_19, f_110_20, f_110_21, p_110_21, f_110_22, p_110_22, f_110_23, f_110_24, f_110_25, p_110_25, f_110_26, f_110_27, f_110_28, f_110_29, f_110_30, f_110_31, p_110_31, f_110_32, p_110_32, f_110_33, p_110_33, f_110_34, p_110_34, f_110_35, f_110_36, f_110_37, f_110_38, e_111, i_111, Option.some.injEq, exists_eq_left', exists_eq_left, Option.toList_some, Option.toList_none, List.cons_append, List.nil_append, true_and, and_true, Option.map_some, Option.map_none, r_isTown (d := d) (by omega) hT, r_isPerson (d := d) (by omega) hT hW, r_isMatterI (d := d) (by omega) hT hW, r_isSet (d := d) (by omega) hT hW, r_allMatters (d := d) (by omega) hT hW, r_isClosed (d := d) (by omega) hT hW, r_sumOfAll (d := d) (by omega) hT hW, r_restsOf (d := d) (by omega) hT hW, r_in (d := d) (by omega), r_bit (d := d) (by omega), r_bits (d := d) (by omega), h1, show ¬ ((1 : Int32) = 0) by decide, not_false_eq_true, if_true, x_ev_iff e1, not_true_eq_false, if_false, e6, h60, x_ev_iff z1, x_ev_iff y1, e4]
    · have hl : (wAc W).length = 60 := by omega
      refine ⟨wAct W (wAc W) (wA W), -5, wOk_act h' hl60 hr, ?_, ?_⟩
      · intro d xs s hd hC
        obtain ⟨d, rfl⟩ := x_1 (d := d) (by omega)
        obtain ⟨s', q1, q2, q3, q4⟩ := c_take (P := P) (xs := xs) (d := d) h' 20 (o := none) (by rw [if_neg h6]) (by omega) hC
        refine ⟨s', ?_, cW_act hC q2 q3 q4, frC q2⟩
        obtain ⟨⟨hT, hA, hn, hacts⟩, -⟩ := hC
        rw [x_ev_in rfl (Nat.le_of_ble_eq_true rfl)]
        rw [show x_ent (x_nL g_M 129) [.ref 1] = [some (.ref 1)] from rfl]
        simp only [w_Top_day_0, w_Top_day_4, w_Top_day_7, w_Top_day_10, w_Top_day_13, w_Top_day_19, w_Top_day_22, w_Top_day_26, w_Top_day_29, w_Top_day_32, w_Top_day_34, c_1, f_1_0, f_1_1, p_1_1, f_1_2, f_1_3, f_1_4, f_1_5, f_1_6, p_1_6, f_1_7, f_1_8, f_1_9, f_1_10, f_1_11, f_1_12, f_1_13, f_1_14, c_3, f_3_0, p_3_0, f_3_1, p_3_1, f_3_2, p_3_2, f_3_3, p_3_3, f_3_4, p_3_4, f_3_5, p_3_5, f_3_6, p_3_6, f_3_7, p_3_7, f_3_8, p_3_8, f_3_9, f_3_10, f_3_11, f_3_12, f_3_13, c_9, f_9_0, f_9_1, p_9_1, f_9_2, p_9_2, f_9_3, p_9_3, f_9_4, p_9_4, f_9_5, f_9_6, Option.some.injEq, exists_eq_left', exists_eq_left, Option.toList_some, Option.toList_none, List.cons_append, List.nil_append, true_and, and_true, Option.map_some, Option.map_none, t_isTold (d := d) (by omega) hT, t_hasPerson (d := d) (by omega) hT, t_hasMatter (d := d) (by omega) hT, t_hasSet (d := d) (by omega) hT hW, t_bitOf (d := d) (by omega), t_isClosed (d := d) (by omega) hT hW, t_sumOfAll (d := d) (by omega) hT hW, s_openOnes (d := d) (by omega) h9 hT hW hA, s_wishers (d := d) (by omega) h9 hT hW hA hAw, s_allCups (d := d) (by omega) h9 hT hW hA, h1, show ¬ ((1 : Int32) = 0) by decide, not_false_eq_true, if_true, x_ev_iff q1, Option.isSome_none, Bool.false_eq_true, if_false]
      · refine rAsk ?_
        intro d xs s hd hC; obtain ⟨hR, -⟩ := hC; have hT := hR.1; obtain ⟨d, rfl⟩ := x_1 (d := d) (by omega); obtain ⟨s1, e1, o1, hA1⟩ := r_asItIs (P := P) (d := d) (xs := xs) (by omega) hR hK hr; have hT1 := o1.T hT
        have hR1 := refW_at (o1.1 111 (by omega) (by omega) (by omega)) hR
        refine ⟨s1, ?_, o1.ke⟩
        have e6 : x_rd (s1.1 111) 135 6 = some 60 := by rw [show (6 : Int32) = nI 6 from rfl, x_rd_nI (by omega) (by omega), hR1.2.1, hl]; rfl
        rw [x_ev_in rfl (Nat.le_of_ble_eq_true rfl)]
        rw [show x_ent (x_nL g_M 256) [.ref 110] = [some (.ref 110)] from rfl]
        simp only [w_Ref_day_0, w_Ref_day_4, w_Ref_day_7, w_Ref_day_10, w_Ref_day_14, w_Ref_day_18, w_Ref_day_21, w_Ref_day_26, w_Ref_day_29, w_Ref_day_35, w_Ref_day_39, w_Ref_day_43, c_110, f_110_0, p_110_0, f_110_1, f_110_2, f_110_3, f_110_4, f_110_5, p_110_5, f_110_6, f_110_7, p_110_7, f_110_8, p_110_8, f_110_9, p_110_9, f_110_10, p_110_10, f_110_11, p_110_11, f_110_12, p_110_12, f_110_13, p_110_13, f_110_14, f_110_15, f_110_16, p_110_16, f_110_17, f_110_18, p_110_18, f_110_19, p_110_19, f_110_20, f_110_21, p_110_21, f_110_22, p_110_22, f_110_23, f_110_24, f_110_25, p_110_25, f_110_26, f_110_27, f_110_28, f_110_29, f_110_30, f_110_31, p_110_31, f_110_32, p_110_32, f_110_33, p_110_33, f_110_34, p_110_34, f_110_35, f_110_36, f_110_37, f_110_38, e_111, i_111, Option.some.injEq, exists_eq_left', exists_eq_left, Option.toList_some, Option.toList_none, List.cons_append, List.nil_append, true_and, and_true, Option.map_some, Option.map_none, r_isTown (d := d) (by omega) hT, r_isPerson (d := d) (by omega) hT hW, r_isMatterI (d := d) (by omega) hT hW, r_isSet (d := d) (by omega) hT hW, r_allMatters (d := d) (by omega) hT hW, r_isClosed (d := d) (by omega) hT hW, r_sumOfAll (d := d) (by omega) hT hW, r_restsOf (d := d) (by omega) hT hW, r_in (d := d) (by omega), r_bit (d := d) (by omega), r_bits (d := d) (by omega), h1, show ¬ ((1 : Int32) = 0) by decide, not_false_eq_true, if_true, x_ev_iff e1, if_false, e6, not_true_eq_false]
end ACTS2
