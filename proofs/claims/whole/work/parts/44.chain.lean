/-! elected, chain: both (own work) -/
def offE (s s' : xS) : Prop := (∀ q, q ≠ 110 → q ≠ 122 → s'.1 q = s.1 q) ∧ (∀ k, k ≠ 25 → s'.1 110 k = s.1 110 k) ∧ s'.2 = s.2
theorem offE.ke {s s' : xS} (h : offE s s') : keR s s' := ⟨fun q a b => h.1 q a (by omega), fun k a => h.2.1 k (by omega), fun q _ _ => by rw [h.2.2]⟩
theorem offE.T {s s' : xS} {T : Tw} (h : offE s s') (hT : refT s 111 0 T) : refT s' 111 0 T := refT_off (h.1 111 (by omega) (by omega)) hT
theorem x_nr_b (b : Bool) : x_nr 2 (b01 b) = b01 b := by cases b <;> decide
section ELECT2
variable {P : Nat → List Value → Option Value} {d : Nat} {xs : List Int32} {s : xS} {T : Tw}
set_option maxHeartbeats 4000000 in
theorem r_elIn (hd : 8 ≤ d) (hT : refT s 111 0 T) (hK : tOk T) (h22 : ∀ i, i < 2 ^ tM T → s.1 122 i = b01 (tFirm T (nI i))) {n : Nat} (hn : n < 2 ^ tM T) : ∃ l3, ∀ r, x_R (x_ev g_M P d) 298 (56, [some (.ref 110), some (.int (nI n)), some (.int (b01 (tFirm T (nI n)))), some (.int 0)], [], mkH xs s) r ↔ x_R (x_ev g_M P d) 298 (110, [some (.ref 110), some (.int (nI n)), some (.int (b01 (tFirm T (nI n) && ubR T (2 ^ tM T) n))), some (.int l3)], [], mkH xs s) r := by
  have hW := hK.1
  have hp := p2_le (tM T) (by have := hW.2.1; omega)
  cases hf : tFirm T (nI n)
  · refine ⟨0, fun r => ?_⟩
    simp only [b01, Bool.false_eq_true, if_false, Bool.false_and]
    have hc : ¬ nI (2 ^ tM T) ≤ 0 := nI_nle (by omega) (by omega)
    simp only [w_Ref_elected_56 (l3 := 0), w_Ref_elected_61, w_Ref_elected_64, c_110, f_110_0, p_110_0, f_110_1, f_110_2, f_110_3, f_110_4, f_110_5, p_110_5, f_110_6, f_110_7, p_110_7, f_110_8, p_110_8, f_110_9, p_110_9, f_110_10, p_110_10, f_110_11, p_110_11, f_110_12, p_110_12, f_110_13, p_110_13, f_110_14, f_110_15, f_110_16, p_110_16, f_110_17, f_110_18, p_110_18, f_110_19, p_110_19, f_110_20, f_110_21, p_110_21, f_110_22, p_110_22, f_110_23, f_110_24, f_110_25, p_110_25, f_110_26, f_110_27, f_110_28, f_110_29, f_110_30, f_110_31, p_110_31, f_110_32, p_110_32, f_110_33, p_110_33, f_110_34, p_110_34, f_110_35, f_110_36, f_110_37, f_110_38, Option.some.injEq, exists_eq_left', exists_eq_left, Option.toList_some, Option.toList_none, List.cons_append, List.nil_append, true_and, and_true, Option.map_some, Option.map_none, r_allMatters (d := d) (by omega) hT hW, full_lt hW, hc, if_false, if_true]
  · have inner := fun r => x_fstG (C := x_ev g_M P d) (k := 298) (r := r) (N := 2 ^ tM T) (f := fun o => tFirm T (nI o) && decide (cnt2 T (nI n) (nI o) < cnt2 T (nI o) (nI n))) (K := fun o => x_R (x_ev g_M P d) 298 (110, [some (.ref 110), some (.int (nI n)), some (.int 0), some (.int (nI (o + 1)))], [], mkH xs s) r) (E := x_R (x_ev g_M P d) 298 (110, [some (.ref 110), some (.int (nI n)), some (.int 1), some (.int (nI (2 ^ tM T)))], [], mkH xs s) r) (F := fun o => (56, [some (.ref 110), some (.int (nI n)), some (.int 1), some (.int (nI o))], [], mkH xs s)) (fun o ho hfo => by
      have hc : ¬ nI (2 ^ tM T) ≤ nI o := nI_ge ho (by omega)
      have hx : x_rd (s.1 122) 256 (nI o) = some (b01 (tFirm T (nI o))) := by rw [x_rd_nI (by omega) (by omega), h22 o ho]
      by_cases hb : tFirm T (nI o) = true
      · have h2 : ¬ cnt2 T (nI n) (nI o) < cnt2 T (nI o) (nI n) := by rw [hb, Bool.true_and] at hfo; simpa using hfo
        simp only [w_Ref_elected_0, w_Ref_elected_4, w_Ref_elected_7, w_Ref_elected_10, w_Ref_elected_17, w_Ref_elected_20, w_Ref_elected_24, w_Ref_elected_30, w_Ref_elected_31, w_Ref_elected_37, w_Ref_elected_44, w_Ref_elected_47, w_Ref_elected_51, w_Ref_elected_53, w_Ref_elected_61, w_Ref_elected_64, w_Ref_elected_68, w_Ref_elected_72, w_Ref_elected_74, w_Ref_elected_77, w_Ref_elected_83, w_Ref_elected_86, w_Ref_elected_92, w_Ref_elected_95, w_Ref_elected_98, w_Ref_elected_102, w_Ref_elected_103, w_Ref_elected_110, w_Ref_elected_114, w_Ref_elected_116, w_Ref_elected_122, w_Ref_elected_56 (l3 := nI o), c_110, f_110_0, p_110_0, f_110_1, f_110_2, f_110_3, f_110_4, f_110_5, p_110_5, f_110_6, f_110_7, p_110_7, f_110_8, p_110_8, f_110_9, p_110_9, f_110_10, p_110_10, f_110_11, p_110_11, f_110_12, p_110_12, f_110_13, p_110_13, f_110_14, f_110_15, f_110_16, p_110_16, f_110_17, f_110_18, p_110_18, f_110_19, p_110_19, f_110_20, f_110_21, p_110_21, f_110_22, p_110_22, f_110_23, f_110_24, f_110_25, p_110_25, f_110_26, f_110_27, f_110_28, f_110_29, f_110_30, f_110_31, p_110_31, f_110_32, p_110_32, f_110_33, p_110_33, f_110_34, p_110_34, f_110_35, f_110_36, f_110_37, f_110_38, e_122, i_122, Option.some.injEq, exists_eq_left', exists_eq_left, Option.toList_some, Option.toList_none, List.cons_append, List.nil_append, true_and, and_true, Option.map_some, Option.map_none, r_allMatters (d := d) (by omega) hT hW, full_lt hW, hc, if_false, show ¬ ((1 : Int32) = 0) by decide, hx, hb, b01, if_true, r_votesFor (d := d) (by omega) hT hW, r_bits (d := d) (by omega), nI_1]
        show (if cnt2 T (nI n) (nI o) < cnt2 T (nI o) (nI n) then _ else _) ↔ _
        rw [if_neg h2]
      · simp only [w_Ref_elected_0, w_Ref_elected_4, w_Ref_elected_7, w_Ref_elected_10, w_Ref_elected_17, w_Ref_elected_20, w_Ref_elected_24, w_Ref_elected_30, w_Ref_elected_31, w_Ref_elected_37, w_Ref_elected_44, w_Ref_elected_47, w_Ref_elected_51, w_Ref_elected_53, w_Ref_elected_61, w_Ref_elected_64, w_Ref_elected_68, w_Ref_elected_72, w_Ref_elected_74, w_Ref_elected_77, w_Ref_elected_83, w_Ref_elected_86, w_Ref_elected_92, w_Ref_elected_95, w_Ref_elected_98, w_Ref_elected_102, w_Ref_elected_103, w_Ref_elected_110, w_Ref_elected_114, w_Ref_elected_116, w_Ref_elected_122, w_Ref_elected_56 (l3 := nI o), c_110, f_110_0, p_110_0, f_110_1, f_110_2, f_110_3, f_110_4, f_110_5, p_110_5, f_110_6, f_110_7, p_110_7, f_110_8, p_110_8, f_110_9, p_110_9, f_110_10, p_110_10, f_110_11, p_110_11, f_110_12, p_110_12, f_110_13, p_110_13, f_110_14, f_110_15, f_110_16, p_110_16, f_110_17, f_110_18, p_110_18, f_110_19, p_110_19, f_110_20, f_110_21, p_110_21, f_110_22, p_110_22, f_110_23, f_110_24, f_110_25, p_110_25, f_110_26, f_110_27, f_110_28, f_110_29, f_110_30, f_110_31, p_110_31, f_110_32, p_110_32, f_110_33, p_110_33, f_110_34, p_110_34, f_110_35, f_110_36, f_110_37, f_110_38, e_122, i_122, Option.some.injEq, exists_eq_left', exists_eq_left, Option.toList_some, Option.toList_none, List.cons_append, List.nil_append, true_and, and_true, Option.map_some, Option.map_none, r_allMatters (d := d) (by omega) hT hW, full_lt hW, hc, if_false, show ¬ ((1 : Int32) = 0) by decide, hx, hb, b01, Bool.false_eq_true, if_true, nI_1]) (fun o ho hfo => by
      have hc : ¬ nI (2 ^ tM T) ≤ nI o := nI_ge ho (by omega)
      have hx : x_rd (s.1 122) 256 (nI o) = some (b01 (tFirm T (nI o))) := by rw [x_rd_nI (by omega) (by omega), h22 o ho]
      rw [Bool.and_eq_true] at hfo
      have hb := hfo.1
      have h2 : cnt2 T (nI n) (nI o) < cnt2 T (nI o) (nI n) := by simpa using hfo.2
      simp only [w_Ref_elected_0, w_Ref_elected_4, w_Ref_elected_7, w_Ref_elected_10, w_Ref_elected_17, w_Ref_elected_20, w_Ref_elected_24, w_Ref_elected_30, w_Ref_elected_31, w_Ref_elected_37, w_Ref_elected_44, w_Ref_elected_47, w_Ref_elected_51, w_Ref_elected_53, w_Ref_elected_61, w_Ref_elected_64, w_Ref_elected_68, w_Ref_elected_72, w_Ref_elected_74, w_Ref_elected_77, w_Ref_elected_83, w_Ref_elected_86, w_Ref_elected_92, w_Ref_elected_95, w_Ref_elected_98, w_Ref_elected_102, w_Ref_elected_103, w_Ref_elected_114, w_Ref_elected_116, w_Ref_elected_122, w_Ref_elected_56 (l3 := nI o), c_110, f_110_0, p_110_0, f_110_1, f_110_2, f_110_3, f_110_4, f_110_5, p_110_5, f_110_6, f_110_7, p_110_7, f_110_8, p_110_8, f_110_9, p_110_9, f_110_10, p_110_10, f_110_11, p_110_11, f_110_12, p_110_12, f_110_13, p_110_13, f_110_14, f_110_15, f_110_16, p_110_16, f_110_17, f_110_18, p_110_18, f_110_19, p_110_19, f_110_20, f_110_21, p_110_21, f_110_22, p_110_22, f_110_23, f_110_24, f_110_25, p_110_25, f_110_26, f_110_27, f_110_28, f_110_29, f_110_30, f_110_31, p_110_31, f_110_32, p_110_32, f_110_33, p_110_33, f_110_34, p_110_34, f_110_35, f_110_36, f_110_37, f_110_38, e_122, i_122, Option.some.injEq, exists_eq_left', exists_eq_left, Option.toList_some, Option.toList_none, List.cons_append, List.nil_append, true_and, and_true, Option.map_some, Option.map_none, r_allMatters (d := d) (by omega) hT hW, full_lt hW, hc, if_false, show ¬ ((1 : Int32) = 0) by decide, hx, hb, b01, if_true, r_votesFor (d := d) (by omega) hT hW, r_bits (d := d) (by omega), nI_1]
      show (if cnt2 T (nI n) (nI o) < cnt2 T (nI o) (nI n) then _ else _) ↔ _
      rw [if_pos h2]
      simp only [w_Ref_elected_0, w_Ref_elected_4, w_Ref_elected_7, w_Ref_elected_10, w_Ref_elected_17, w_Ref_elected_20, w_Ref_elected_24, w_Ref_elected_30, w_Ref_elected_31, w_Ref_elected_37, w_Ref_elected_44, w_Ref_elected_47, w_Ref_elected_51, w_Ref_elected_53, w_Ref_elected_61, w_Ref_elected_64, w_Ref_elected_68, w_Ref_elected_72, w_Ref_elected_74, w_Ref_elected_77, w_Ref_elected_83, w_Ref_elected_86, w_Ref_elected_92, w_Ref_elected_95, w_Ref_elected_98, w_Ref_elected_102, w_Ref_elected_103, w_Ref_elected_114, w_Ref_elected_116, w_Ref_elected_122, w_Ref_elected_56 (l3 := nI (o + 1)), c_110, f_110_0, p_110_0, f_110_1, f_110_2, f_110_3, f_110_4, f_110_5, p_110_5, f_110_6, f_110_7, p_110_7, f_110_8, p_110_8, f_110_9, p_110_9, f_110_10, p_110_10, f_110_11, p_110_11, f_110_12, p_110_12, f_110_13, p_110_13, f_110_14, f_110_15, f_110_16, p_110_16, f_110_17, f_110_18, p_110_18, f_110_19, p_110_19, f_110_20, f_110_21, p_110_21, f_110_22, p_110_22, f_110_23, f_110_24, f_110_25, p_110_25, f_110_26, f_110_27, f_110_28, f_110_29, f_110_30, f_110_31, p_110_31, f_110_32, p_110_32, f_110_33, p_110_33, f_110_34, p_110_34, f_110_35, f_110_36, f_110_37, f_110_38, e_122, i_122, Option.some.injEq, exists_eq_left', exists_eq_left, Option.toList_some, Option.toList_none, List.cons_append, List.nil_append, true_and, and_true, Option.map_some, Option.map_none, r_allMatters (d := d) (by omega) hT hW, full_lt hW, if_true, ite_self]) (by
      simp only [w_Ref_elected_56 (l3 := nI (2 ^ tM T)), w_Ref_elected_61, c_110, f_110_0, p_110_0, f_110_1, f_110_2, f_110_3, f_110_4, f_110_5, p_110_5, f_110_6, f_110_7, p_110_7, f_110_8, p_110_8, f_110_9, p_110_9, f_110_10, p_110_10, f_110_11, p_110_11, f_110_12, p_110_12, f_110_13, p_110_13, f_110_14, f_110_15, f_110_16, p_110_16, f_110_17, f_110_18, p_110_18, f_110_19, p_110_19, f_110_20, f_110_21, p_110_21, f_110_22, p_110_22, f_110_23, f_110_24, f_110_25, p_110_25, f_110_26, f_110_27, f_110_28, f_110_29, f_110_30, f_110_31, p_110_31, f_110_32, p_110_32, f_110_33, p_110_33, f_110_34, p_110_34, f_110_35, f_110_36, f_110_37, f_110_38, Option.some.injEq, exists_eq_left', exists_eq_left, Option.toList_some, Option.toList_none, List.cons_append, List.nil_append, true_and, and_true, Option.map_some, Option.map_none, r_allMatters (d := d) (by omega) hT hW, full_lt hW, show nI (2 ^ tM T) ≤ nI (2 ^ tM T) from Int32.le_refl _, if_true]) (2 ^ tM T) 0 (by omega)
    unfold ubR
    cases hq : frst (fun o => tFirm T (nI o) && decide (cnt2 T (nI n) (nI o) < cnt2 T (nI o) (nI n))) 0 (2 ^ tM T) with
    | none =>
      refine ⟨nI (2 ^ tM T), fun r => ?_⟩
      have := inner r
      rw [hq] at this
      exact this
    | some o =>
      refine ⟨nI (o + 1), fun r => ?_⟩
      have := inner r
      rw [hq] at this
      exact this
end ELECT2
section ELECT3
variable {P : Nat → List Value → Option Value} {W : Wd}
set_option maxHeartbeats 4000000 in
theorem k_elected (h : wOk W) : ask2 P 158 298 [] W := by
  obtain ⟨hK, hl60, hr, hrest⟩ := h; have hW := hK.1; have hO := aOk_run hK _ _ _ (aOk_begin hK) hr; have hAw := hO.1; have w1 := hW.1; have w2 := hW.2.1; have h9 : 9 ∈ g_SP := by decide
  have hp2 := p2_le (tM (wT W)) (by omega)
  by_cases h1 : tLi (wT W) ≤ 0
  · refine ⟨-2, cAsk0 ?_, rAsk0 ?_⟩
    · intro d xs s hd hC; obtain ⟨⟨hT, hA, hn, hacts⟩, -⟩ := hC
      obtain ⟨d, rfl⟩ := x_1 (d := d) (by omega)
      rw [x_ev_in rfl (Nat.le_of_ble_eq_true rfl)]
      rw [show x_ent (x_nL g_M 158) [.ref 1] = [some (.ref 1)] from rfl]
      simp only [w_Top_elected_0, w_Top_elected_4, w_Top_elected_7, w_Top_elected_10, w_Top_elected_14, w_Top_elected_17, w_Top_elected_20, w_Top_elected_22, c_1, f_1_0, f_1_1, p_1_1, f_1_2, f_1_3, f_1_4, f_1_5, f_1_6, p_1_6, f_1_7, f_1_8, f_1_9, f_1_10, f_1_11, f_1_12, f_1_13, f_1_14, c_3, f_3_0, p_3_0, f_3_1, p_3_1, f_3_2, p_3_2, f_3_3, p_3_3, f_3_4, p_3_4, f_3_5, p_3_5, f_3_6, p_3_6, f_3_7, p_3_7, f_3_8, p_3_8, f_3_9, f_3_10, f_3_11, f_3_12, f_3_13, c_9, f_9_0, f_9_1, p_9_1, f_9_2, p_9_2, f_9_3, p_9_3, f_9_4, p_9_4, f_9_5, f_9_6, Option.some.injEq, exists_eq_left', exists_eq_left, Option.toList_some, Option.toList_none, List.cons_append, List.nil_append, true_and, and_true, Option.map_some, Option.map_none, t_isTold (d := d) (by omega) hT, t_hasPerson (d := d) (by omega) hT, t_hasMatter (d := d) (by omega) hT, t_hasSet (d := d) (by omega) hT hW, t_bitOf (d := d) (by omega), t_isClosed (d := d) (by omega) hT hW, t_sumOfAll (d := d) (by omega) hT hW, s_openOnes (d := d) (by omega) h9 hT hW hA, s_wishers (d := d) (by omega) h9 hT hW hA hAw, s_allCups (d := d) (by omega) h9 hT hW hA, h1, show ¬ ((1 : Int32) = 0) by decide, not_true_eq_false, not_false_eq_true, if_true, if_false]
    · intro d xs s hd hC; obtain ⟨hR, -⟩ := hC; have hT := hR.1
      obtain ⟨d, rfl⟩ := x_1 (d := d) (by omega)
      rw [x_ev_in rfl (Nat.le_of_ble_eq_true rfl)]
      rw [show x_ent (x_nL g_M 298) [.ref 110] = [some (.ref 110), none, none, none] from rfl]
      simp only [w_Ref_elected_0, w_Ref_elected_4, w_Ref_elected_7, w_Ref_elected_10, w_Ref_elected_17, w_Ref_elected_20, w_Ref_elected_24, w_Ref_elected_30, w_Ref_elected_31, w_Ref_elected_37, w_Ref_elected_44, w_Ref_elected_47, w_Ref_elected_51, w_Ref_elected_53, w_Ref_elected_61, w_Ref_elected_64, w_Ref_elected_68, w_Ref_elected_72, w_Ref_elected_74, w_Ref_elected_77, w_Ref_elected_83, w_Ref_elected_86, w_Ref_elected_92, w_Ref_elected_95, w_Ref_elected_98, w_Ref_elected_102, w_Ref_elected_103, w_Ref_elected_110, w_Ref_elected_114, w_Ref_elected_116, w_Ref_elected_122, c_110, f_110_0, p_110_0, f_110_1, f_110_2, f_110_3, f_110_4, f_110_5, p_110_5, f_110_6, f_110_7, p_110_7, f_110_8, p_110_8, f_110_9, p_110_9, f_110_10, p_110_10, f_110_11, p_110_11, f_110_12, p_110_12, f_110_13, p_110_13, f_110_14, f_110_15, f_110_16, p_110_16, f_110_17, f_110_18, p_110_18, f_110_19, p_110_19, f_110_20, f_110_21, p_110_21, f_110_22, p_110_22, f_110_23, f_110_24, f_110_25, p_110_25, f_110_26, f_110_27, f_110_28, f_110_29, f_110_30, f_110_31, p_110_31, f_110_32, p_110_32, f_110_33, p_110_33, f_110_34, p_110_34, f_110_35, f_110_36, f_110_37, f_110_38, Option.some.injEq, exists_eq_left', exists_eq_left, Option.toList_some, Option.toList_none, List.cons_append, List.nil_append, true_and, and_true, Option.map_some, Option.map_none, r_isTown (d := d) (by omega) hT, r_isPerson (d := d) (by omega) hT hW, r_isMatterI (d := d) (by omega) hT hW, r_isSet (d := d) (by omega) hT hW, r_allMatters (d := d) (by omega) hT hW, r_isClosed (d := d) (by omega) hT hW, r_sumOfAll (d := d) (by omega) hT hW, r_restsOf (d := d) (by omega) hT hW, r_in (d := d) (by omega), r_bit (d := d) (by omega), r_bits (d := d) (by omega), h1, show ¬ ((1 : Int32) = 0) by decide, not_true_eq_false, not_false_eq_true, if_true, if_false]
  · refine ⟨elc (wT W) (2 ^ tM (wT W)), cAsk ?_, rAsk ?_⟩
    · intro d xs s hd hC; obtain ⟨⟨hT, hA, hn, hacts⟩, -⟩ := hC
      obtain ⟨d, rfl⟩ := x_1 (d := d) (by omega)
      obtain ⟨s', q1, q2⟩ := s_electedOne (P := P) (d := d) (xs := xs) (by omega) hT hK
      refine ⟨s', ?_, q2⟩
      rw [x_ev_in rfl (Nat.le_of_ble_eq_true rfl)]
      rw [show x_ent (x_nL g_M 158) [.ref 1] = [some (.ref 1)] from rfl]
      simp only [w_Top_elected_0, w_Top_elected_4, w_Top_elected_7, w_Top_elected_10, w_Top_elected_14, w_Top_elected_17, w_Top_elected_20, w_Top_elected_22, c_1, f_1_0, f_1_1, p_1_1, f_1_2, f_1_3, f_1_4, f_1_5, f_1_6, p_1_6, f_1_7, f_1_8, f_1_9, f_1_10, f_1_11, f_1_12, f_1_13, f_1_14, c_3, f_3_0, p_3_0, f_3_1, p_3_1, f_3_2, p_3_2, f_3_3, p_3_3, f_3_4, p_3_4, f_3_5, p_3_5, f_3_6, p_3_6, f_3_7, p_3_7, f_3_8, p_3_8, f_3_9, f_3_10, f_3_11, f_3_12, f_3_13, c_9, f_9_0, f_9_1, p_9_1, f_9_2, p_9_2, f_9_3, p_9_3, f_9_4, p_9_4, f_9_5, f_9_6, c_25, f_25_0, f_25_1, f_25_2, f_25_3, f_25_4, f_25_5, f_25_6, f_25_7, p_25_7, Option.some.injEq, exists_eq_left', exists_eq_left, Option.toList_some, Option.toList_none, List.cons_append, List.nil_append, true_and, and_true, Option.map_some, Option.map_none, t_isTold (d := d) (by omega) hT, t_hasPerson (d := d) (by omega) hT, t_hasMatter (d := d) (by omega) hT, t_hasSet (d := d) (by omega) hT hW, t_bitOf (d := d) (by omega), t_isClosed (d := d) (by omega) hT hW, t_sumOfAll (d := d) (by omega) hT hW, s_openOnes (d := d) (by omega) h9 hT hW hA, s_wishers (d := d) (by omega) h9 hT hW hA hAw, s_allCups (d := d) (by omega) h9 hT hW hA, x_ev_iff q1, h1, show ¬ ((1 : Int32) = 0) by decide, not_false_eq_true, if_true, if_false]
    · intro d xs s hd hC; obtain ⟨hR, -⟩ := hC; have hT := hR.1
      obtain ⟨d, rfl⟩ := x_1 (d := d) (by omega)
      obtain ⟨s', ⟨ho, h22⟩, e⟩ := x_upY (C := x_ev g_M P d) (k := 298) (N := 2 ^ tM (wT W)) (β := xS) (R := fun m z => offE s z ∧ ∀ i, i < m → z.1 122 i = b01 (tFirm (wT W) (nI i))) (F := fun m z => (12, [some (.ref 110), some (.int (nI m)), none, none], [], mkH xs z)) (fun m z hm hR => by
        obtain ⟨ho, h22⟩ := hR
        have hc : ¬ nI (2 ^ tM (wT W)) ≤ nI m := nI_ge hm (by omega)
        have hT1 := ho.T hT
        obtain ⟨s2, q1, q2⟩ := r_isFirm (P := P) (d := d) (xs := xs) (by omega) hT1 hW (nI m)
        have hx : x_rd (s2.1 122) 256 (nI m) = some (s2.1 122 m) := x_rd_nI (by omega) (by omega)
        refine ⟨s_p s2 122 m (b01 (tFirm (wT W) (nI m))), ⟨⟨fun q g1 g2 => ?_, fun k g => ?_, q2.2.2.trans ho.2.2⟩, fun i hi => ?_⟩, fun r => ?_⟩
        · rw [← ho.1 q g1 g2, ← q2.1 q g1]
          funext k
          simp [s_p, g2]
        · rw [← ho.2.1 k g, ← q2.2.1 k g]
          simp [s_p]
        · by_cases him : i = m
          · subst him; simp [s_p]
          · rw [← h22 i (by omega), ← q2.1 122 (by omega)]
            simp [s_p, him]
        · simp only [w_Ref_elected_0, w_Ref_elected_4, w_Ref_elected_7, w_Ref_elected_10, w_Ref_elected_17, w_Ref_elected_20, w_Ref_elected_24, w_Ref_elected_30, w_Ref_elected_31, w_Ref_elected_37, w_Ref_elected_44, w_Ref_elected_47, w_Ref_elected_51, w_Ref_elected_53, w_Ref_elected_61, w_Ref_elected_64, w_Ref_elected_68, w_Ref_elected_72, w_Ref_elected_74, w_Ref_elected_77, w_Ref_elected_83, w_Ref_elected_86, w_Ref_elected_92, w_Ref_elected_95, w_Ref_elected_98, w_Ref_elected_102, w_Ref_elected_103, w_Ref_elected_110, w_Ref_elected_114, w_Ref_elected_116, w_Ref_elected_122, w_Ref_elected_12 (l1 := nI m), c_110, f_110_0, p_110_0, f_110_1, f_110_2, f_110_3, f_110_4, f_110_5, p_110_5, f_110_6, f_110_7, p_110_7, f_110_8, p_110_8, f_110_9, p_110_9, f_110_10, p_110_10, f_110_11, p_110_11, f_110_12, p_110_12, f_110_13, p_110_13, f_110_14, f_110_15, f_110_16, p_110_16, f_110_17, f_110_18, p_110_18, f_110_19, p_110_19, f_110_20, f_110_21, p_110_21, f_110_22, p_110_22, f_110_23, f_110_24, f_110_25, p_110_25, f_110_26, f_110_27, f_110_28, f_110_29, f_110_30, f_110_31, p_110_31, f_110_32, p_110_32, f_110_33, p_110_33, f_110_34, p_110_34, f_110_35, f_110_36, f_110_37, f_110_38, e_122, i_122, Option.some.injEq, exists_eq_left', exists_eq_left, Option.toList_some, Option.toList_none, List.cons_append, List.nil_append, true_and, and_true, Option.map_some, Option.map_none, r_allMatters (d := d) (by omega) hT1 hW, full_lt hW, hc, if_false, x_ev_iff q1, hx, nI_clamp (show m < 2 ^ 31 by omega), x_nr_b, nI_1]) (2 ^ tM (wT W)) 0 s (by omega) ⟨⟨fun _ _ _ => rfl, fun _ _ => rfl, rfl⟩, fun i hi => absurd hi (Nat.not_lt_zero _)⟩
      have hT1 := ho.T hT
      refine ⟨s', ?_, ho.ke⟩
      rw [x_ev_in rfl (Nat.le_of_ble_eq_true rfl)]
      rw [show x_ent (x_nL g_M 298) [.ref 110] = [some (.ref 110), none, none, none] from rfl]
      simp only [w_Ref_elected_0, w_Ref_elected_4, w_Ref_elected_7, w_Ref_elected_10, w_Ref_elected_17, w_Ref_elected_20, w_Ref_elected_24, w_Ref_elected_30, w_Ref_elected_31, w_Ref_elected_37, w_Ref_elected_44, w_Ref_elected_47, w_Ref_elected_51, w_Ref_elected_53, w_Ref_elected_61, w_Ref_elected_64, w_Ref_elected_68, w_Ref_elected_72, w_Ref_elected_74, w_Ref_elected_77, w_Ref_elected_83, w_Ref_elected_86, w_Ref_elected_92, w_Ref_elected_95, w_Ref_elected_98, w_Ref_elected_102, w_Ref_elected_103, w_Ref_elected_110, w_Ref_elected_114, w_Ref_elected_116, w_Ref_elected_122, c_110, f_110_0, p_110_0, f_110_1, f_110_2, f_110_3, f_110_4, f_110_5, p_110_5, f_110_6, f_110_7, p_110_7, f_110_8, p_110_8, f_110_9, p_110_9, f_110_10, p_110_10, f_110_11, p_110_11, f_110_12, p_110_12, f_110_13, p_110_13, f_110_14, f_110_15, f_110_16, p_110_16, f_110_17, f_110_18, p_110_18, f_110_19, p_110_19, f_110_20, f_110_21, p_110_21, f_110_22, p_110_22, f_110_23, f_110_24, f_110_25, p_110_25, f_110_26, f_110_27, f_110_28, f_110_29, f_110_30, f_110_31, p_110_31, f_110_32, p_110_32, f_110_33, p_110_33, f_110_34, p_110_34, f_110_35, f_110_36, f_110_37, f_110_38, Option.some.injEq, exists_eq_left', exists_eq_left, Option.toList_some, Option.toList_none, List.cons_append, List.nil_append, true_and, and_true, Option.map_some, Option.map_none, r_isTown (d := d) (by omega) hT, r_isPerson (d := d) (by omega) hT hW, r_isMatterI (d := d) (by omega) hT hW, r_isSet (d := d) (by omega) hT hW, r_allMatters (d := d) (by omega) hT hW, r_isClosed (d := d) (by omega) hT hW, r_sumOfAll (d := d) (by omega) hT hW, r_restsOf (d := d) (by omega) hT hW, r_in (d := d) (by omega), r_bit (d := d) (by omega), r_bits (d := d) (by omega), h1, show ¬ ((1 : Int32) = 0) by decide, not_false_eq_true, if_true, if_false]
      refine (e _).mpr ?_
      simp only [w_Ref_elected_12 (l1 := nI (2 ^ tM (wT W))), w_Ref_elected_17, w_Ref_elected_37, c_110, f_110_0, p_110_0, f_110_1, f_110_2, f_110_3, f_110_4, f_110_5, p_110_5, f_110_6, f_110_7, p_110_7, f_110_8, p_110_8, f_110_9, p_110_9, f_110_10, p_110_10, f_110_11, p_110_11, f_110_12, p_110_12, f_110_13, p_110_13, f_110_14, f_110_15, f_110_16, p_110_16, f_110_17, f_110_18, p_110_18, f_110_19, p_110_19, f_110_20, f_110_21, p_110_21, f_110_22, p_110_22, f_110_23, f_110_24, f_110_25, p_110_25, f_110_26, f_110_27, f_110_28, f_110_29, f_110_30, f_110_31, p_110_31, f_110_32, p_110_32, f_110_33, p_110_33, f_110_34, p_110_34, f_110_35, f_110_36, f_110_37, f_110_38, Option.some.injEq, exists_eq_left', exists_eq_left, Option.toList_some, Option.toList_none, List.cons_append, List.nil_append, true_and, and_true, Option.map_some, Option.map_none, r_allMatters (d := d) (by omega) hT1 hW, full_lt hW, show nI (2 ^ tM (wT W)) ≤ nI (2 ^ tM (wT W)) from Int32.le_refl _, if_true]
      have key := x_fstO (C := x_ev g_M P d) (k := 298) (r := (some (.int (elc (wT W) (2 ^ tM (wT W)))), mkH xs s')) (N := 2 ^ tM (wT W)) (f := fun x => tFirm (wT W) (nI x) && ubR (wT W) (2 ^ tM (wT W)) x) (K := fun x => elc (wT W) (2 ^ tM (wT W)) = nI x) (E := elc (wT W) (2 ^ tM (wT W)) = -1) (F := fun n (o : Option Value × Option Value) => (39, [some (.ref 110), some (.int (nI n)), o.1, o.2], [], mkH xs s')) (fun n o hn hf => by
        obtain ⟨l3, e2⟩ := r_elIn (P := P) (d := d) (xs := xs) (by omega) hT1 hK h22 hn
        have hc : ¬ nI (2 ^ tM (wT W)) ≤ nI n := nI_ge hn (by omega)
        have hx : x_rd (s'.1 122) 256 (nI n) = some (b01 (tFirm (wT W) (nI n))) := by rw [x_rd_nI (by omega) (by omega), h22 n hn]
        refine ⟨(some (.int 0), some (.int l3)), ?_⟩
        simp only [w_Ref_elected_39 (l1 := nI n), w_Ref_elected_44, w_Ref_elected_47, w_Ref_elected_51, w_Ref_elected_53, c_110, f_110_0, p_110_0, f_110_1, f_110_2, f_110_3, f_110_4, f_110_5, p_110_5, f_110_6, f_110_7, p_110_7, f_110_8, p_110_8, f_110_9, p_110_9, f_110_10, p_110_10, f_110_11, p_110_11, f_110_12, p_110_12, f_110_13, p_110_13, f_110_14, f_110_15, f_110_16, p_110_16, f_110_17, f_110_18, p_110_18, f_110_19, p_110_19, f_110_20, f_110_21, p_110_21, f_110_22, p_110_22, f_110_23, f_110_24, f_110_25, p_110_25, f_110_26, f_110_27, f_110_28, f_110_29, f_110_30, f_110_31, p_110_31, f_110_32, p_110_32, f_110_33, p_110_33, f_110_34, p_110_34, f_110_35, f_110_36, f_110_37, f_110_38, e_122, i_122, Option.some.injEq, exists_eq_left', exists_eq_left, Option.toList_some, Option.toList_none, List.cons_append, List.nil_append, true_and, and_true, Option.map_some, Option.map_none, r_allMatters (d := d) (by omega) hT1 hW, full_lt hW, hc, if_false, hx, e2]
        simp only [hf, b01, Bool.false_eq_true, if_false, w_Ref_elected_110, w_Ref_elected_116, if_true, nI_1]) (fun n o hn hf => by
        obtain ⟨l3, e2⟩ := r_elIn (P := P) (d := d) (xs := xs) (by omega) hT1 hK h22 hn
        have hc : ¬ nI (2 ^ tM (wT W)) ≤ nI n := nI_ge hn (by omega)
        have hx : x_rd (s'.1 122) 256 (nI n) = some (b01 (tFirm (wT W) (nI n))) := by rw [x_rd_nI (by omega) (by omega), h22 n hn]
        simp only [w_Ref_elected_39 (l1 := nI n), w_Ref_elected_44, w_Ref_elected_47, w_Ref_elected_51, w_Ref_elected_53, c_110, f_110_0, p_110_0, f_110_1, f_110_2, f_110_3, f_110_4, f_110_5, p_110_5, f_110_6, f_110_7, p_110_7, f_110_8, p_110_8, f_110_9, p_110_9, f_110_10, p_110_10, f_110_11, p_110_11, f_110_12, p_110_12, f_110_13, p_110_13, f_110_14, f_110_15, f_110_16, p_110_16, f_110_17, f_110_18, p_110_18, f_110_19, p_110_19, f_110_20, f_110_21, p_110_21, f_110_22, p_110_22, f_110_23, f_110_24, f_110_25, p_110_25, f_110_26, f_110_27, f_110_28, f_110_29, f_110_30, f_110_31, p_110_31, f_110_32, p_110_32, f_110_33, p_110_33, f_110_34, p_110_34, f_110_35, f_110_36, f_110_37, f_110_38, e_122, i_122, Option.some.injEq, exists_eq_left', exists_eq_left, Option.toList_some, Option.toList_none, List.cons_append, List.nil_append, true_and, and_true, Option.map_some, Option.map_none, r_allMatters (d := d) (by omega) hT1 hW, full_lt hW, hc, if_false, hx, e2]
        simp only [hf, b01, if_true, if_false, w_Ref_elected_110, w_Ref_elected_114, show ¬ ((1 : Int32) = 0) by decide, Prod.mk.injEq, Value.int.injEq, Option.some.injEq, exists_eq_left', exists_eq_left, Option.toList_some, Option.toList_none, List.cons_append, List.nil_append, true_and, and_true, Option.map_some, Option.map_none]
        exact eq_comm) (fun o => by
        simp only [w_Ref_elected_39 (l1 := nI (2 ^ tM (wT W))), w_Ref_elected_44, w_Ref_elected_122, c_110, f_110_0, p_110_0, f_110_1, f_110_2, f_110_3, f_110_4, f_110_5, p_110_5, f_110_6, f_110_7, p_110_7, f_110_8, p_110_8, f_110_9, p_110_9, f_110_10, p_110_10, f_110_11, p_110_11, f_110_12, p_110_12, f_110_13, p_110_13, f_110_14, f_110_15, f_110_16, p_110_16, f_110_17, f_110_18, p_110_18, f_110_19, p_110_19, f_110_20, f_110_21, p_110_21, f_110_22, p_110_22, f_110_23, f_110_24, f_110_25, p_110_25, f_110_26, f_110_27, f_110_28, f_110_29, f_110_30, f_110_31, p_110_31, f_110_32, p_110_32, f_110_33, p_110_33, f_110_34, p_110_34, f_110_35, f_110_36, f_110_37, f_110_38, Option.some.injEq, exists_eq_left', exists_eq_left, Option.toList_some, Option.toList_none, List.cons_append, List.nil_append, true_and, and_true, Option.map_some, Option.map_none, r_allMatters (d := d) (by omega) hT1 hW, full_lt hW, show nI (2 ^ tM (wT W)) ≤ nI (2 ^ tM (wT W)) from Int32.le_refl _, if_true, Prod.mk.injEq, Value.int.injEq]
        exact eq_comm) (2 ^ tM (wT W)) 0 (none, none) (by omega)
      refine key.mpr ?_
      unfold elc
      cases frst (fun x => tFirm (wT W) (nI x) && ubR (wT W) (2 ^ tM (wT W)) x) 0 (2 ^ tM (wT W)) <;> rfl
end ELECT3
/-! how long a row rests -/
def chA (T : Tw) (f : Nat → Int32) (m : Nat) : Nat → Int32 := fo (fun k a => if bt (tOn T m) k = true then (if a < f k + 1 then f k + 1 else a) else a) 1
def chT (T : Tw) : Nat → Nat → Int32
  | 0 => fun _ => 0
  | m + 1 => fun j => if j = m then chA T (chT T m) m m else chT T m j
def chL (T : Tw) : Nat → Int32
  | 0 => 0
  | m + 1 => if chL T m < chA T (chT T m) m m then chA T (chT T m) m m else chL T m
theorem chA_s (T : Tw) (f : Nat → Int32) (m k : Nat) : chA T f m (k + 1) = if bt (tOn T m) k = true then (if chA T f m k < f k + 1 then f k + 1 else chA T f m k) else chA T f m k := rfl
def offX (c : Nat) (s s' : xS) : Prop := (∀ q, q ≠ c → s'.1 q = s.1 q) ∧ s'.2 = s.2
section CHAIN
variable {P : Nat → List Value → Option Value} {d : Nat} {xs : List Int32} {s : xS} {T : Tw}
theorem s_p_id {z : xS} {c m : Nat} {v : Int32} (h : z.1 c m = v) : s_p z c m v = z := by
  unfold s_p
  ext1
  · funext q k
    simp only
    split
    · rename_i hh; rw [hh.1, hh.2, h]
    · rfl
  · rfl
set_option maxHeartbeats 8000000 in
theorem s_longestRow (hd : 2 ≤ d) (hT : clsT s 3 T) (hW : tWf T) : ∃ s', offX 30 s s' ∧ x_R (x_ev g_M P d) 44 (4, [some (.ref 25), some (.int 0), some (.int 0), none], [], mkH xs s) (some (.int (chL T (tM T))), mkH xs s') := by
  have w2 := hW.2.1
  have t12 := hT.2.2.2.2.2.2.2.1
  have t5 := hT.1.2.2.2.2.2
  obtain ⟨⟨s', o⟩, ⟨ho, hr⟩, e⟩ := x_upY (C := x_ev g_M P d) (k := 44) (N := tM T) (β := xS × Option Value) (R := fun m z => offX 30 s z.1 ∧ ∀ j, j < m → z.1.1 30 j = chT T m j) (F := fun m z => (4, [some (.ref 25), some (.int (chL T m)), some (.int (nI m)), z.2], [], mkH xs z.1)) (fun m zo hm hR => by
      obtain ⟨z, o⟩ := zo
      obtain ⟨ho, hr⟩ := hR
      have hc : ¬ nI (tM T) ≤ nI m := nI_ge hm (by omega)
      have hT1 : clsT z 3 T := clsT_off (fun q a b => ho.1 q (by omega)) hT
      have t5' := hT1.1.2.2.2.2.2
      have hx0 : x_rd (z.1 30) 8 (nI m) = some (z.1 30 m) := x_rd_nI (by omega) (by omega)
      obtain ⟨z3, ⟨g1, g2, g3⟩, e3⟩ := x_upY (C := x_ev g_M P d) (k := 44) (N := m) (β := xS) (R := fun k z2 => offX 30 s z2 ∧ z2.1 30 m = chA T (chT T m) m k ∧ ∀ j, j < m → z2.1 30 j = chT T m j) (F := fun k z2 => (24, [some (.ref 25), some (.int (chL T m)), some (.int (nI m)), some (.int (nI k))], [], mkH xs z2)) (fun k z2 hk hR2 => by
        obtain ⟨g1, g2, g3⟩ := hR2
        have hc2 : ¬ nI m ≤ nI k := nI_ge hk (by omega)
        have hT2 : clsT z2 3 T := clsT_off (fun q a b => g1.1 q (by omega)) hT
        have t12' := hT2.2.2.2.2.2.2.2.1
        have hx : x_rd (z2.1 7) 8 (nI m) = some (tOn T m) := by rw [x_rd_nI (by omega) (by omega), t12' m hm]
        have e1 : x_rd (z2.1 30) 8 (nI m) = some (chA T (chT T m) m k) := by rw [x_rd_nI (by omega) (by omega), g2]
        have e2 : x_rd (z2.1 30) 8 (nI k) = some (chT T m k) := by rw [x_rd_nI (by omega) (by omega), g3 k hk]
        refine ⟨s_p z2 30 m (chA T (chT T m) m (k + 1)), ⟨⟨fun q g => ?_, g1.2⟩, by simp [s_p], fun j hj => ?_⟩, fun r => ?_⟩
        · rw [← g1.1 q g]; funext j; simp [s_p, g]
        · rw [← g3 j hj]
          have : ¬ j = m := by omega
          simp [s_p, this]
        · simp only [w_Sets_longestRow_0, w_Sets_longestRow_9, w_Sets_longestRow_12, w_Sets_longestRow_15, w_Sets_longestRow_19, w_Sets_longestRow_22, w_Sets_longestRow_29, w_Sets_longestRow_33, w_Sets_longestRow_36, w_Sets_longestRow_38, w_Sets_longestRow_42, w_Sets_longestRow_46, w_Sets_longestRow_50, w_Sets_longestRow_55, w_Sets_longestRow_57, w_Sets_longestRow_61, w_Sets_longestRow_63, w_Sets_longestRow_69, w_Sets_longestRow_75, w_Sets_longestRow_80, w_Sets_longestRow_82, w_Sets_longestRow_92, w_Sets_longestRow_24 (l3 := nI k), c_3, f_3_0, p_3_0, f_3_1, p_3_1, f_3_2, p_3_2, f_3_3, p_3_3, f_3_4, p_3_4, f_3_5, p_3_5, f_3_6, p_3_6, f_3_7, p_3_7, f_3_8, p_3_8, f_3_9, f_3_10, f_3_11, f_3_12, f_3_13, e_7, i_7, c_25, f_25_0, f_25_1, f_25_2, f_25_3, f_25_4, f_25_5, f_25_6, f_25_7, p_25_7, e_30, i_30, Option.some.injEq, exists_eq_left', exists_eq_left, Option.toList_some, Option.toList_none, List.cons_append, List.nil_append, true_and, and_true, Option.map_some, Option.map_none, hc2, if_false, t_bitOf (d := d) (by omega), bit_1 (show k < 32 by omega), hx, e1, e2, nI_clamp (show m < 2 ^ 31 by omega), nI_1, chA_s]
          by_cases hb : bt (tOn T m) k = true
          · simp only [hb, not_true_eq_false, if_false, if_true]
          · simp only [hb, not_false_eq_true, if_true, Bool.false_eq_true, if_false]
            rw [show s_p z2 30 m (chA T (chT T m) m k) = z2 from s_p_id g2]) m 0 (s_p z 30 m 1) (by omega) ⟨⟨fun q g => by rw [← ho.1 q g]; funext j; simp [s_p, g], ho.2⟩, by simp [s_p]; rfl, fun j hj => by
          rw [← hr j hj]
          have : ¬ j = m := by omega
          simp [s_p, this]⟩
      have e4 : x_rd (z3.1 30) 8 (nI m) = some (chA T (chT T m) m m) := by rw [x_rd_nI (by omega) (by omega), g2]
      refine ⟨(z3, some (.int (nI m))), ⟨g1, fun j hj => ?_⟩, fun r => ?_⟩
      · show z3.1 30 j = if j = m then chA T (chT T m) m m else chT T m j
        by_cases h : j = m
        · rw [if_pos h, h]; exact g2
        · rw [if_neg h]; exact g3 j (by omega)
      · simp only [w_Sets_longestRow_4 (l2 := nI m), w_Sets_longestRow_9, w_Sets_longestRow_12, w_Sets_longestRow_15, w_Sets_longestRow_19, w_Sets_longestRow_22, c_3, f_3_0, p_3_0, f_3_1, p_3_1, f_3_2, p_3_2, f_3_3, p_3_3, f_3_4, p_3_4, f_3_5, p_3_5, f_3_6, p_3_6, f_3_7, p_3_7, f_3_8, p_3_8, f_3_9, f_3_10, f_3_11, f_3_12, f_3_13, e_7, i_7, c_25, f_25_0, f_25_1, f_25_2, f_25_3, f_25_4, f_25_5, f_25_6, f_25_7, p_25_7, e_30, i_30, Option.some.injEq, exists_eq_left', exists_eq_left, Option.toList_some, Option.toList_none, List.cons_append, List.nil_append, true_and, and_true, Option.map_some, Option.map_none, t5', hc, if_false, hx0, nI_clamp (show m < 2 ^ 31 by omega)]
        refine (e3 r).trans ?_
        simp only [w_Sets_longestRow_24 (l3 := nI m), w_Sets_longestRow_75, w_Sets_longestRow_80, w_Sets_longestRow_82, c_3, f_3_0, p_3_0, f_3_1, p_3_1, f_3_2, p_3_2, f_3_3, p_3_3, f_3_4, p_3_4, f_3_5, p_3_5, f_3_6, p_3_6, f_3_7, p_3_7, f_3_8, p_3_8, f_3_9, f_3_10, f_3_11, f_3_12, f_3_13, e_7, i_7, c_25, f_25_0, f_25_1, f_25_2, f_25_3, f_25_4, f_25_5, f_25_6, f_25_7, p_25_7, e_30, i_30, Option.some.injEq, exists_eq_left', exists_eq_left, Option.toList_some, Option.toList_none, List.cons_append, List.nil_append, true_and, and_true, Option.map_some, Option.map_none, show nI m ≤ nI m from Int32.le_refl _, if_true, e4, nI_1, chL]) (tM T) 0 (s, none) (by omega) ⟨⟨fun _ _ => rfl, rfl⟩, fun j hj => absurd hj (Nat.not_lt_zero _)⟩
  have hT9 : clsT s' 3 T := clsT_off (fun q a b => ho.1 q (by omega)) hT
  have t9 := hT9.1.2.2.2.2.2
  refine ⟨s', ho, (e _).mpr ?_⟩
  simp only [w_Sets_longestRow_4 (l2 := nI (tM T)), w_Sets_longestRow_9, w_Sets_longestRow_12, w_Sets_longestRow_92, c_3, f_3_0, p_3_0, f_3_1, p_3_1, f_3_2, p_3_2, f_3_3, p_3_3, f_3_4, p_3_4, f_3_5, p_3_5, f_3_6, p_3_6, f_3_7, p_3_7, f_3_8, p_3_8, f_3_9, f_3_10, f_3_11, f_3_12, f_3_13, e_7, i_7, c_25, f_25_0, f_25_1, f_25_2, f_25_3, f_25_4, f_25_5, f_25_6, f_25_7, p_25_7, e_30, i_30, Option.some.injEq, exists_eq_left', exists_eq_left, Option.toList_some, Option.toList_none, List.cons_append, List.nil_append, true_and, and_true, Option.map_some, Option.map_none, t9, show nI (tM T) ≤ nI (tM T) from Int32.le_refl _, if_true]
set_option maxHeartbeats 8000000 in
theorem r_chain (hd : 2 ≤ d) (hT : refT s 111 0 T) (hW : tWf T) : ∃ s', offX 120 s s' ∧ x_R (x_ev g_M P d) 274 (14, [some (.ref 110), some (.int 0), some (.int 0), none], [], mkH xs s) (some (.int (chL T (tM T))), mkH xs s') := by
  have w2 := hW.2.1
  skip
  obtain ⟨⟨s', o⟩, ⟨ho, hr⟩, e⟩ := x_upY (C := x_ev g_M P d) (k := 274) (N := tM T) (β := xS × Option Value) (R := fun m z => offX 120 s z.1 ∧ ∀ j, j < m → z.1.1 120 j = chT T m j) (F := fun m z => (14, [some (.ref 110), some (.int (chL T m)), some (.int (nI m)), z.2], [], mkH xs z.1)) (fun m zo hm hR => by
      obtain ⟨z, o⟩ := zo
      obtain ⟨ho, hr⟩ := hR
      have hc : ¬ nI (tM T) ≤ nI m := nI_ge hm (by omega)
      have hT1 : refT z 111 0 T := refT_off (ho.1 111 (by omega)) hT
      have hx0 : x_rd (z.1 120) 8 (nI m) = some (z.1 120 m) := x_rd_nI (by omega) (by omega)
      obtain ⟨z3, ⟨g1, g2, g3⟩, e3⟩ := x_upY (C := x_ev g_M P d) (k := 274) (N := m) (β := xS) (R := fun k z2 => offX 120 s z2 ∧ z2.1 120 m = chA T (chT T m) m k ∧ ∀ j, j < m → z2.1 120 j = chT T m j) (F := fun k z2 => (33, [some (.ref 110), some (.int (chL T m)), some (.int (nI m)), some (.int (nI k))], [], mkH xs z2)) (fun k z2 hk hR2 => by
        obtain ⟨g1, g2, g3⟩ := hR2
        have hc2 : ¬ nI m ≤ nI k := nI_ge hk (by omega)
        have hT2 : refT z2 111 0 T := refT_off (g1.1 111 (by omega)) hT
        have e1 : x_rd (z2.1 120) 8 (nI m) = some (chA T (chT T m) m k) := by rw [x_rd_nI (by omega) (by omega), g2]
        have e2 : x_rd (z2.1 120) 8 (nI k) = some (chT T m k) := by rw [x_rd_nI (by omega) (by omega), g3 k hk]
        refine ⟨s_p z2 120 m (chA T (chT T m) m (k + 1)), ⟨⟨fun q g => ?_, g1.2⟩, by simp [s_p], fun j hj => ?_⟩, fun r => ?_⟩
        · rw [← g1.1 q g]; funext j; simp [s_p, g]
        · rw [← g3 j hj]
          have : ¬ j = m := by omega
          simp [s_p, this]
        · simp only [w_Ref_chain_0, w_Ref_chain_4, w_Ref_chain_7, w_Ref_chain_10, w_Ref_chain_19, w_Ref_chain_21, w_Ref_chain_24, w_Ref_chain_28, w_Ref_chain_31, w_Ref_chain_38, w_Ref_chain_42, w_Ref_chain_49, w_Ref_chain_53, w_Ref_chain_57, w_Ref_chain_61, w_Ref_chain_63, w_Ref_chain_67, w_Ref_chain_69, w_Ref_chain_77, w_Ref_chain_81, w_Ref_chain_83, w_Ref_chain_84, w_Ref_chain_90, w_Ref_chain_95, w_Ref_chain_97, w_Ref_chain_107, w_Ref_chain_33 (l3 := nI k), c_110, f_110_0, p_110_0, f_110_1, f_110_2, f_110_3, f_110_4, f_110_5, p_110_5, f_110_6, f_110_7, p_110_7, f_110_8, p_110_8, f_110_9, p_110_9, f_110_10, p_110_10, f_110_11, p_110_11, f_110_12, p_110_12, f_110_13, p_110_13, f_110_14, f_110_15, f_110_16, p_110_16, f_110_17, f_110_18, p_110_18, f_110_19, p_110_19, f_110_20, f_110_21, p_110_21, f_110_22, p_110_22, f_110_23, f_110_24, f_110_25, p_110_25, f_110_26, f_110_27, f_110_28, f_110_29, f_110_30, f_110_31, p_110_31, f_110_32, p_110_32, f_110_33, p_110_33, f_110_34, p_110_34, f_110_35, f_110_36, f_110_37, f_110_38, e_111, i_111, e_120, i_120, Option.some.injEq, exists_eq_left', exists_eq_left, Option.toList_some, Option.toList_none, List.cons_append, List.nil_append, true_and, and_true, Option.map_some, Option.map_none, hc2, if_false, r_of4 (d := d) (by omega) hT2 hW hm, r_bit (d := d) (by omega), bit_1 (show k < 32 by omega), e1, e2, nI_clamp (show m < 2 ^ 31 by omega), nI_1, chA_s]
          by_cases hb : bt (tOn T m) k = true
          · simp only [hb, not_true_eq_false, if_false, if_true]
          · simp only [hb, not_false_eq_true, if_true, Bool.false_eq_true, if_false]
            skip) m 0 (s_p z 120 m 1) (by omega) ⟨⟨fun q g => by rw [← ho.1 q g]; funext j; simp [s_p, g], ho.2⟩, by simp [s_p]; rfl, fun j hj => by
          rw [← hr j hj]
          have : ¬ j = m := by omega
          simp [s_p, this]⟩
      have e4 : x_rd (z3.1 120) 8 (nI m) = some (chA T (chT T m) m m) := by rw [x_rd_nI (by omega) (by omega), g2]
      refine ⟨(z3, some (.int (nI m))), ⟨g1, fun j hj => ?_⟩, fun r => ?_⟩
      · show z3.1 120 j = if j = m then chA T (chT T m) m m else chT T m j
        by_cases h : j = m
        · rw [if_pos h, h]; exact g2
        · rw [if_neg h]; exact g3 j (by omega)
      · simp only [w_Ref_chain_14 (l2 := nI m), w_Ref_chain_19, w_Ref_chain_21, w_Ref_chain_24, w_Ref_chain_28, w_Ref_chain_31, c_110, f_110_0, p_110_0, f_110_1, f_110_2, f_110_3, f_110_4, f_110_5, p_110_5, f_110_6, f_110_7, p_110_7, f_110_8, p_110_8, f_110_9, p_110_9, f_110_10, p_110_10, f_110_11, p_110_11, f_110_12, p_110_12, f_110_13, p_110_13, f_110_14, f_110_15, f_110_16, p_110_16, f_110_17, f_110_18, p_110_18, f_110_19, p_110_19, f_110_20, f_110_21, p_110_21, f_110_22, p_110_22, f_110_23, f_110_24, f_110_25, p_110_25, f_110_26, f_110_27, f_110_28, f_110_29, f_110_30, f_110_31, p_110_31, f_110_32, p_110_32, f_110_33, p_110_33, f_110_34, p_110_34, f_110_35, f_110_36, f_110_37, f_110_38, e_111, i_111, e_120, i_120, Option.some.injEq, exists_eq_left', exists_eq_left, Option.toList_some, Option.toList_none, List.cons_append, List.nil_append, true_and, and_true, Option.map_some, Option.map_none, x_w4 hT1, hc, if_false, hx0, nI_clamp (show m < 2 ^ 31 by omega)]
        refine (e3 r).trans ?_
        simp only [w_Ref_chain_33 (l3 := nI m), w_Ref_chain_90, w_Ref_chain_95, w_Ref_chain_97, c_110, f_110_0, p_110_0, f_110_1, f_110_2, f_110_3, f_110_4, f_110_5, p_110_5, f_110_6, f_110_7, p_110_7, f_110_8, p_110_8, f_110_9, p_110_9, f_110_10, p_110_10, f_110_11, p_110_11, f_110_12, p_110_12, f_110_13, p_110_13, f_110_14, f_110_15, f_110_16, p_110_16, f_110_17, f_110_18, p_110_18, f_110_19, p_110_19, f_110_20, f_110_21, p_110_21, f_110_22, p_110_22, f_110_23, f_110_24, f_110_25, p_110_25, f_110_26, f_110_27, f_110_28, f_110_29, f_110_30, f_110_31, p_110_31, f_110_32, p_110_32, f_110_33, p_110_33, f_110_34, p_110_34, f_110_35, f_110_36, f_110_37, f_110_38, e_111, i_111, e_120, i_120, Option.some.injEq, exists_eq_left', exists_eq_left, Option.toList_some, Option.toList_none, List.cons_append, List.nil_append, true_and, and_true, Option.map_some, Option.map_none, show nI m ≤ nI m from Int32.le_refl _, if_true, e4, nI_1, chL]) (tM T) 0 (s, none) (by omega) ⟨⟨fun _ _ => rfl, rfl⟩, fun j hj => absurd hj (Nat.not_lt_zero _)⟩
  have hT9 : refT s' 111 0 T := refT_off (ho.1 111 (by omega)) hT
  refine ⟨s', ho, (e _).mpr ?_⟩
  simp only [w_Ref_chain_14 (l2 := nI (tM T)), w_Ref_chain_19, w_Ref_chain_21, w_Ref_chain_107, c_110, f_110_0, p_110_0, f_110_1, f_110_2, f_110_3, f_110_4, f_110_5, p_110_5, f_110_6, f_110_7, p_110_7, f_110_8, p_110_8, f_110_9, p_110_9, f_110_10, p_110_10, f_110_11, p_110_11, f_110_12, p_110_12, f_110_13, p_110_13, f_110_14, f_110_15, f_110_16, p_110_16, f_110_17, f_110_18, p_110_18, f_110_19, p_110_19, f_110_20, f_110_21, p_110_21, f_110_22, p_110_22, f_110_23, f_110_24, f_110_25, p_110_25, f_110_26, f_110_27, f_110_28, f_110_29, f_110_30, f_110_31, p_110_31, f_110_32, p_110_32, f_110_33, p_110_33, f_110_34, p_110_34, f_110_35, f_110_36, f_110_37, f_110_38, e_111, i_111, e_120, i_120, Option.some.injEq, exists_eq_left', exists_eq_left, Option.toList_some, Option.toList_none, List.cons_append, List.nil_append, true_and, and_true, Option.map_some, Option.map_none, x_w4 hT9, show nI (tM T) ≤ nI (tM T) from Int32.le_refl _, if_true]
end CHAIN
section CHAIN2
variable {P : Nat → List Value → Option Value} {W : Wd}
set_option maxHeartbeats 4000000 in
theorem k_chain (h : wOk W) : ask2 P 147 274 [] W := by
  obtain ⟨hK, hl60, hr, hrest⟩ := h; have hW := hK.1; have hO := aOk_run hK _ _ _ (aOk_begin hK) hr; have hAw := hO.1; have w1 := hW.1; have w2 := hW.2.1; have h9 : 9 ∈ g_SP := by decide
  by_cases h1 : tLi (wT W) ≤ 0
  · refine ⟨-2, cAsk0 ?_, rAsk0 ?_⟩
    · intro d xs s hd hC; obtain ⟨⟨hT, hA, hn, hacts⟩, -⟩ := hC
      obtain ⟨d, rfl⟩ := x_1 (d := d) (by omega)
      rw [x_ev_in rfl (Nat.le_of_ble_eq_true rfl)]
      rw [show x_ent (x_nL g_M 147) [.ref 1] = [some (.ref 1)] from rfl]
      simp only [w_Top_chain_0, w_Top_chain_4, w_Top_chain_7, w_Top_chain_10, w_Top_chain_14, w_Top_chain_17, w_Top_chain_20, w_Top_chain_22, c_1, f_1_0, f_1_1, p_1_1, f_1_2, f_1_3, f_1_4, f_1_5, f_1_6, p_1_6, f_1_7, f_1_8, f_1_9, f_1_10, f_1_11, f_1_12, f_1_13, f_1_14, c_3, f_3_0, p_3_0, f_3_1, p_3_1, f_3_2, p_3_2, f_3_3, p_3_3, f_3_4, p_3_4, f_3_5, p_3_5, f_3_6, p_3_6, f_3_7, p_3_7, f_3_8, p_3_8, f_3_9, f_3_10, f_3_11, f_3_12, f_3_13, c_9, f_9_0, f_9_1, p_9_1, f_9_2, p_9_2, f_9_3, p_9_3, f_9_4, p_9_4, f_9_5, f_9_6, Option.some.injEq, exists_eq_left', exists_eq_left, Option.toList_some, Option.toList_none, List.cons_append, List.nil_append, true_and, and_true, Option.map_some, Option.map_none, t_isTold (d := d) (by omega) hT, t_hasPerson (d := d) (by omega) hT, t_hasMatter (d := d) (by omega) hT, t_hasSet (d := d) (by omega) hT hW, t_bitOf (d := d) (by omega), t_isClosed (d := d) (by omega) hT hW, t_sumOfAll (d := d) (by omega) hT hW, s_openOnes (d := d) (by omega) h9 hT hW hA, s_wishers (d := d) (by omega) h9 hT hW hA hAw, s_allCups (d := d) (by omega) h9 hT hW hA, h1, show ¬ ((1 : Int32) = 0) by decide, not_true_eq_false, not_false_eq_true, if_true, if_false]
    · intro d xs s hd hC; obtain ⟨hR, -⟩ := hC; have hT := hR.1
      obtain ⟨d, rfl⟩ := x_1 (d := d) (by omega)
      rw [x_ev_in rfl (Nat.le_of_ble_eq_true rfl)]
      rw [show x_ent (x_nL g_M 274) [.ref 110] = [some (.ref 110), none, none, none] from rfl]
      simp only [w_Ref_chain_0, w_Ref_chain_4, w_Ref_chain_7, w_Ref_chain_10, w_Ref_chain_19, w_Ref_chain_21, w_Ref_chain_24, w_Ref_chain_28, w_Ref_chain_31, w_Ref_chain_38, w_Ref_chain_42, w_Ref_chain_49, w_Ref_chain_53, w_Ref_chain_57, w_Ref_chain_61, w_Ref_chain_63, w_Ref_chain_67, w_Ref_chain_69, w_Ref_chain_77, w_Ref_chain_81, w_Ref_chain_83, w_Ref_chain_84, w_Ref_chain_90, w_Ref_chain_95, w_Ref_chain_97, w_Ref_chain_107, c_110, f_110_0, p_110_0, f_110_1, f_110_2, f_110_3, f_110_4, f_110_5, p_110_5, f_110_6, f_110_7, p_110_7, f_110_8, p_110_8, f_110_9, p_110_9, f_110_10, p_110_10, f_110_11, p_110_11, f_110_12, p_110_12, f_110_13, p_110_13, f_110_14, f_110_15, f_110_16, p_110_16, f_110_17, f_110_18, p_110_18, f_110_19, p_110_19, f_110_20, f_110_21, p_110_21, f_110_22, p_110_22, f_110_23, f_110_24, f_110_25, p_110_25, f_110_26, f_110_27, f_110_28, f_110_29, f_110_30, f_110_31, p_110_31, f_110_32, p_110_32, f_110_33, p_110_33, f_110_34, p_110_34, f_110_35, f_110_36, f_110_37, f_110_38, Option.some.injEq, exists_eq_left', exists_eq_left, Option.toList_some, Option.toList_none, List.cons_append, List.nil_append, true_and, and_true, Option.map_some, Option.map_none, r_isTown (d := d) (by omega) hT, r_isPerson (d := d) (by omega) hT hW, r_isMatterI (d := d) (by omega) hT hW, r_isSet (d := d) (by omega) hT hW, r_allMatters (d := d) (by omega) hT hW, r_isClosed (d := d) (by omega) hT hW, r_sumOfAll (d := d) (by omega) hT hW, r_restsOf (d := d) (by omega) hT hW, r_in (d := d) (by omega), r_bit (d := d) (by omega), r_bits (d := d) (by omega), h1, show ¬ ((1 : Int32) = 0) by decide, not_true_eq_false, not_false_eq_true, if_true, if_false]
  · refine ⟨chL (wT W) (tM (wT W)), cAsk ?_, rAsk ?_⟩
    · intro d xs s hd hC; obtain ⟨⟨hT, hA, hn, hacts⟩, -⟩ := hC
      obtain ⟨d, rfl⟩ := x_1 (d := d) (by omega)
      obtain ⟨e, rfl⟩ := x_1 (d := d) (by omega)
      obtain ⟨s', q1, q2⟩ := s_longestRow (P := P) (d := e) (xs := xs) (by omega) hT hW
      have q3 : x_ev g_M P (e + 1) 44 [.ref 25] (mkH xs s) (some (.int (chL (wT W) (tM (wT W)))), mkH xs s') := by
        rw [x_ev_in rfl (Nat.le_of_ble_eq_true rfl)]
        rw [show x_ent (x_nL g_M 44) [.ref 25] = [some (.ref 25), none, none, none] from rfl]
        rw [w_Sets_longestRow_0]
        exact q2
      refine ⟨s', ?_, fun q hq => ⟨q1.1 q (by omega), by rw [q1.2]⟩⟩
      rw [x_ev_in rfl (Nat.le_of_ble_eq_true rfl)]
      rw [show x_ent (x_nL g_M 147) [.ref 1] = [some (.ref 1)] from rfl]
      simp only [w_Top_chain_0, w_Top_chain_4, w_Top_chain_7, w_Top_chain_10, w_Top_chain_14, w_Top_chain_17, w_Top_chain_20, w_Top_chain_22, c_1, f_1_0, f_1_1, p_1_1, f_1_2, f_1_3, f_1_4, f_1_5, f_1_6, p_1_6, f_1_7, f_1_8, f_1_9, f_1_10, f_1_11, f_1_12, f_1_13, f_1_14, c_3, f_3_0, p_3_0, f_3_1, p_3_1, f_3_2, p_3_2, f_3_3, p_3_3, f_3_4, p_3_4, f_3_5, p_3_5, f_3_6, p_3_6, f_3_7, p_3_7, f_3_8, p_3_8, f_3_9, f_3_10, f_3_11, f_3_12, f_3_13, c_9, f_9_0, f_9_1, p_9_1, f_9_2, p_9_2, f_9_3, p_9_3, f_9_4, p_9_4, f_9_5, f_9_6, c_25, f_25_0, f_25_1, f_25_2, f_25_3, f_25_4, f_25_5, f_25_6, f_25_7, p_25_7, Option.some.injEq, exists_eq_left', exists_eq_left, Option.toList_some, Option.toList_none, List.cons_append, List.nil_append, true_and, and_true, Option.map_some, Option.map_none, t_isTold (d := e + 1) (by omega) hT, x_ev_iff q3, h1, show ¬ ((1 : Int32) = 0) by decide, not_false_eq_true, if_true, if_false]
    · intro d xs s hd hC; obtain ⟨hR, -⟩ := hC; have hT := hR.1
      obtain ⟨d, rfl⟩ := x_1 (d := d) (by omega)
      obtain ⟨s', q1, q2⟩ := r_chain (P := P) (d := d) (xs := xs) (by omega) hT hW
      refine ⟨s', ?_, ⟨fun q a b => q1.1 q (by omega), fun k _ => by rw [q1.1 110 (by omega)], fun q _ _ => by rw [q1.2]⟩⟩
      rw [x_ev_in rfl (Nat.le_of_ble_eq_true rfl)]
      rw [show x_ent (x_nL g_M 274) [.ref 110] = [some (.ref 110), none, none, none] from rfl]
      simp only [w_Ref_chain_0, w_Ref_chain_4, w_Ref_chain_7, w_Ref_chain_10, w_Ref_chain_19, w_Ref_chain_21, w_Ref_chain_24, w_Ref_chain_28, w_Ref_chain_31, w_Ref_chain_38, w_Ref_chain_42, w_Ref_chain_49, w_Ref_chain_53, w_Ref_chain_57, w_Ref_chain_61, w_Ref_chain_63, w_Ref_chain_67, w_Ref_chain_69, w_Ref_chain_77, w_Ref_chain_81, w_Ref_chain_83, w_Ref_chain_84, w_Ref_chain_90, w_Ref_chain_95, w_Ref_chain_97, w_Ref_chain_107, c_110, f_110_0, p_110_0, f_110_1, f_110_2, f_110_3, f_110_4, f_110_5, p_110_5, f_110_6, f_110_7, p_110_7, f_110_8, p_110_8, f_110_9, p_110_9, f_110_10, p_110_10, f_110_11, p_110_11, f_110_12, p_110_12, f_110_13, p_110_13, f_110_14, f_110_15, f_110_16, p_110_16, f_110_17, f_110_18, p_110_18, f_110_19, p_110_19, f_110_20, f_110_21, p_110_21, f_110_22, p_110_22, f_110_23, f_110_24, f_110_25, p_110_25, f_110_26, f_110_27, f_110_28, f_110_29, f_110_30, f_110_31, p_110_31, f_110_32, p_110_32, f_110_33, p_110_33, f_110_34, p_110_34, f_110_35, f_110_36, f_110_37, f_110_38, Option.some.injEq, exists_eq_left', exists_eq_left, Option.toList_some, Option.toList_none, List.cons_append, List.nil_append, true_and, and_true, Option.map_some, Option.map_none, r_isTown (d := d) (by omega) hT, r_isPerson (d := d) (by omega) hT hW, r_isMatterI (d := d) (by omega) hT hW, r_isSet (d := d) (by omega) hT hW, r_allMatters (d := d) (by omega) hT hW, r_isClosed (d := d) (by omega) hT hW, r_sumOfAll (d := d) (by omega) hT hW, r_restsOf (d := d) (by omega) hT hW, r_in (d := d) (by omega), r_bit (d := d) (by omega), r_bits (d := d) (by omega), h1, show ¬ ((1 : Int32) = 0) by decide, not_false_eq_true, if_true, if_false]
      exact q2
end CHAIN2
