/-! THE READER of the reference: advance, is, takes, needs, number, told (own work) -/
section RTOK2
variable {P : Nat → List Value → Option Value} {d : Nat} {xs : List Int32} {b : Nat → Int32} {n : Nat}
set_option maxHeartbeats 4000000 in
theorem r_adv0 (hd : 2 ≤ d) {s : xS} (ht : tpR s b n) {e : Nat} (he : e ≤ n) (h7 : s.1 110 7 = nI n) (h8 : s.1 110 8 = nI e) : ∃ s', x_ev g_M P d 209 [.ref 110] (mkH xs s) (none, mkH xs s') ∧ (∀ q, q ≠ 110 → s'.1 q = s.1 q) ∧ (∀ k, k < 8 ∨ 11 < k → s'.1 110 k = s.1 110 k) ∧ s'.2 = s.2 ∧ s'.1 110 9 = nI (skT b n e) ∧ s'.1 110 8 = nI (enT b n (skT b n e)) ∧ s'.1 110 10 = nI (kdT b n (skT b n e)) ∧ (kdT b n (skT b n e) = 2 → s'.1 110 11 = nI (vR b n (skT b n e))) := by
  obtain ⟨d, rfl⟩ := x_1 (d := d) (by omega)
  obtain ⟨z, g1, g2, g3⟩ := r_ad1 (P := P) (d := d) (xs := xs) (by omega) (n - e) e s (by omega) ht h7 h8
  have hj := skT_le (b := b) he
  have g2 : z.1 110 8 = nI (skT b n e) := g2
  generalize hjj : skT b n e = j at *
  have o9 := oC_p z 110 9 (nI j)
  generalize hy : s_p z 110 9 (nI j) = y at *
  have y7 : y.1 110 7 = nI n := by rw [o9.2.1 7 (by omega), g1.2.1 7 (by omega)]; exact h7
  have y8 : y.1 110 8 = nI j := by rw [o9.2.1 8 (by omega)]; exact g2
  have y9 : y.1 110 9 = nI j := by rw [← hy]; exact s_p_v _ _ _ _
  have yo : ∀ q, q ≠ 110 → y.1 q = s.1 q := fun q hq => by rw [o9.1 q hq, g1.1 q hq]
  have yk : ∀ k, k < 8 ∨ 9 < k → y.1 110 k = s.1 110 k := fun k hk => by rw [o9.2.1 k (by omega), g1.2.1 k (by omega)]
  have yl : y.2 = s.2 := by rw [o9.2.2, g1.2.2]
  have hty : tpR y b n := ht.off (yo 114 (by omega))
  have st : ∀ r, x_ev g_M P (d + 1) 209 [.ref 110] (mkH xs s) r ↔ x_R (x_ev g_M P d) 209 (55, [some (.ref 110), none], [.int (seeT b n j)], mkH xs y) r := fun r => by
    rw [x_ev_in rfl (Nat.le_of_ble_eq_true rfl)]
    rw [show x_ent (x_nL g_M 209) [.ref 110] = [some (.ref 110), none] from rfl]
    rw [g3 r]
    simp only [w_Ref_advance_39, w_Ref_advance_44, w_Ref_advance_47, w_Ref_advance_52, c_110, f_110_0, p_110_0, f_110_1, f_110_2, f_110_3, f_110_4, f_110_5, p_110_5, f_110_6, f_110_7, p_110_7, f_110_8, p_110_8, f_110_9, p_110_9, f_110_10, p_110_10, f_110_11, p_110_11, f_110_12, p_110_12, f_110_13, p_110_13, f_110_14, f_110_15, f_110_16, p_110_16, f_110_17, f_110_18, p_110_18, f_110_19, p_110_19, f_110_20, f_110_21, p_110_21, f_110_22, p_110_22, f_110_23, f_110_24, f_110_25, p_110_25, f_110_26, f_110_27, f_110_28, f_110_29, f_110_30, f_110_31, p_110_31, f_110_32, p_110_32, f_110_33, p_110_33, f_110_34, p_110_34, f_110_35, f_110_36, f_110_37, f_110_38, Option.some.injEq, exists_eq_left', exists_eq_left, Option.toList_some, Option.toList_none, List.cons_append, List.nil_append, true_and, and_true, Option.map_some, Option.map_none, g2, hy, y8, r_see (d := d) (by omega) hty y7 hj.2]
  by_cases hjn : j < n
  · have hu := u8_1 (ht.2.2 j)
    have hs : seeT b n j = b j &&& 255 := by unfold seeT; rw [if_pos hjn]
    have st2 : ∀ r, x_R (x_ev g_M P d) 209 (55, [some (.ref 110), none], [.int (seeT b n j)], mkH xs y) r ↔ x_R (x_ev g_M P d) 209 (69, [some (.ref 110), some (.int (b j &&& 255))], [], mkH xs y) r := fun r => by
      simp only [w_Ref_advance_55, hs, hu.1.2.2.2, not_false_eq_true, if_true]
    by_cases hl : isLt (b j) = true
    · obtain ⟨u, k1, k2, k3⟩ := r_ad2 (P := P) (d := d) (xs := xs) (v := b j &&& 255) (by omega) (n - j) j y (by omega) hty y7 y8
      have o5 := oC_p u 110 10 1
      refine ⟨s_p u 110 10 1, ?_, fun q hq => by rw [o5.1 q hq, k1.1 q hq, yo q hq], fun k hk => by rw [o5.2.1 k (by omega), k1.2.1 k (by omega), yk k (by omega)], by rw [o5.2.2, k1.2.2, yl], by rw [o5.2.1 9 (by omega), k1.2.1 9 (by omega)]; exact y9, ?_, ?_, fun hk => ?_⟩
      · rw [st, st2]
        simp only [w_Ref_advance_69, w_Ref_advance_80, c_110, f_110_0, p_110_0, f_110_1, f_110_2, f_110_3, f_110_4, f_110_5, p_110_5, f_110_6, f_110_7, p_110_7, f_110_8, p_110_8, f_110_9, p_110_9, f_110_10, p_110_10, f_110_11, p_110_11, f_110_12, p_110_12, f_110_13, p_110_13, f_110_14, f_110_15, f_110_16, p_110_16, f_110_17, f_110_18, p_110_18, f_110_19, p_110_19, f_110_20, f_110_21, p_110_21, f_110_22, p_110_22, f_110_23, f_110_24, f_110_25, p_110_25, f_110_26, f_110_27, f_110_28, f_110_29, f_110_30, f_110_31, p_110_31, f_110_32, p_110_32, f_110_33, p_110_33, f_110_34, p_110_34, f_110_35, f_110_36, f_110_37, f_110_38, Option.some.injEq, exists_eq_left', exists_eq_left, Option.toList_some, Option.toList_none, List.cons_append, List.nil_append, true_and, and_true, Option.map_some, Option.map_none, r_inL (d := d) (by omega), hu.2.1, hl, b01, if_true, show ¬ ((1 : Int32) = 0) by decide, if_false]
        rw [k3]
        simp only [w_Ref_advance_117, w_Ref_advance_122, w_Ref_advance_239, c_110, f_110_0, p_110_0, f_110_1, f_110_2, f_110_3, f_110_4, f_110_5, p_110_5, f_110_6, f_110_7, p_110_7, f_110_8, p_110_8, f_110_9, p_110_9, f_110_10, p_110_10, f_110_11, p_110_11, f_110_12, p_110_12, f_110_13, p_110_13, f_110_14, f_110_15, f_110_16, p_110_16, f_110_17, f_110_18, p_110_18, f_110_19, p_110_19, f_110_20, f_110_21, p_110_21, f_110_22, p_110_22, f_110_23, f_110_24, f_110_25, p_110_25, f_110_26, f_110_27, f_110_28, f_110_29, f_110_30, f_110_31, p_110_31, f_110_32, p_110_32, f_110_33, p_110_33, f_110_34, p_110_34, f_110_35, f_110_36, f_110_37, f_110_38, Option.some.injEq, exists_eq_left', exists_eq_left, Option.toList_some, Option.toList_none, List.cons_append, List.nil_append, true_and, and_true, Option.map_some, Option.map_none]
      · rw [o5.2.1 8 (by omega), k2]
        unfold enT
        rw [if_pos hjn, if_pos hl, show n - j = (n - (j + 1)) + 1 by omega, rn, if_pos hl]
      · rw [s_p_v]; unfold kdT; rw [if_pos hjn, if_pos hl]; rfl
      · unfold kdT at hk; rw [if_pos hjn, if_pos hl] at hk; omega
    · have s125 : ∀ r, x_R (x_ev g_M P d) 209 (69, [some (.ref 110), some (.int (b j &&& 255))], [], mkH xs y) r ↔ x_R (x_ev g_M P d) 209 (125, [some (.ref 110), some (.int (b j &&& 255))], [], mkH xs y) r := fun r => by
        simp only [w_Ref_advance_69, w_Ref_advance_80, c_110, f_110_0, p_110_0, f_110_1, f_110_2, f_110_3, f_110_4, f_110_5, p_110_5, f_110_6, f_110_7, p_110_7, f_110_8, p_110_8, f_110_9, p_110_9, f_110_10, p_110_10, f_110_11, p_110_11, f_110_12, p_110_12, f_110_13, p_110_13, f_110_14, f_110_15, f_110_16, p_110_16, f_110_17, f_110_18, p_110_18, f_110_19, p_110_19, f_110_20, f_110_21, p_110_21, f_110_22, p_110_22, f_110_23, f_110_24, f_110_25, p_110_25, f_110_26, f_110_27, f_110_28, f_110_29, f_110_30, f_110_31, p_110_31, f_110_32, p_110_32, f_110_33, p_110_33, f_110_34, p_110_34, f_110_35, f_110_36, f_110_37, f_110_38, Option.some.injEq, exists_eq_left', exists_eq_left, Option.toList_some, Option.toList_none, List.cons_append, List.nil_append, true_and, and_true, Option.map_some, Option.map_none, r_inL (d := d) (by omega), hu.2.1, hl, b01, Bool.false_eq_true, if_true, if_false]
      by_cases hdg : isDg (b j) = true
      · have o11 := oC_p y 110 11 0
        obtain ⟨u, k1, k2, k3, k4⟩ := r_ad3 (P := P) (d := d) (xs := xs) (v := b j &&& 255) (by omega) (n - j) j 0 (s_p y 110 11 0) (by omega) (by omega) (hty.off (o11.1 114 (by omega))) (by rw [o11.2.1 7 (by omega)]; exact y7) (by rw [o11.2.1 8 (by omega)]; exact y8) (s_p_v _ _ _ _)
        have o5 := oC_p u 110 10 2
        have een : enT b n j = rn isDg b (n - j) j := by
          unfold enT
          rw [if_pos hjn, if_neg hl, if_pos hdg, show n - j = (n - (j + 1)) + 1 by omega, rn, if_pos hdg]
        refine ⟨s_p u 110 10 2, ?_, fun q hq => by rw [o5.1 q hq, k1.1 q hq, o11.1 q hq, yo q hq], fun k hk => by rw [o5.2.1 k (by omega), k1.2.1 k (by omega) (by omega), o11.2.1 k (by omega), yk k (by omega)], by rw [o5.2.2, k1.2.2, o11.2.2, yl], by rw [o5.2.1 9 (by omega), k1.2.1 9 (by omega) (by omega), o11.2.1 9 (by omega)]; exact y9, ?_, ?_, fun hk => ?_⟩
        · rw [st, st2, s125]
          simp only [w_Ref_advance_125, w_Ref_advance_136, w_Ref_advance_139, c_110, f_110_0, p_110_0, f_110_1, f_110_2, f_110_3, f_110_4, f_110_5, p_110_5, f_110_6, f_110_7, p_110_7, f_110_8, p_110_8, f_110_9, p_110_9, f_110_10, p_110_10, f_110_11, p_110_11, f_110_12, p_110_12, f_110_13, p_110_13, f_110_14, f_110_15, f_110_16, p_110_16, f_110_17, f_110_18, p_110_18, f_110_19, p_110_19, f_110_20, f_110_21, p_110_21, f_110_22, p_110_22, f_110_23, f_110_24, f_110_25, p_110_25, f_110_26, f_110_27, f_110_28, f_110_29, f_110_30, f_110_31, p_110_31, f_110_32, p_110_32, f_110_33, p_110_33, f_110_34, p_110_34, f_110_35, f_110_36, f_110_37, f_110_38, Option.some.injEq, exists_eq_left', exists_eq_left, Option.toList_some, Option.toList_none, List.cons_append, List.nil_append, true_and, and_true, Option.map_some, Option.map_none, r_inD (d := d) (by omega), hu.2.2.1, hdg, b01, if_true, show ¬ ((1 : Int32) = 0) by decide, if_false]
          rw [k4]
          simp only [w_Ref_advance_206, w_Ref_advance_211, w_Ref_advance_239, c_110, f_110_0, p_110_0, f_110_1, f_110_2, f_110_3, f_110_4, f_110_5, p_110_5, f_110_6, f_110_7, p_110_7, f_110_8, p_110_8, f_110_9, p_110_9, f_110_10, p_110_10, f_110_11, p_110_11, f_110_12, p_110_12, f_110_13, p_110_13, f_110_14, f_110_15, f_110_16, p_110_16, f_110_17, f_110_18, p_110_18, f_110_19, p_110_19, f_110_20, f_110_21, p_110_21, f_110_22, p_110_22, f_110_23, f_110_24, f_110_25, p_110_25, f_110_26, f_110_27, f_110_28, f_110_29, f_110_30, f_110_31, p_110_31, f_110_32, p_110_32, f_110_33, p_110_33, f_110_34, p_110_34, f_110_35, f_110_36, f_110_37, f_110_38, Option.some.injEq, exists_eq_left', exists_eq_left, Option.toList_some, Option.toList_none, List.cons_append, List.nil_append, true_and, and_true, Option.map_some, Option.map_none]
        · rw [o5.2.1 8 (by omega), k2, een]
        · rw [s_p_v]; unfold kdT; rw [if_pos hjn, if_neg hl, if_pos hdg]; rfl
        · rw [o5.2.1 11 (by omega), k3]; unfold vR; rw [een]
      · have s214 : ∀ r, x_R (x_ev g_M P d) 209 (125, [some (.ref 110), some (.int (b j &&& 255))], [], mkH xs y) r ↔ x_R (x_ev g_M P d) 209 (214, [some (.ref 110), some (.int (b j &&& 255))], [], mkH xs y) r := fun r => by
          simp only [w_Ref_advance_125, w_Ref_advance_136, c_110, f_110_0, p_110_0, f_110_1, f_110_2, f_110_3, f_110_4, f_110_5, p_110_5, f_110_6, f_110_7, p_110_7, f_110_8, p_110_8, f_110_9, p_110_9, f_110_10, p_110_10, f_110_11, p_110_11, f_110_12, p_110_12, f_110_13, p_110_13, f_110_14, f_110_15, f_110_16, p_110_16, f_110_17, f_110_18, p_110_18, f_110_19, p_110_19, f_110_20, f_110_21, p_110_21, f_110_22, p_110_22, f_110_23, f_110_24, f_110_25, p_110_25, f_110_26, f_110_27, f_110_28, f_110_29, f_110_30, f_110_31, p_110_31, f_110_32, p_110_32, f_110_33, p_110_33, f_110_34, p_110_34, f_110_35, f_110_36, f_110_37, f_110_38, Option.some.injEq, exists_eq_left', exists_eq_left, Option.toList_some, Option.toList_none, List.cons_append, List.nil_append, true_and, and_true, Option.map_some, Option.map_none, r_inD (d := d) (by omega), hu.2.2.1, hdg, b01, Bool.false_eq_true, if_true, if_false]
        have fin : ∀ v : Int32, v = nI (kdT b n j) → v ≠ 2 → (∀ r, x_R (x_ev g_M P d) 209 (214, [some (.ref 110), some (.int (b j &&& 255))], [], mkH xs y) r ↔ x_R (x_ev g_M P d) 209 (226, [some (.ref 110), some (.int (b j &&& 255))], [.int v, .ref 110], mkH xs y) r) → ∃ s', x_ev g_M P (d + 1) 209 [.ref 110] (mkH xs s) (none, mkH xs s') ∧ (∀ q, q ≠ 110 → s'.1 q = s.1 q) ∧ (∀ k, k < 8 ∨ 11 < k → s'.1 110 k = s.1 110 k) ∧ s'.2 = s.2 ∧ s'.1 110 9 = nI j ∧ s'.1 110 8 = nI (enT b n j) ∧ s'.1 110 10 = nI (kdT b n j) ∧ (kdT b n j = 2 → s'.1 110 11 = nI (vR b n j)) := fun v hv hv2 hst => by
          have o5 := oC_p y 110 10 v
          have o6 := oC_p (s_p y 110 10 v) 110 8 (nI (j + 1))
          have e8 : (s_p y 110 10 v).1 110 8 = nI j := by rw [o5.2.1 8 (by omega)]; exact y8
          refine ⟨s_p (s_p y 110 10 v) 110 8 (nI (j + 1)), ?_, fun q hq => by rw [o6.1 q hq, o5.1 q hq, yo q hq], fun k hk => by rw [o6.2.1 k (by omega), o5.2.1 k (by omega), yk k (by omega)], by rw [o6.2.2, o5.2.2, yl], by rw [o6.2.1 9 (by omega), o5.2.1 9 (by omega)]; exact y9, ?_, by rw [o6.2.1 10 (by omega), s_p_v, hv], fun hk => ?_⟩
          · rw [st, st2, s125, s214, hst]
            simp only [w_Ref_advance_226, w_Ref_advance_229, w_Ref_advance_234, w_Ref_advance_239, c_110, f_110_0, p_110_0, f_110_1, f_110_2, f_110_3, f_110_4, f_110_5, p_110_5, f_110_6, f_110_7, p_110_7, f_110_8, p_110_8, f_110_9, p_110_9, f_110_10, p_110_10, f_110_11, p_110_11, f_110_12, p_110_12, f_110_13, p_110_13, f_110_14, f_110_15, f_110_16, p_110_16, f_110_17, f_110_18, p_110_18, f_110_19, p_110_19, f_110_20, f_110_21, p_110_21, f_110_22, p_110_22, f_110_23, f_110_24, f_110_25, p_110_25, f_110_26, f_110_27, f_110_28, f_110_29, f_110_30, f_110_31, p_110_31, f_110_32, p_110_32, f_110_33, p_110_33, f_110_34, p_110_34, f_110_35, f_110_36, f_110_37, f_110_38, Option.some.injEq, exists_eq_left', exists_eq_left, Option.toList_some, Option.toList_none, List.cons_append, List.nil_append, true_and, and_true, Option.map_some, Option.map_none, e8, nI_1]
          · rw [s_p_v]; unfold enT; rw [if_pos hjn, if_neg hl, if_neg hdg]
          · exact absurd (by rw [hv, hk]; rfl) hv2
        by_cases h59 : b j = 59
        · refine fin 3 (by unfold kdT; rw [if_pos hjn, if_neg hl, if_neg hdg, if_pos h59]; rfl) (by decide) (fun r => ?_)
          simp only [w_Ref_advance_214, w_Ref_advance_221, hu.1.2.2.1.mpr h59, not_true_eq_false, if_false]
        · refine fin 4 (by unfold kdT; rw [if_pos hjn, if_neg hl, if_neg hdg, if_neg h59]; rfl) (by decide) (fun r => ?_)
          have h59' : ¬ b j &&& 255 = 59 := fun z => h59 (hu.1.2.2.1.mp z)
          simp only [w_Ref_advance_214, w_Ref_advance_225, h59', not_false_eq_true, if_true]
  · have hs : seeT b n j = -1 := by unfold seeT; rw [if_neg hjn]
    have o5 := oC_p y 110 10 0
    refine ⟨s_p y 110 10 0, ?_, fun q hq => by rw [o5.1 q hq, yo q hq], fun k hk => by rw [o5.2.1 k (by omega), yk k (by omega)], by rw [o5.2.2, yl], by rw [o5.2.1 9 (by omega)]; exact y9, ?_, by rw [s_p_v, kdT_0 hjn]; rfl, fun hk => by rw [kdT_0 hjn] at hk; omega⟩
    · rw [st]
      simp only [w_Ref_advance_55, w_Ref_advance_61, w_Ref_advance_66, w_Ref_advance_239, hs, not_true_eq_false, if_false, c_110, f_110_0, p_110_0, f_110_1, f_110_2, f_110_3, f_110_4, f_110_5, p_110_5, f_110_6, f_110_7, p_110_7, f_110_8, p_110_8, f_110_9, p_110_9, f_110_10, p_110_10, f_110_11, p_110_11, f_110_12, p_110_12, f_110_13, p_110_13, f_110_14, f_110_15, f_110_16, p_110_16, f_110_17, f_110_18, p_110_18, f_110_19, p_110_19, f_110_20, f_110_21, p_110_21, f_110_22, p_110_22, f_110_23, f_110_24, f_110_25, p_110_25, f_110_26, f_110_27, f_110_28, f_110_29, f_110_30, f_110_31, p_110_31, f_110_32, p_110_32, f_110_33, p_110_33, f_110_34, p_110_34, f_110_35, f_110_36, f_110_37, f_110_38, Option.some.injEq, exists_eq_left', exists_eq_left, Option.toList_some, Option.toList_none, List.cons_append, List.nil_append, true_and, and_true, Option.map_some, Option.map_none]
    · rw [o5.2.1 8 (by omega), y8]; unfold enT; rw [if_neg hjn]
theorem r_advance (hd : 2 ≤ d) {s : xS} (ht : tpR s b n) {t : Tk} (hi : t.1 ≤ n) (h : tkR s b n t) : ∃ s', x_ev g_M P d 209 [.ref 110] (mkH xs s) (none, mkH xs s') ∧ offU s s' ∧ tkR s' b n (nxT b n t.1, t.2) := by
  obtain ⟨a1, a2, a3, a4, a5, a6, a7⟩ := h
  obtain ⟨s', q1, q2, q3, q4, q5, q6, q7, q8⟩ := r_adv0 (P := P) (xs := xs) hd ht (enT_le (b := b) hi).2 a1 a2
  refine ⟨s', q1, ⟨q2, fun k hk => q3 k (by omega), q4⟩, ?_, q6, q5, q7, q8, ?_, ?_⟩
  · rw [q3 7 (by omega)]; exact a1
  · rw [q3 12 (by omega)]; exact a6
  · rw [q3 13 (by omega)]; exact a7
end RTOK2
