/-! drawn, luck: the reference, and what both answer (own work) -/
section YEARSR
variable {P : Nat → List Value → Option Value} {d : Nat} {xs : List Int32} {T : Tw} {A : As}
set_option maxHeartbeats 4000000 in
theorem ry_act (hd : 7 ≤ d) (hK : tOk T) {s : xS} (hT : refT s 111 0 T) (hA : refS s T A) (hO : aOk T A) {p : Nat} (hp : p < tP T) : ∃ s', x_ev g_M P d 325 [.ref 110, .int (nI p), .int 0] (mkH xs s) (none, mkH xs s') ∧ offR s s' ∧ refS s' T (gdS T A p) := by
  have hW := hK.1
  have w1 := hW.1
  have w2 := hW.2.1
  obtain ⟨d, rfl⟩ := x_1 (d := d) (by omega)
  have hst : ∀ m, m < tM T → gdB T A p m = false → ∀ r, (x_R (x_ev g_M P d) 325 (23, [some (.ref 110), some (.int (nI p)), some (.int 0), some (.int (nI m))], [], mkH xs s) r ↔ x_R (x_ev g_M P d) 325 (23, [some (.ref 110), some (.int (nI p)), some (.int 0), some (.int (nI (m + 1)))], [], mkH xs s) r) := by
    intro m hm hf r
    have hc : ¬ nI (tM T) ≤ nI m := nI_ge hm (by omega)
    have ho : tOth T p m < tP T := tOth_lt hW hm
    have e1 : 0 < tGain T p m ↔ ¬ tGain T p m ≤ 0 := Int32.not_le.symm
    simp only [w_Ref_act__0, w_Ref_act__4, w_Ref_act__9, w_Ref_act__15, w_Ref_act__20, w_Ref_act__21, w_Ref_act__28, w_Ref_act__30, w_Ref_act__33, w_Ref_act__39, w_Ref_act__42, w_Ref_act__47, w_Ref_act__50, w_Ref_act__56, w_Ref_act__59, w_Ref_act__66, w_Ref_act__70, w_Ref_act__73, w_Ref_act__76, w_Ref_act__81, w_Ref_act__82, w_Ref_act__88, w_Ref_act__23 (l3 := nI m), c_110, f_110_0, p_110_0, f_110_1, f_110_2, f_110_3, f_110_4, f_110_5, p_110_5, f_110_6, f_110_7, p_110_7, f_110_8, p_110_8, f_110_9, p_110_9, f_110_10, p_110_10, f_110_11, p_110_11, f_110_12, p_110_12, f_110_13, p_110_13, f_110_14, f_110_15, f_110_16, p_110_16, f_110_17, f_110_18, p_110_18, f_110_19, p_110_19, f_110_20, f_110_21, p_110_21, f_110_22, p_110_22, f_110_23, f_110_24, f_110_25, p_110_25, f_110_26, f_110_27, f_110_28, f_110_29, f_110_30, f_110_31, p_110_31, f_110_32, p_110_32, f_110_33, p_110_33, f_110_34, p_110_34, f_110_35, f_110_36, f_110_37, f_110_38, e_111, i_111, Option.some.injEq, exists_eq_left', exists_eq_left, Option.toList_some, Option.toList_none, List.cons_append, List.nil_append, true_and, and_true, Option.map_some, Option.map_none, x_w4 hT, hc, if_false, r_isParty (d := d) (by omega) hT hW hp hm, r_isOpen (d := d) (by omega) hT hW hA hO.1 hm, r_gainOf (d := d) (by omega) hT hW hp hm, r_otherOf (d := d) (by omega) hT hW hp hm, r_gainOf (d := d) (by omega) hT hW ho hm, nI_1]
    unfold gdB at hf
    by_cases h1 : tIs T p m = true
    · by_cases h2 : tOpen T (msk A.1) m = true
      · by_cases h3 : tGain T p m ≤ 0
        · simp only [h1, h2, h3, b01, if_true, show ¬ ((1 : Int32) = 0) by decide, if_false]
        · have h4 : ¬ 0 ≤ tGain T (tOth T p m) m := by
            rw [h1, h2, Bool.true_and, Bool.true_and, decide_eq_true (e1.mpr h3), Bool.true_and] at hf
            exact of_decide_eq_false hf
          simp only [h1, h2, h3, h4, b01, if_true, show ¬ ((1 : Int32) = 0) by decide, if_false]
      · simp only [h1, h2, b01, if_true, show ¬ ((1 : Int32) = 0) by decide, if_false, Bool.false_eq_true]
    · simp only [h1, b01, if_true, if_false, Bool.false_eq_true]
  cases hf : frst (fun m => gdB T A p m) 0 (tM T) with
  | none =>
    refine ⟨s, ?_, offR.rf, by rw [gdS_n hf]; exact hA⟩
    have hn := frst_none hf
    rw [x_ev_in rfl (Nat.le_of_ble_eq_true rfl)]
    rw [show x_ent (x_nL g_M 325) [.ref 110, .int (nI p), .int 0] = [some (.ref 110), some (.int (nI p)), some (.int 0), none] from rfl]
    simp only [w_Ref_act__0, w_Ref_act__21, if_true]
    refine (x_up (C := x_ev g_M P d) (k := 325) (N := tM T) (F := fun m => (23, [some (.ref 110), some (.int (nI p)), some (.int 0), some (.int (nI m))], [], mkH xs s)) (fun m hm => hst m hm (hn m (by omega) (by omega)) _) 0 (Nat.zero_le _)).mpr ?_
    simp only [w_Ref_act__0, w_Ref_act__4, w_Ref_act__9, w_Ref_act__15, w_Ref_act__20, w_Ref_act__21, w_Ref_act__28, w_Ref_act__30, w_Ref_act__33, w_Ref_act__39, w_Ref_act__42, w_Ref_act__47, w_Ref_act__50, w_Ref_act__56, w_Ref_act__59, w_Ref_act__66, w_Ref_act__70, w_Ref_act__73, w_Ref_act__76, w_Ref_act__81, w_Ref_act__82, w_Ref_act__88, w_Ref_act__23 (l3 := nI (tM T)), c_110, f_110_0, p_110_0, f_110_1, f_110_2, f_110_3, f_110_4, f_110_5, p_110_5, f_110_6, f_110_7, p_110_7, f_110_8, p_110_8, f_110_9, p_110_9, f_110_10, p_110_10, f_110_11, p_110_11, f_110_12, p_110_12, f_110_13, p_110_13, f_110_14, f_110_15, f_110_16, p_110_16, f_110_17, f_110_18, p_110_18, f_110_19, p_110_19, f_110_20, f_110_21, p_110_21, f_110_22, p_110_22, f_110_23, f_110_24, f_110_25, p_110_25, f_110_26, f_110_27, f_110_28, f_110_29, f_110_30, f_110_31, p_110_31, f_110_32, p_110_32, f_110_33, p_110_33, f_110_34, p_110_34, f_110_35, f_110_36, f_110_37, f_110_38, e_111, i_111, Option.some.injEq, exists_eq_left', exists_eq_left, Option.toList_some, Option.toList_none, List.cons_append, List.nil_append, true_and, and_true, Option.map_some, Option.map_none, x_w4 hT, show nI (tM T) ≤ nI (tM T) from Int32.le_refl _, if_true]
  | some m =>
    obtain ⟨-, f2, f3, f4⟩ := frst_some hf
    have hm : m < tM T := by omega
    have hop := gdB_o f3
    obtain ⟨s1, q1, q2, q3⟩ := r_settle0 (P := P) (d := d) (xs := xs) (by omega) hA (m := m) (tOpen_out hW hO.1 hm hop).2
    refine ⟨s1, ?_, q2, by rw [gdS_s hf]; exact q3⟩
    rw [x_ev_in rfl (Nat.le_of_ble_eq_true rfl)]
    rw [show x_ent (x_nL g_M 325) [.ref 110, .int (nI p), .int 0] = [some (.ref 110), some (.int (nI p)), some (.int 0), none] from rfl]
    simp only [w_Ref_act__0, w_Ref_act__21, if_true]
    have hup : ∀ n, n ≤ m → (x_R (x_ev g_M P d) 325 (23, [some (.ref 110), some (.int (nI p)), some (.int 0), some (.int (nI n))], [], mkH xs s) (none, mkH xs s1) ↔ x_R (x_ev g_M P d) 325 (23, [some (.ref 110), some (.int (nI p)), some (.int 0), some (.int (nI m))], [], mkH xs s) (none, mkH xs s1)) := x_up (N := m) (F := fun m => (23, [some (.ref 110), some (.int (nI p)), some (.int 0), some (.int (nI m))], [], mkH xs s)) (fun n hn => hst n (by omega) (f4 n (by omega) hn) _)
    refine (hup 0 (Nat.zero_le _)).mpr ?_
    have hc : ¬ nI (tM T) ≤ nI m := nI_ge hm (by omega)
    have ho : tOth T p m < tP T := tOth_lt hW hm
    have f5 := f3
    unfold gdB at f5
    simp only [Bool.and_eq_true, decide_eq_true_eq] at f5
    have h3 : ¬ tGain T p m ≤ 0 := Int32.not_le.mpr f5.2.2.1
    simp only [w_Ref_act__0, w_Ref_act__4, w_Ref_act__9, w_Ref_act__15, w_Ref_act__20, w_Ref_act__21, w_Ref_act__28, w_Ref_act__30, w_Ref_act__33, w_Ref_act__39, w_Ref_act__42, w_Ref_act__47, w_Ref_act__50, w_Ref_act__56, w_Ref_act__59, w_Ref_act__66, w_Ref_act__70, w_Ref_act__73, w_Ref_act__76, w_Ref_act__81, w_Ref_act__82, w_Ref_act__88, w_Ref_act__23 (l3 := nI m), c_110, f_110_0, p_110_0, f_110_1, f_110_2, f_110_3, f_110_4, f_110_5, p_110_5, f_110_6, f_110_7, p_110_7, f_110_8, p_110_8, f_110_9, p_110_9, f_110_10, p_110_10, f_110_11, p_110_11, f_110_12, p_110_12, f_110_13, p_110_13, f_110_14, f_110_15, f_110_16, p_110_16, f_110_17, f_110_18, p_110_18, f_110_19, p_110_19, f_110_20, f_110_21, p_110_21, f_110_22, p_110_22, f_110_23, f_110_24, f_110_25, p_110_25, f_110_26, f_110_27, f_110_28, f_110_29, f_110_30, f_110_31, p_110_31, f_110_32, p_110_32, f_110_33, p_110_33, f_110_34, p_110_34, f_110_35, f_110_36, f_110_37, f_110_38, e_111, i_111, Option.some.injEq, exists_eq_left', exists_eq_left, Option.toList_some, Option.toList_none, List.cons_append, List.nil_append, true_and, and_true, Option.map_some, Option.map_none, x_w4 hT, hc, if_false, r_isParty (d := d) (by omega) hT hW hp hm, r_isOpen (d := d) (by omega) hT hW hA hO.1 hm, r_gainOf (d := d) (by omega) hT hW hp hm, r_otherOf (d := d) (by omega) hT hW hp hm, r_gainOf (d := d) (by omega) hT hW ho hm, f5.1, hop, h3, f5.2.2.2, b01, if_true, show ¬ ((1 : Int32) = 0) by decide, x_ev_iff q1]
theorem refY_to {s s' : xS} {Y : Yr} {A' : As} (h : offR s s') (hY : refY s T Y) (hA : refS s' T A') : refY s' T (A', Y.2) := by
  obtain ⟨v1, v2, v3⟩ := h.v
  exact ⟨hA, v1.trans hY.2.1, v2.trans hY.2.2.1, v3.trans hY.2.2.2⟩
set_option maxHeartbeats 8000000 in
theorem ry_goL (hd : 9 ≤ d) (hK : tOk T) (hP : 0 < tP T) {seed : Int64} {n : Nat} (hn : n ≤ 60) : ∀ (k i : Nat) (s : xS) (Y : Yr) (o : Option Value), i + k = n → refT s 111 0 T → refY s T Y → yOk T Y → ∃ s', x_R (x_ev g_M P d) 326 (22, [some (.ref 110), some (.long seed), none, some (.int (nI n)), some (.int (nI i)), o], [], mkH xs s) (none, mkH xs s') ∧ offW s s' ∧ refY s' T (yI T k Y) := by
  have hW := hK.1
  have w1 := hW.1
  intro k
  induction k with
  | zero =>
    intro i s Y o hi hT hY hO
    obtain rfl : i = n := by omega
    refine ⟨s, ?_, offW.rf, hY⟩
    simp only [w_Ref_goYears_0, w_Ref_goYears_5, w_Ref_goYears_10, w_Ref_goYears_15, w_Ref_goYears_19, w_Ref_goYears_28, w_Ref_goYears_32, w_Ref_goYears_38, w_Ref_goYears_42, w_Ref_goYears_44, w_Ref_goYears_47, w_Ref_goYears_52, w_Ref_goYears_57, w_Ref_goYears_60, w_Ref_goYears_65, w_Ref_goYears_67, w_Ref_goYears_70, w_Ref_goYears_81, w_Ref_goYears_84, w_Ref_goYears_90, w_Ref_goYears_22 (l4 := nI i), show nI i ≤ nI i from Int32.le_refl _, if_true]
  | succ k ih =>
    intro i s Y o hi hT hY hO
    have hc : ¬ nI n ≤ nI i := nI_ge (by omega) (by omega)
    obtain ⟨s1, q1, q2, q3⟩ := r_day0 (P := P) (d := d) (xs := xs) (by omega) hT hY.1
    have hT1 := q2.T hT
    have hY1 := refY_to q2 hY q3
    have dr1 := ry_draw (P := P) (d := d) (xs := xs) (by omega) hY1.2.1 hO.2 (e := 100) (by omega) (by omega)
    rw [show nI 100 = 100 from rfl] at dr1
    have o2 : offW s (s_l s1 110 32 (lN (xN Y.2.1))) := q2.W.tr ⟨fun _ _ _ _ => rfl, fun _ _ => rfl, fun q hq => s_l_o.2 q hq⟩
    have hT2 : refT (s_l s1 110 32 (lN (xN Y.2.1))) 111 0 T := hT1
    have hx2 : x_rd ((s_l s1 110 32 (lN (xN Y.2.1))).1 111) 135 2 = some (tFr T) := by rw [show (2 : Int32) = nI 2 from rfl, x_rd_nI (by omega) (by omega)]; exact congrArg some hT2.1.2.2.1
    have hnext : ∀ (s' : xS) (Y' : Yr) (o' : Option Value), yD T Y = Y' → offW s s' → refY s' T Y' → (∀ r, x_R (x_ev g_M P d) 326 (22, [some (.ref 110), some (.long seed), none, some (.int (nI n)), some (.int (nI i)), o], [], mkH xs s) r ↔ x_R (x_ev g_M P d) 326 (22, [some (.ref 110), some (.long seed), none, some (.int (nI n)), some (.int (nI (i + 1))), o'], [], mkH xs s') r) → ∃ s', x_R (x_ev g_M P d) 326 (22, [some (.ref 110), some (.long seed), none, some (.int (nI n)), some (.int (nI i)), o], [], mkH xs s) (none, mkH xs s') ∧ offW s s' ∧ refY s' T (yI T (k + 1) Y) := by
      intro s' Y' o' he ho hY' hgo
      subst he
      obtain ⟨s2, z1, z2, z3⟩ := ih (i + 1) s' (yD T Y) o' (by omega) (refT_off (ho.1 111 (by omega) (by omega) (by omega)) hT) hY' (yD_ok hK hP hO)
      exact ⟨s2, (hgo _).mpr z1, ho.tr z2, z3⟩
    by_cases hf : nI (xN Y.2.1 / 65536 % 100) < tFr T
    · have hf' : ¬ tFr T ≤ nI (xN Y.2.1 / 65536 % 100) := Int32.not_le.mpr hf
      have e34 : (s_l s1 110 32 (lN (xN Y.2.1))).1 110 34 = nI Y.2.2.2 := hY1.2.2.2
      refine hnext (s_p (s_l s1 110 32 (lN (xN Y.2.1))) 110 34 (nI (Y.2.2.2 + 1))) (aDay T Y.1, xN Y.2.1, Y.2.2.1, Y.2.2.2 + 1) o (by unfold yD; rw [if_pos hf]) (o2.tr ⟨fun q a _ _ => s_p_o.1 q a, fun j hj => by
        have : ¬ j = 34 := by omega
        simp [s_p, this], fun _ _ => rfl⟩) ⟨refS_to (fun j hj => by
        have : ¬ j = 34 := by omega
        simp [s_p, this, s_l]) (s_p_o.1 117 (by omega)) (s_p_o.1 118 (by omega)) q3, ?_, ?_, ?_⟩ (fun r => ?_)
      · show (s_l s1 110 32 (lN (xN Y.2.1))).2 110 32 = _
        simp [s_l]
      · show (s_p (s_l s1 110 32 (lN (xN Y.2.1))) 110 34 (nI (Y.2.2.2 + 1))).1 110 33 = nI Y.2.2.1
        rw [← hY1.2.2.1]
        simp [s_p, s_l]
      · simp [s_p]
      · simp only [w_Ref_goYears_0, w_Ref_goYears_5, w_Ref_goYears_10, w_Ref_goYears_15, w_Ref_goYears_19, w_Ref_goYears_28, w_Ref_goYears_32, w_Ref_goYears_38, w_Ref_goYears_42, w_Ref_goYears_44, w_Ref_goYears_47, w_Ref_goYears_52, w_Ref_goYears_57, w_Ref_goYears_60, w_Ref_goYears_65, w_Ref_goYears_67, w_Ref_goYears_70, w_Ref_goYears_81, w_Ref_goYears_84, w_Ref_goYears_90, w_Ref_goYears_22 (l4 := nI i), hc, if_false, c_110, f_110_0, p_110_0, f_110_1, f_110_2, f_110_3, f_110_4, f_110_5, p_110_5, f_110_6, f_110_7, p_110_7, f_110_8, p_110_8, f_110_9, p_110_9, f_110_10, p_110_10, f_110_11, p_110_11, f_110_12, p_110_12, f_110_13, p_110_13, f_110_14, f_110_15, f_110_16, p_110_16, f_110_17, f_110_18, p_110_18, f_110_19, p_110_19, f_110_20, f_110_21, p_110_21, f_110_22, p_110_22, f_110_23, f_110_24, f_110_25, p_110_25, f_110_26, f_110_27, f_110_28, f_110_29, f_110_30, f_110_31, p_110_31, f_110_32, p_110_32, f_110_33, p_110_33, f_110_34, p_110_34, f_110_35, f_110_36, f_110_37, f_110_38, e_111, i_111, Option.some.injEq, exists_eq_left', exists_eq_left, Option.toList_some, Option.toList_none, List.cons_append, List.nil_append, true_and, and_true, Option.map_some, Option.map_none, x_ev_iff q1, x_ev_iff dr1, hx2, hf', e34, nI_1]
    · have hf' : tFr T ≤ nI (xN Y.2.1 / 65536 % 100) := Int32.not_lt.mp hf
      have x2 : (s_l s1 110 32 (lN (xN Y.2.1))).2 110 32 = lN (xN Y.2.1) := by simp [s_l]
      have dr2 := ry_draw (P := P) (d := d) (xs := xs) (by omega) x2 (xN_lt _) (e := tP T) hP (by omega)
      have hp : xN (xN Y.2.1) / 65536 % tP T < tP T := Nat.mod_lt _ hP
      have o3 : offW s (s_l (s_l s1 110 32 (lN (xN Y.2.1))) 110 32 (lN (xN (xN Y.2.1)))) := o2.tr ⟨fun _ _ _ _ => rfl, fun _ _ => rfl, fun q hq => s_l_o.2 q hq⟩
      have hy : yD T Y = if aWil T (aDay T Y.1) (xN (xN Y.2.1) / 65536 % tP T) = true then (aft T (aDay T Y.1) (xN (xN Y.2.1) / 65536 % tP T), xN (xN Y.2.1), Y.2.2.1 + 1, Y.2.2.2)
          else (gdS T (aDay T Y.1) (xN (xN Y.2.1) / 65536 % tP T), xN (xN Y.2.1), Y.2.2.1, Y.2.2.2) := by
        unfold yD
        rw [if_neg hf]
      have hz2 : (s_l (s_l s1 110 32 (lN (xN Y.2.1))) 110 32 (lN (xN (xN Y.2.1)))).2 110 32 = lN (xN (xN Y.2.1)) := by simp [s_l]
      have hYz : refY (s_l (s_l s1 110 32 (lN (xN Y.2.1))) 110 32 (lN (xN (xN Y.2.1)))) T (aDay T Y.1, xN (xN Y.2.1), Y.2.2.1, Y.2.2.2) := ⟨q3, hz2, hY1.2.2.1, hY1.2.2.2⟩
      have hTz : refT (s_l (s_l s1 110 32 (lN (xN Y.2.1))) 110 32 (lN (xN (xN Y.2.1)))) 111 0 T := hT1
      generalize hpp : xN (xN Y.2.1) / 65536 % tP T = p at *
      generalize hz : s_l (s_l s1 110 32 (lN (xN Y.2.1))) 110 32 (lN (xN (xN Y.2.1))) = z at *
      have hOz := aOk_day hK hO.1
      by_cases hw : aWil T (aDay T Y.1) p = true
      · rw [if_pos hw] at hy
        obtain ⟨s4, v, u1, u2, u3⟩ := r_sip (P := P) (d := d) (xs := xs) (by omega) hK hTz hYz.1 hOz hp (aWil_why hw)
        have hY4 := refY_to u2 hYz u3
        have ua : x_ev g_M P d 325 [.ref 110, .int (nI p), .int 1] (mkH xs z) (none, mkH xs (s_p s4 110 33 (nI (Y.2.2.1 + 1)))) := by
          obtain ⟨d, rfl⟩ := x_1 (d := d) (by omega)
          obtain ⟨s5, v5, w1', w2', w3'⟩ := r_sip (P := P) (d := d) (xs := xs) (by omega) hK hTz hYz.1 hOz hp (aWil_why hw)
          have hh := x_ev_up _ _ _ _ _ w1'
          have e5 := x_ev_det (d + 1) _ _ _ _ _ hh u1
          have e5' : mkH xs s5 = mkH xs s4 := congrArg Prod.snd e5
          have e33 : s4.1 110 33 = nI Y.2.2.1 := hY4.2.2.1
          rw [x_ev_in rfl (Nat.le_of_ble_eq_true rfl)]
          rw [show x_ent (x_nL g_M 325) [.ref 110, .int (nI p), .int 1] = [some (.ref 110), some (.int (nI p)), some (.int 1), none] from rfl]
          simp only [w_Ref_act__0, w_Ref_act__4, w_Ref_act__9, w_Ref_act__15, w_Ref_act__20, w_Ref_act__21, w_Ref_act__28, w_Ref_act__30, w_Ref_act__33, w_Ref_act__39, w_Ref_act__42, w_Ref_act__47, w_Ref_act__50, w_Ref_act__56, w_Ref_act__59, w_Ref_act__66, w_Ref_act__70, w_Ref_act__73, w_Ref_act__76, w_Ref_act__81, w_Ref_act__82, w_Ref_act__88, c_110, f_110_0, p_110_0, f_110_1, f_110_2, f_110_3, f_110_4, f_110_5, p_110_5, f_110_6, f_110_7, p_110_7, f_110_8, p_110_8, f_110_9, p_110_9, f_110_10, p_110_10, f_110_11, p_110_11, f_110_12, p_110_12, f_110_13, p_110_13, f_110_14, f_110_15, f_110_16, p_110_16, f_110_17, f_110_18, p_110_18, f_110_19, p_110_19, f_110_20, f_110_21, p_110_21, f_110_22, p_110_22, f_110_23, f_110_24, f_110_25, p_110_25, f_110_26, f_110_27, f_110_28, f_110_29, f_110_30, f_110_31, p_110_31, f_110_32, p_110_32, f_110_33, p_110_33, f_110_34, p_110_34, f_110_35, f_110_36, f_110_37, f_110_38, Option.some.injEq, exists_eq_left', exists_eq_left, Option.toList_some, Option.toList_none, List.cons_append, List.nil_append, true_and, and_true, Option.map_some, Option.map_none, show ¬ ((1 : Int32) = 0) by decide, if_false, x_ev_iff w1', e5', e33, nI_1]
        refine hnext (s_p s4 110 33 (nI (Y.2.2.1 + 1))) _ (some (.int (nI p))) hy ((o3.tr u2.W).tr ⟨fun q a _ _ => s_p_o.1 q a, fun j hj => by
          have : ¬ j = 33 := by omega
          simp [s_p, this], fun _ _ => rfl⟩) ⟨refS_to (fun j hj => by
          have : ¬ j = 33 := by omega
          simp [s_p, this]) (s_p_o.1 117 (by omega)) (s_p_o.1 118 (by omega)) u3, hY4.2.1, by simp [s_p], ?_⟩ (fun r => ?_)
        · show (s_p s4 110 33 (nI (Y.2.2.1 + 1))).1 110 34 = nI Y.2.2.2
          rw [← hY4.2.2.2]
          simp [s_p]
        · simp only [w_Ref_goYears_0, w_Ref_goYears_5, w_Ref_goYears_10, w_Ref_goYears_15, w_Ref_goYears_19, w_Ref_goYears_28, w_Ref_goYears_32, w_Ref_goYears_38, w_Ref_goYears_42, w_Ref_goYears_44, w_Ref_goYears_47, w_Ref_goYears_52, w_Ref_goYears_57, w_Ref_goYears_60, w_Ref_goYears_65, w_Ref_goYears_67, w_Ref_goYears_70, w_Ref_goYears_81, w_Ref_goYears_84, w_Ref_goYears_90, w_Ref_goYears_22 (l4 := nI i), hc, if_false, c_110, f_110_0, p_110_0, f_110_1, f_110_2, f_110_3, f_110_4, f_110_5, p_110_5, f_110_6, f_110_7, p_110_7, f_110_8, p_110_8, f_110_9, p_110_9, f_110_10, p_110_10, f_110_11, p_110_11, f_110_12, p_110_12, f_110_13, p_110_13, f_110_14, f_110_15, f_110_16, p_110_16, f_110_17, f_110_18, p_110_18, f_110_19, p_110_19, f_110_20, f_110_21, p_110_21, f_110_22, p_110_22, f_110_23, f_110_24, f_110_25, p_110_25, f_110_26, f_110_27, f_110_28, f_110_29, f_110_30, f_110_31, p_110_31, f_110_32, p_110_32, f_110_33, p_110_33, f_110_34, p_110_34, f_110_35, f_110_36, f_110_37, f_110_38, e_111, i_111, Option.some.injEq, exists_eq_left', exists_eq_left, Option.toList_some, Option.toList_none, List.cons_append, List.nil_append, true_and, and_true, Option.map_some, Option.map_none, x_ev_iff q1, x_ev_iff dr1, hx2, hf', if_true, x_w3 hT2, x_ev_iff dr2, r_wishes (d := d) (by omega) hTz hW hYz.1 hOz hp, hw, b01, x_ev_iff ua, nI_1]
      · rw [if_neg hw] at hy
        obtain ⟨s4, u1, u2, u3⟩ := ry_act (P := P) (d := d) (xs := xs) (by omega) hK hTz hYz.1 hOz hp
        have hY4 := refY_to u2 hYz u3
        refine hnext s4 _ (some (.int (nI p))) hy (o3.tr u2.W) ⟨u3, hY4.2.1, hY4.2.2.1, hY4.2.2.2⟩ (fun r => ?_)
        simp only [w_Ref_goYears_0, w_Ref_goYears_5, w_Ref_goYears_10, w_Ref_goYears_15, w_Ref_goYears_19, w_Ref_goYears_28, w_Ref_goYears_32, w_Ref_goYears_38, w_Ref_goYears_42, w_Ref_goYears_44, w_Ref_goYears_47, w_Ref_goYears_52, w_Ref_goYears_57, w_Ref_goYears_60, w_Ref_goYears_65, w_Ref_goYears_67, w_Ref_goYears_70, w_Ref_goYears_81, w_Ref_goYears_84, w_Ref_goYears_90, w_Ref_goYears_22 (l4 := nI i), hc, if_false, c_110, f_110_0, p_110_0, f_110_1, f_110_2, f_110_3, f_110_4, f_110_5, p_110_5, f_110_6, f_110_7, p_110_7, f_110_8, p_110_8, f_110_9, p_110_9, f_110_10, p_110_10, f_110_11, p_110_11, f_110_12, p_110_12, f_110_13, p_110_13, f_110_14, f_110_15, f_110_16, p_110_16, f_110_17, f_110_18, p_110_18, f_110_19, p_110_19, f_110_20, f_110_21, p_110_21, f_110_22, p_110_22, f_110_23, f_110_24, f_110_25, p_110_25, f_110_26, f_110_27, f_110_28, f_110_29, f_110_30, f_110_31, p_110_31, f_110_32, p_110_32, f_110_33, p_110_33, f_110_34, p_110_34, f_110_35, f_110_36, f_110_37, f_110_38, e_111, i_111, Option.some.injEq, exists_eq_left', exists_eq_left, Option.toList_some, Option.toList_none, List.cons_append, List.nil_append, true_and, and_true, Option.map_some, Option.map_none, x_ev_iff q1, x_ev_iff dr1, hx2, hf', if_true, x_w3 hT2, x_ev_iff dr2, r_wishes (d := d) (by omega) hTz hW hYz.1 hOz hp, hw, b01, Bool.false_eq_true, x_ev_iff u1, nI_1]
theorem ry_go (hd : 10 ≤ d) (hK : tOk T) (hP : 0 < tP T) {s : xS} {acts : List Int32} (hR : refW s T acts) (hr : aRun T (aBegin T) acts = some A) {a n : Nat} (ha : a < 2147483648) (hn : n ≤ 60) : ∃ s', x_ev g_M P d 326 [.ref 110, .long (lN a), .int (nI n)] (mkH xs s) (none, mkH xs s') ∧ offW s s' ∧ refY s' T (yI T n (A, a, 0, 0)) := by
  have hW := hK.1
  have hO := aOk_run hK _ _ _ (aOk_begin hK) hr
  obtain ⟨d, rfl⟩ := x_1 (d := d) (by omega)
  have o0 : offW s (s_p (s_p (s_l s 110 32 (lN a)) 110 33 0) 110 34 0) := ⟨fun q x _ _ => by
    funext j
    simp [s_p, s_l, x], fun k hk => by
    have h1 : ¬ k = 33 := by omega
    have h2 : ¬ k = 34 := by omega
    simp [s_p, s_l, h1, h2], fun q hq => s_l_o.2 q hq⟩
  have hR0 := o0.R hR
  obtain ⟨s1, q1, q2, q3⟩ := r_asItIs (P := P) (d := d) (xs := xs) (by omega) hR0 hK hr
  have hY : refY s1 T (A, a, 0, 0) := by
    obtain ⟨v1, v2, v3⟩ := q2.v
    refine ⟨q3, ?_, ?_, ?_⟩
    · rw [v1]
      show (s_l s 110 32 (lN a)).2 110 32 = _
      simp [s_l]
    · rw [v2]
      simp [s_p]
      rfl
    · rw [v3]
      simp [s_p]
      rfl
  obtain ⟨s', z1, z2, z3⟩ := ry_goL (P := P) (d := d) (xs := xs) (by omega) hK hP (seed := lN a) hn n 0 s1 (A, a, 0, 0) none (by omega) (q2.T hR0.1) hY ⟨hO, ha⟩
  refine ⟨s', ?_, (o0.tr q2.W).tr z2, z3⟩
  rw [x_ev_in rfl (Nat.le_of_ble_eq_true rfl)]
  rw [show x_ent (x_nL g_M 326) [.ref 110, .long (lN a), .int (nI n)] = [some (.ref 110), some (.long (lN a)), none, some (.int (nI n)), none, none] from rfl]
  simp only [w_Ref_goYears_0, w_Ref_goYears_5, w_Ref_goYears_10, w_Ref_goYears_15, w_Ref_goYears_19, w_Ref_goYears_28, w_Ref_goYears_32, w_Ref_goYears_38, w_Ref_goYears_42, w_Ref_goYears_44, w_Ref_goYears_47, w_Ref_goYears_52, w_Ref_goYears_57, w_Ref_goYears_60, w_Ref_goYears_65, w_Ref_goYears_67, w_Ref_goYears_70, w_Ref_goYears_81, w_Ref_goYears_84, w_Ref_goYears_90, c_110, f_110_0, p_110_0, f_110_1, f_110_2, f_110_3, f_110_4, f_110_5, p_110_5, f_110_6, f_110_7, p_110_7, f_110_8, p_110_8, f_110_9, p_110_9, f_110_10, p_110_10, f_110_11, p_110_11, f_110_12, p_110_12, f_110_13, p_110_13, f_110_14, f_110_15, f_110_16, p_110_16, f_110_17, f_110_18, p_110_18, f_110_19, p_110_19, f_110_20, f_110_21, p_110_21, f_110_22, p_110_22, f_110_23, f_110_24, f_110_25, p_110_25, f_110_26, f_110_27, f_110_28, f_110_29, f_110_30, f_110_31, p_110_31, f_110_32, p_110_32, f_110_33, p_110_33, f_110_34, p_110_34, f_110_35, f_110_36, f_110_37, f_110_38, Option.some.injEq, exists_eq_left', exists_eq_left, Option.toList_some, Option.toList_none, List.cons_append, List.nil_append, true_and, and_true, Option.map_some, Option.map_none, x_ev_iff q1]
  exact z1
end YEARSR
def dwV (T : Tw) (x n : Int32) : Int32 := if nI (tP T) ≤ 0 then 0 else if x < 0 then 0 else if 2000000000 < x then 0 else if n < 0 then 0 else if 60 < n then 0 else 1
theorem dwV_cs {T : Tw} (x n : Int32) : dwV T x n = 0 ∨ ∃ a b, 0 < tP T ∧ x = nI a ∧ a ≤ 2000000000 ∧ n = nI b ∧ b ≤ 60 ∧ dwV T (nI a) (nI b) = 1 := by
  by_cases h0 : nI (tP T) ≤ 0
  · left; unfold dwV; rw [if_pos h0]
  by_cases h1 : x < 0
  · left; unfold dwV; rw [if_neg h0, if_pos h1]
  by_cases h2 : 2000000000 < x
  · left; unfold dwV; rw [if_neg h0, if_neg h1, if_pos h2]
  by_cases h3 : n < 0
  · left; unfold dwV; rw [if_neg h0, if_neg h1, if_neg h2, if_pos h3]
  by_cases h4 : 60 < n
  · left; unfold dwV; rw [if_neg h0, if_neg h1, if_neg h2, if_neg h3, if_pos h4]
  right
  obtain ⟨a, ha, rfl⟩ := nI_of h1
  obtain ⟨b, hb, rfl⟩ := nI_of h3
  refine ⟨a, b, ?_, rfl, ?_, rfl, ?_, ?_⟩
  · rcases Nat.eq_zero_or_pos (tP T) with z | z
    · rw [z] at h0; exact absurd (show nI 0 ≤ 0 by decide) h0
    · exact z
  · apply Classical.byContradiction
    intro hz
    exact h2 (nI_lt (a := 2000000000) (by omega) ha)
  · apply Classical.byContradiction
    intro hz
    exact h4 (nI_lt (a := 60) (by omega) hb)
  · unfold dwV; rw [if_neg h0, if_neg h1, if_neg h2, if_neg h3, if_neg h4]
section YEARSK
variable {P : Nat → List Value → Option Value} {W : Wd}
theorem t_isDrawn {d : Nat} {xs : List Int32} {s : xS} {T : Tw} (hd : 1 ≤ d) (hT : clsT s 3 T) (x n : Int32) {q : Option Value × xH} : x_ev g_M P d 176 [.ref 1, .int x, .int n] (mkH xs s) q ↔ q = (some (.int (dwV T x n)), mkH xs s) := by
  have t4 := hT.1.2.2.2.2.1
  obtain ⟨d, rfl⟩ := x_1 (d := d) (by omega)
  rw [x_ev_in rfl (Nat.le_of_ble_eq_true rfl)]
  rw [show x_ent (x_nL g_M 176) [.ref 1, .int x, .int n] = [some (.ref 1), some (.int x), some (.int n)] from rfl]
  simp only [w_Top_isDrawn_0, w_Top_isDrawn_4, w_Top_isDrawn_7, w_Top_isDrawn_10, w_Top_isDrawn_14, w_Top_isDrawn_21, w_Top_isDrawn_25, w_Top_isDrawn_31, w_Top_isDrawn_35, w_Top_isDrawn_36, c_1, f_1_0, f_1_1, p_1_1, f_1_2, f_1_3, f_1_4, f_1_5, f_1_6, p_1_6, f_1_7, f_1_8, f_1_9, f_1_10, f_1_11, f_1_12, f_1_13, f_1_14, c_3, f_3_0, p_3_0, f_3_1, p_3_1, f_3_2, p_3_2, f_3_3, p_3_3, f_3_4, p_3_4, f_3_5, p_3_5, f_3_6, p_3_6, f_3_7, p_3_7, f_3_8, p_3_8, f_3_9, f_3_10, f_3_11, f_3_12, f_3_13, Option.some.injEq, exists_eq_left', exists_eq_left, Option.toList_some, Option.toList_none, List.cons_append, List.nil_append, true_and, and_true, Option.map_some, Option.map_none, t4, x_nb0, x_nb1, x_if2]
  exact eq_comm
theorem r_areYears {d : Nat} {xs : List Int32} {s : xS} {T : Tw} (hd : 2 ≤ d) (hT : refT s 111 0 T) (hK : tOk T) (x n : Int32) {q : Option Value × xH} : x_ev g_M P d 327 [.ref 110, .int x, .int n] (mkH xs s) q ↔ q = (some (.int (dwV T x n)), mkH xs s) := by
  have w1 := hK.1.1
  have e0 : x.toInt64 < 0 ↔ x < 0 := w_lt x 0
  have e1 : (2000000000 : Int64) < x.toInt64 ↔ 2000000000 < x := w_lt 2000000000 x
  have e2 : n.toInt64 < 0 ↔ n < 0 := w_lt n 0
  have e3 : (60 : Int64) < n.toInt64 ↔ 60 < n := w_lt 60 n
  have hli := hK.2.2.2.2.2.2.1
  obtain ⟨d, rfl⟩ := x_1 (d := d) (by omega)
  rw [x_ev_in rfl (Nat.le_of_ble_eq_true rfl)]
  rw [show x_ent (x_nL g_M 327) [.ref 110, .int x, .int n] = [some (.ref 110), some (.int x), some (.int n)] from rfl]
  simp only [w_Ref_areYears_0, w_Ref_areYears_4, w_Ref_areYears_7, w_Ref_areYears_11, w_Ref_areYears_13, w_Ref_areYears_16, w_Ref_areYears_25, w_Ref_areYears_28, w_Ref_areYears_37, w_Ref_areYears_40, w_Ref_areYears_44, w_Ref_areYears_45, c_110, f_110_0, p_110_0, f_110_1, f_110_2, f_110_3, f_110_4, f_110_5, p_110_5, f_110_6, f_110_7, p_110_7, f_110_8, p_110_8, f_110_9, p_110_9, f_110_10, p_110_10, f_110_11, p_110_11, f_110_12, p_110_12, f_110_13, p_110_13, f_110_14, f_110_15, f_110_16, p_110_16, f_110_17, f_110_18, p_110_18, f_110_19, p_110_19, f_110_20, f_110_21, p_110_21, f_110_22, p_110_22, f_110_23, f_110_24, f_110_25, p_110_25, f_110_26, f_110_27, f_110_28, f_110_29, f_110_30, f_110_31, p_110_31, f_110_32, p_110_32, f_110_33, p_110_33, f_110_34, p_110_34, f_110_35, f_110_36, f_110_37, f_110_38, e_111, i_111, Option.some.injEq, exists_eq_left', exists_eq_left, Option.toList_some, Option.toList_none, List.cons_append, List.nil_append, true_and, and_true, Option.map_some, Option.map_none, r_isTown (d := d) (by omega) hT, x_w3 hT, r_in (d := d) (by omega), e0, e1, e2, e3, x_nb0, x_nb1]
  unfold dwV
  by_cases h0 : nI (tP T) ≤ 0
  · by_cases hl : tLi T ≤ 0 <;> simp [h0, hl, eq_comm (a := q)]
  · have hl : ¬ tLi T ≤ 0 := by
      have hp : 0 < tP T := by
        rcases Nat.eq_zero_or_pos (tP T) with z | z
        · rw [z] at h0; exact absurd (show nI 0 ≤ 0 by decide) h0
        · exact z
      exact Int32.not_le.mpr (hli hp)
    by_cases h1 : x < 0
    · simp [h0, hl, h1, eq_comm (a := q)]
    by_cases h2 : 2000000000 < x
    · simp [h0, hl, h1, h2, eq_comm (a := q)]
    by_cases h3 : n < 0
    · simp [h0, hl, h1, h2, h3, eq_comm (a := q)]
    by_cases h4 : 60 < n <;> simp [h0, hl, h1, h2, h3, h4, eq_comm (a := q)]
set_option maxHeartbeats 8000000 in
theorem k_drawn (h : wOk W) (x n w : Int32) : ask2 P 175 328 [.int x, .int n, .int w] W := by
  obtain ⟨hK, hl60, hr, hrest⟩ := h; have hW := hK.1; have hO := aOk_run hK _ _ _ (aOk_begin hK) hr; have hAw := hO.1; have w1 := hW.1; have w2 := hW.2.1; have h9 : 9 ∈ g_SP := by decide
  have e0 : w.toInt64 < 0 ↔ w < 0 := w_lt w 0
  have e3 : (3 : Int64) < w.toInt64 ↔ nI 3 < w := w_lt 3 w
  rcases dwV_cs (T := wT W) x n with h0 | ⟨a, b, hP, rfl, ha, rfl, hb, h1⟩
  · refine ⟨-2, cAsk0 ?_, rAsk0 ?_⟩
    · intro d xs s hd hC; obtain ⟨⟨hT, hA, hn, hacts⟩, -⟩ := hC
      obtain ⟨d, rfl⟩ := x_1 (d := d) (by omega)
      rw [x_ev_in rfl (Nat.le_of_ble_eq_true rfl)]
      rw [show x_ent (x_nL g_M 175) [.ref 1, .int x, .int n, .int w] = [some (.ref 1), some (.int x), some (.int n), some (.int w)] from rfl]
      simp only [w_Top_drawn_0, w_Top_drawn_6, w_Top_drawn_9, w_Top_drawn_13, w_Top_drawn_18, w_Top_drawn_21, w_Top_drawn_25, w_Top_drawn_29, w_Top_drawn_35, w_Top_drawn_64, w_Top_drawn_68, w_Top_drawn_71, w_Top_drawn_74, w_Top_drawn_75, w_Top_drawn_79, w_Top_drawn_82, w_Top_drawn_85, w_Top_drawn_86, w_Top_drawn_90, w_Top_drawn_93, w_Top_drawn_94, w_Top_drawn_98, w_Top_drawn_101, c_1, f_1_0, f_1_1, p_1_1, f_1_2, f_1_3, f_1_4, f_1_5, f_1_6, p_1_6, f_1_7, f_1_8, f_1_9, f_1_10, f_1_11, f_1_12, f_1_13, f_1_14, Option.some.injEq, exists_eq_left', exists_eq_left, Option.toList_some, Option.toList_none, List.cons_append, List.nil_append, true_and, and_true, Option.map_some, Option.map_none, t_isDrawn (d := d) (by omega) hT, h0, if_true]
    · intro d xs s hd hC; obtain ⟨hR, -⟩ := hC; have hT := hR.1
      obtain ⟨d, rfl⟩ := x_1 (d := d) (by omega)
      rw [x_ev_in rfl (Nat.le_of_ble_eq_true rfl)]
      rw [show x_ent (x_nL g_M 328) [.ref 110, .int x, .int n, .int w] = [some (.ref 110), some (.int x), some (.int n), some (.int w)] from rfl]
      simp only [w_Ref_drawn_0, w_Ref_drawn_6, w_Ref_drawn_9, w_Ref_drawn_18, w_Ref_drawn_21, w_Ref_drawn_24, w_Ref_drawn_31, w_Ref_drawn_35, w_Ref_drawn_39, w_Ref_drawn_42, w_Ref_drawn_47, w_Ref_drawn_51, w_Ref_drawn_54, w_Ref_drawn_59, w_Ref_drawn_63, w_Ref_drawn_66, w_Ref_drawn_70, c_110, f_110_0, p_110_0, f_110_1, f_110_2, f_110_3, f_110_4, f_110_5, p_110_5, f_110_6, f_110_7, p_110_7, f_110_8, p_110_8, f_110_9, p_110_9, f_110_10, p_110_10, f_110_11, p_110_11, f_110_12, p_110_12, f_110_13, p_110_13, f_110_14, f_110_15, f_110_16, p_110_16, f_110_17, f_110_18, p_110_18, f_110_19, p_110_19, f_110_20, f_110_21, p_110_21, f_110_22, p_110_22, f_110_23, f_110_24, f_110_25, p_110_25, f_110_26, f_110_27, f_110_28, f_110_29, f_110_30, f_110_31, p_110_31, f_110_32, p_110_32, f_110_33, p_110_33, f_110_34, p_110_34, f_110_35, f_110_36, f_110_37, f_110_38, Option.some.injEq, exists_eq_left', exists_eq_left, Option.toList_some, Option.toList_none, List.cons_append, List.nil_append, true_and, and_true, Option.map_some, Option.map_none, r_areYears (d := d) (by omega) hT hK, h0, if_true]
  rcases in_cs (k := 3) (by omega) w with ⟨g0, gn⟩ | ⟨i, hi, rfl, g1⟩
  · refine ⟨-2, cAsk0 ?_, rAsk0 ?_⟩
    · intro d xs s hd hC; obtain ⟨⟨hT, hA, hn, hacts⟩, -⟩ := hC
      obtain ⟨d, rfl⟩ := x_1 (d := d) (by omega)
      rw [x_ev_in rfl (Nat.le_of_ble_eq_true rfl)]
      rw [show x_ent (x_nL g_M 175) [.ref 1, .int (nI a), .int (nI b), .int w] = [some (.ref 1), some (.int (nI a)), some (.int (nI b)), some (.int w)] from rfl]
      by_cases hy : w < 0
      · simp only [w_Top_drawn_0, w_Top_drawn_6, w_Top_drawn_9, w_Top_drawn_13, w_Top_drawn_18, w_Top_drawn_21, w_Top_drawn_25, w_Top_drawn_29, w_Top_drawn_35, w_Top_drawn_64, w_Top_drawn_68, w_Top_drawn_71, w_Top_drawn_74, w_Top_drawn_75, w_Top_drawn_79, w_Top_drawn_82, w_Top_drawn_85, w_Top_drawn_86, w_Top_drawn_90, w_Top_drawn_93, w_Top_drawn_94, w_Top_drawn_98, w_Top_drawn_101, c_1, f_1_0, f_1_1, p_1_1, f_1_2, f_1_3, f_1_4, f_1_5, f_1_6, p_1_6, f_1_7, f_1_8, f_1_9, f_1_10, f_1_11, f_1_12, f_1_13, f_1_14, Option.some.injEq, exists_eq_left', exists_eq_left, Option.toList_some, Option.toList_none, List.cons_append, List.nil_append, true_and, and_true, Option.map_some, Option.map_none, t_isDrawn (d := d) (by omega) hT, h1, show ¬ ((1 : Int32) = 0) by decide, if_false, hy, if_true]
      · have hy4 : ¬ w ≤ 3 := by
          intro z
          obtain ⟨i, hi, rfl⟩ := nI_of hy
          exact gn i ((nI_leI (b := 3) hi (by omega)).mp z) rfl
        simp only [w_Top_drawn_0, w_Top_drawn_6, w_Top_drawn_9, w_Top_drawn_13, w_Top_drawn_18, w_Top_drawn_21, w_Top_drawn_25, w_Top_drawn_29, w_Top_drawn_35, w_Top_drawn_64, w_Top_drawn_68, w_Top_drawn_71, w_Top_drawn_74, w_Top_drawn_75, w_Top_drawn_79, w_Top_drawn_82, w_Top_drawn_85, w_Top_drawn_86, w_Top_drawn_90, w_Top_drawn_93, w_Top_drawn_94, w_Top_drawn_98, w_Top_drawn_101, c_1, f_1_0, f_1_1, p_1_1, f_1_2, f_1_3, f_1_4, f_1_5, f_1_6, p_1_6, f_1_7, f_1_8, f_1_9, f_1_10, f_1_11, f_1_12, f_1_13, f_1_14, Option.some.injEq, exists_eq_left', exists_eq_left, Option.toList_some, Option.toList_none, List.cons_append, List.nil_append, true_and, and_true, Option.map_some, Option.map_none, t_isDrawn (d := d) (by omega) hT, h1, show ¬ ((1 : Int32) = 0) by decide, if_false, hy, hy4]
    · intro d xs s hd hC; obtain ⟨hR, -⟩ := hC; have hT := hR.1
      obtain ⟨d, rfl⟩ := x_1 (d := d) (by omega)
      rw [x_ev_in rfl (Nat.le_of_ble_eq_true rfl)]
      rw [show x_ent (x_nL g_M 328) [.ref 110, .int (nI a), .int (nI b), .int w] = [some (.ref 110), some (.int (nI a)), some (.int (nI b)), some (.int w)] from rfl]
      simp only [w_Ref_drawn_0, w_Ref_drawn_6, w_Ref_drawn_9, w_Ref_drawn_18, w_Ref_drawn_21, w_Ref_drawn_24, w_Ref_drawn_31, w_Ref_drawn_35, w_Ref_drawn_39, w_Ref_drawn_42, w_Ref_drawn_47, w_Ref_drawn_51, w_Ref_drawn_54, w_Ref_drawn_59, w_Ref_drawn_63, w_Ref_drawn_66, w_Ref_drawn_70, c_110, f_110_0, p_110_0, f_110_1, f_110_2, f_110_3, f_110_4, f_110_5, p_110_5, f_110_6, f_110_7, p_110_7, f_110_8, p_110_8, f_110_9, p_110_9, f_110_10, p_110_10, f_110_11, p_110_11, f_110_12, p_110_12, f_110_13, p_110_13, f_110_14, f_110_15, f_110_16, p_110_16, f_110_17, f_110_18, p_110_18, f_110_19, p_110_19, f_110_20, f_110_21, p_110_21, f_110_22, p_110_22, f_110_23, f_110_24, f_110_25, p_110_25, f_110_26, f_110_27, f_110_28, f_110_29, f_110_30, f_110_31, p_110_31, f_110_32, p_110_32, f_110_33, p_110_33, f_110_34, p_110_34, f_110_35, f_110_36, f_110_37, f_110_38, Option.some.injEq, exists_eq_left', exists_eq_left, Option.toList_some, Option.toList_none, List.cons_append, List.nil_append, true_and, and_true, Option.map_some, Option.map_none, r_areYears (d := d) (by omega) hT hK, h1, show ¬ ((1 : Int32) = 0) by decide, if_false, r_in (d := d) (by omega), e0, e3, g0, not_true_eq_false]
  have i1 : ¬ nI i < 0 := nI_pos (by omega)
  have i2 : nI i ≤ 3 := nI_le (b := 3) hi (by omega)
  have hla : (nI a).toInt64 = lN a := nI_l (by omega)
  generalize hYY : yI (wT W) b (wA W, a, 0, 0) = Y
  have hYok : yOk (wT W) Y := by rw [← hYY]; exact yI_ok hK hP b _ ⟨hO, by show a < _; omega⟩
  have hc : ∀ (d : Nat) (xs : List Int32) (s : xS), 20 ≤ d → cW s W → ∃ s', x_ev g_M P d 104 [.ref 72, .ref 9, .long (lN a), .int (nI b)] (mkH xs s) (none, mkH xs s') ∧ keC s s' ∧ clsY s' (wT W) Y := by
    intro d xs s hd hC; obtain ⟨⟨hT, hA, hn, hacts⟩, -⟩ := hC
    obtain ⟨s', q1, q2, q3⟩ := y_go (P := P) (d := d) (xs := xs) (by omega) hK hP hT hA hO (a := a) (by omega) hb
    rw [hYY] at q3
    exact ⟨s', q1, q2.ke, q3⟩
  have hrr : ∀ (d : Nat) (xs : List Int32) (s : xS), 15 ≤ d → rW s W → ∃ s', x_ev g_M P d 326 [.ref 110, .long (lN a), .int (nI b)] (mkH xs s) (none, mkH xs s') ∧ keR s s' ∧ refY s' (wT W) Y := by
    intro d xs s hd hC; obtain ⟨hR, -⟩ := hC; have hT := hR.1
    obtain ⟨s', q1, q2, q3⟩ := ry_go (P := P) (d := d) (xs := xs) (by omega) hK hP hR hr (a := a) (by omega) hb
    rw [hYY] at q3
    exact ⟨s', q1, q2.ke, q3⟩
  have hc2 : ∀ (d : Nat) (xs : List Int32) (s : xS), 15 ≤ d → cW s W → ∃ s', x_ev g_M P d 104 [.ref 72, .ref 9, .long (lN a), .int (nI b)] (mkH xs s) (none, mkH xs s') ∧ keC s s' ∧ clsY s' (wT W) Y := by
    intro d xs s hd hC; obtain ⟨⟨hT, hA, hn, hacts⟩, -⟩ := hC
    obtain ⟨s', q1, q2, q3⟩ := y_go (P := P) (d := d) (xs := xs) (by omega) hK hP hT hA hO (a := a) (by omega) hb
    rw [hYY] at q3
    exact ⟨s', q1, q2.ke, q3⟩
  rcases (show i = 0 ∨ i = 1 ∨ i = 2 ∨ i = 3 by omega) with rfl | rfl | rfl | rfl
  · refine ⟨msk Y.1.1, cAsk ?_, rAsk ?_⟩
    · intro d xs s hd hC
      have hT := hC.1.1
      obtain ⟨d, rfl⟩ := x_1 (d := d) (by omega)
      obtain ⟨s', q1, q2, q3⟩ := hc2 d xs s (by omega) hC
      refine ⟨s', ?_, q2⟩
      rw [x_ev_in rfl (Nat.le_of_ble_eq_true rfl)]
      rw [show x_ent (x_nL g_M 175) [.ref 1, .int (nI a), .int (nI b), .int (nI 0)] = [some (.ref 1), some (.int (nI a)), some (.int (nI b)), some (.int (nI 0))] from rfl]
      simp only [w_Top_drawn_0, w_Top_drawn_6, w_Top_drawn_9, w_Top_drawn_13, w_Top_drawn_18, w_Top_drawn_21, w_Top_drawn_25, w_Top_drawn_29, w_Top_drawn_35, w_Top_drawn_64, w_Top_drawn_68, w_Top_drawn_71, w_Top_drawn_74, w_Top_drawn_75, w_Top_drawn_79, w_Top_drawn_82, w_Top_drawn_85, w_Top_drawn_86, w_Top_drawn_90, w_Top_drawn_93, w_Top_drawn_94, w_Top_drawn_98, w_Top_drawn_101, c_1, f_1_0, f_1_1, p_1_1, f_1_2, f_1_3, f_1_4, f_1_5, f_1_6, p_1_6, f_1_7, f_1_8, f_1_9, f_1_10, f_1_11, f_1_12, f_1_13, f_1_14, c_72, f_72_0, f_72_1, f_72_2, p_72_2, f_72_3, p_72_3, f_72_4, p_72_4, c_73, f_73_0, f_73_1, p_73_1, f_73_2, p_73_2, f_73_3, p_73_3, f_73_4, p_73_4, f_73_5, f_73_6, Option.some.injEq, exists_eq_left', exists_eq_left, Option.toList_some, Option.toList_none, List.cons_append, List.nil_append, true_and, and_true, Option.map_some, Option.map_none, t_isDrawn (d := d) (by omega) hT, h1, show ¬ ((1 : Int32) = 0) by decide, if_false, i1, i2, if_true, hla, x_ev_iff q1, show x_sw (nI 0) 0 [64, 75, 86] 94 = 64 by decide, q3.1.1]
    · intro d xs s hd hC
      have hT := hC.1.1
      obtain ⟨d, rfl⟩ := x_1 (d := d) (by omega)
      obtain ⟨s', q1, q2, q3⟩ := hrr d xs s (by omega) hC
      refine ⟨s', ?_, q2⟩
      rw [x_ev_in rfl (Nat.le_of_ble_eq_true rfl)]
      rw [show x_ent (x_nL g_M 328) [.ref 110, .int (nI a), .int (nI b), .int (nI 0)] = [some (.ref 110), some (.int (nI a)), some (.int (nI b)), some (.int (nI 0))] from rfl]
      simp only [w_Ref_drawn_0, w_Ref_drawn_6, w_Ref_drawn_9, w_Ref_drawn_18, w_Ref_drawn_21, w_Ref_drawn_24, w_Ref_drawn_31, w_Ref_drawn_35, w_Ref_drawn_39, w_Ref_drawn_42, w_Ref_drawn_47, w_Ref_drawn_51, w_Ref_drawn_54, w_Ref_drawn_59, w_Ref_drawn_63, w_Ref_drawn_66, w_Ref_drawn_70, c_110, f_110_0, p_110_0, f_110_1, f_110_2, f_110_3, f_110_4, f_110_5, p_110_5, f_110_6, f_110_7, p_110_7, f_110_8, p_110_8, f_110_9, p_110_9, f_110_10, p_110_10, f_110_11, p_110_11, f_110_12, p_110_12, f_110_13, p_110_13, f_110_14, f_110_15, f_110_16, p_110_16, f_110_17, f_110_18, p_110_18, f_110_19, p_110_19, f_110_20, f_110_21, p_110_21, f_110_22, p_110_22, f_110_23, f_110_24, f_110_25, p_110_25, f_110_26, f_110_27, f_110_28, f_110_29, f_110_30, f_110_31, p_110_31, f_110_32, p_110_32, f_110_33, p_110_33, f_110_34, p_110_34, f_110_35, f_110_36, f_110_37, f_110_38, Option.some.injEq, exists_eq_left', exists_eq_left, Option.toList_some, Option.toList_none, List.cons_append, List.nil_append, true_and, and_true, Option.map_some, Option.map_none, r_areYears (d := d) (by omega) hT hK, h1, show ¬ ((1 : Int32) = 0) by decide, if_false, r_in (d := d) (by omega), e0, e3, g1, not_false_eq_true, if_true, hla, x_ev_iff q1, show (nI 0 = 0) ↔ True by decide, not_true_eq_false, r_settledNow (d := d) (by omega) q3.1 hYok.1.1 hW]
  · refine ⟨Y.1.2.2.1, cAsk ?_, rAsk ?_⟩
    · intro d xs s hd hC
      have hT := hC.1.1
      obtain ⟨d, rfl⟩ := x_1 (d := d) (by omega)
      obtain ⟨s', q1, q2, q3⟩ := hc2 d xs s (by omega) hC
      refine ⟨s', ?_, q2⟩
      rw [x_ev_in rfl (Nat.le_of_ble_eq_true rfl)]
      rw [show x_ent (x_nL g_M 175) [.ref 1, .int (nI a), .int (nI b), .int (nI 1)] = [some (.ref 1), some (.int (nI a)), some (.int (nI b)), some (.int (nI 1))] from rfl]
      simp only [w_Top_drawn_0, w_Top_drawn_6, w_Top_drawn_9, w_Top_drawn_13, w_Top_drawn_18, w_Top_drawn_21, w_Top_drawn_25, w_Top_drawn_29, w_Top_drawn_35, w_Top_drawn_64, w_Top_drawn_68, w_Top_drawn_71, w_Top_drawn_74, w_Top_drawn_75, w_Top_drawn_79, w_Top_drawn_82, w_Top_drawn_85, w_Top_drawn_86, w_Top_drawn_90, w_Top_drawn_93, w_Top_drawn_94, w_Top_drawn_98, w_Top_drawn_101, c_1, f_1_0, f_1_1, p_1_1, f_1_2, f_1_3, f_1_4, f_1_5, f_1_6, p_1_6, f_1_7, f_1_8, f_1_9, f_1_10, f_1_11, f_1_12, f_1_13, f_1_14, c_72, f_72_0, f_72_1, f_72_2, p_72_2, f_72_3, p_72_3, f_72_4, p_72_4, c_73, f_73_0, f_73_1, p_73_1, f_73_2, p_73_2, f_73_3, p_73_3, f_73_4, p_73_4, f_73_5, f_73_6, Option.some.injEq, exists_eq_left', exists_eq_left, Option.toList_some, Option.toList_none, List.cons_append, List.nil_append, true_and, and_true, Option.map_some, Option.map_none, t_isDrawn (d := d) (by omega) hT, h1, show ¬ ((1 : Int32) = 0) by decide, if_false, i1, i2, if_true, hla, x_ev_iff q1, show x_sw (nI 1) 0 [64, 75, 86] 94 = 75 by decide, q3.1.2.2.1]
    · intro d xs s hd hC
      have hT := hC.1.1
      obtain ⟨d, rfl⟩ := x_1 (d := d) (by omega)
      obtain ⟨s', q1, q2, q3⟩ := hrr d xs s (by omega) hC
      refine ⟨s', ?_, q2⟩
      rw [x_ev_in rfl (Nat.le_of_ble_eq_true rfl)]
      rw [show x_ent (x_nL g_M 328) [.ref 110, .int (nI a), .int (nI b), .int (nI 1)] = [some (.ref 110), some (.int (nI a)), some (.int (nI b)), some (.int (nI 1))] from rfl]
      simp only [w_Ref_drawn_0, w_Ref_drawn_6, w_Ref_drawn_9, w_Ref_drawn_18, w_Ref_drawn_21, w_Ref_drawn_24, w_Ref_drawn_31, w_Ref_drawn_35, w_Ref_drawn_39, w_Ref_drawn_42, w_Ref_drawn_47, w_Ref_drawn_51, w_Ref_drawn_54, w_Ref_drawn_59, w_Ref_drawn_63, w_Ref_drawn_66, w_Ref_drawn_70, c_110, f_110_0, p_110_0, f_110_1, f_110_2, f_110_3, f_110_4, f_110_5, p_110_5, f_110_6, f_110_7, p_110_7, f_110_8, p_110_8, f_110_9, p_110_9, f_110_10, p_110_10, f_110_11, p_110_11, f_110_12, p_110_12, f_110_13, p_110_13, f_110_14, f_110_15, f_110_16, p_110_16, f_110_17, f_110_18, p_110_18, f_110_19, p_110_19, f_110_20, f_110_21, p_110_21, f_110_22, p_110_22, f_110_23, f_110_24, f_110_25, p_110_25, f_110_26, f_110_27, f_110_28, f_110_29, f_110_30, f_110_31, p_110_31, f_110_32, p_110_32, f_110_33, p_110_33, f_110_34, p_110_34, f_110_35, f_110_36, f_110_37, f_110_38, Option.some.injEq, exists_eq_left', exists_eq_left, Option.toList_some, Option.toList_none, List.cons_append, List.nil_append, true_and, and_true, Option.map_some, Option.map_none, r_areYears (d := d) (by omega) hT hK, h1, show ¬ ((1 : Int32) = 0) by decide, if_false, r_in (d := d) (by omega), e0, e3, g1, not_false_eq_true, if_true, hla, x_ev_iff q1, show ¬ (nI 1 = 0) by decide, show (nI 1 = 1) ↔ True by decide, not_true_eq_false, q3.1.2.2.2.1]
  · refine ⟨nI Y.2.2.1, cAsk ?_, rAsk ?_⟩
    · intro d xs s hd hC
      have hT := hC.1.1
      obtain ⟨d, rfl⟩ := x_1 (d := d) (by omega)
      obtain ⟨s', q1, q2, q3⟩ := hc2 d xs s (by omega) hC
      refine ⟨s', ?_, q2⟩
      rw [x_ev_in rfl (Nat.le_of_ble_eq_true rfl)]
      rw [show x_ent (x_nL g_M 175) [.ref 1, .int (nI a), .int (nI b), .int (nI 2)] = [some (.ref 1), some (.int (nI a)), some (.int (nI b)), some (.int (nI 2))] from rfl]
      simp only [w_Top_drawn_0, w_Top_drawn_6, w_Top_drawn_9, w_Top_drawn_13, w_Top_drawn_18, w_Top_drawn_21, w_Top_drawn_25, w_Top_drawn_29, w_Top_drawn_35, w_Top_drawn_64, w_Top_drawn_68, w_Top_drawn_71, w_Top_drawn_74, w_Top_drawn_75, w_Top_drawn_79, w_Top_drawn_82, w_Top_drawn_85, w_Top_drawn_86, w_Top_drawn_90, w_Top_drawn_93, w_Top_drawn_94, w_Top_drawn_98, w_Top_drawn_101, c_1, f_1_0, f_1_1, p_1_1, f_1_2, f_1_3, f_1_4, f_1_5, f_1_6, p_1_6, f_1_7, f_1_8, f_1_9, f_1_10, f_1_11, f_1_12, f_1_13, f_1_14, c_72, f_72_0, f_72_1, f_72_2, p_72_2, f_72_3, p_72_3, f_72_4, p_72_4, c_73, f_73_0, f_73_1, p_73_1, f_73_2, p_73_2, f_73_3, p_73_3, f_73_4, p_73_4, f_73_5, f_73_6, Option.some.injEq, exists_eq_left', exists_eq_left, Option.toList_some, Option.toList_none, List.cons_append, List.nil_append, true_and, and_true, Option.map_some, Option.map_none, t_isDrawn (d := d) (by omega) hT, h1, show ¬ ((1 : Int32) = 0) by decide, if_false, i1, i2, if_true, hla, x_ev_iff q1, show x_sw (nI 2) 0 [64, 75, 86] 94 = 86 by decide, q3.2.2.1]
    · intro d xs s hd hC
      have hT := hC.1.1
      obtain ⟨d, rfl⟩ := x_1 (d := d) (by omega)
      obtain ⟨s', q1, q2, q3⟩ := hrr d xs s (by omega) hC
      refine ⟨s', ?_, q2⟩
      rw [x_ev_in rfl (Nat.le_of_ble_eq_true rfl)]
      rw [show x_ent (x_nL g_M 328) [.ref 110, .int (nI a), .int (nI b), .int (nI 2)] = [some (.ref 110), some (.int (nI a)), some (.int (nI b)), some (.int (nI 2))] from rfl]
      simp only [w_Ref_drawn_0, w_Ref_drawn_6, w_Ref_drawn_9, w_Ref_drawn_18, w_Ref_drawn_21, w_Ref_drawn_24, w_Ref_drawn_31, w_Ref_drawn_35, w_Ref_drawn_39, w_Ref_drawn_42, w_Ref_drawn_47, w_Ref_drawn_51, w_Ref_drawn_54, w_Ref_drawn_59, w_Ref_drawn_63, w_Ref_drawn_66, w_Ref_drawn_70, c_110, f_110_0, p_110_0, f_110_1, f_110_2, f_110_3, f_110_4, f_110_5, p_110_5, f_110_6, f_110_7, p_110_7, f_110_8, p_110_8, f_110_9, p_110_9, f_110_10, p_110_10, f_110_11, p_110_11, f_110_12, p_110_12, f_110_13, p_110_13, f_110_14, f_110_15, f_110_16, p_110_16, f_110_17, f_110_18, p_110_18, f_110_19, p_110_19, f_110_20, f_110_21, p_110_21, f_110_22, p_110_22, f_110_23, f_110_24, f_110_25, p_110_25, f_110_26, f_110_27, f_110_28, f_110_29, f_110_30, f_110_31, p_110_31, f_110_32, p_110_32, f_110_33, p_110_33, f_110_34, p_110_34, f_110_35, f_110_36, f_110_37, f_110_38, Option.some.injEq, exists_eq_left', exists_eq_left, Option.toList_some, Option.toList_none, List.cons_append, List.nil_append, true_and, and_true, Option.map_some, Option.map_none, r_areYears (d := d) (by omega) hT hK, h1, show ¬ ((1 : Int32) = 0) by decide, if_false, r_in (d := d) (by omega), e0, e3, g1, not_false_eq_true, if_true, hla, x_ev_iff q1, show ¬ (nI 2 = 0) by decide, show ¬ (nI 2 = 1) by decide, show (nI 2 = 2) ↔ True by decide, not_true_eq_false, q3.2.2.1]
  · refine ⟨nI Y.2.2.2, cAsk ?_, rAsk ?_⟩
    · intro d xs s hd hC
      have hT := hC.1.1
      obtain ⟨d, rfl⟩ := x_1 (d := d) (by omega)
      obtain ⟨s', q1, q2, q3⟩ := hc2 d xs s (by omega) hC
      refine ⟨s', ?_, q2⟩
      rw [x_ev_in rfl (Nat.le_of_ble_eq_true rfl)]
      rw [show x_ent (x_nL g_M 175) [.ref 1, .int (nI a), .int (nI b), .int (nI 3)] = [some (.ref 1), some (.int (nI a)), some (.int (nI b)), some (.int (nI 3))] from rfl]
      simp only [w_Top_drawn_0, w_Top_drawn_6, w_Top_drawn_9, w_Top_drawn_13, w_Top_drawn_18, w_Top_drawn_21, w_Top_drawn_25, w_Top_drawn_29, w_Top_drawn_35, w_Top_drawn_64, w_Top_drawn_68, w_Top_drawn_71, w_Top_drawn_74, w_Top_drawn_75, w_Top_drawn_79, w_Top_drawn_82, w_Top_drawn_85, w_Top_drawn_86, w_Top_drawn_90, w_Top_drawn_93, w_Top_drawn_94, w_Top_drawn_98, w_Top_drawn_101, c_1, f_1_0, f_1_1, p_1_1, f_1_2, f_1_3, f_1_4, f_1_5, f_1_6, p_1_6, f_1_7, f_1_8, f_1_9, f_1_10, f_1_11, f_1_12, f_1_13, f_1_14, c_72, f_72_0, f_72_1, f_72_2, p_72_2, f_72_3, p_72_3, f_72_4, p_72_4, c_73, f_73_0, f_73_1, p_73_1, f_73_2, p_73_2, f_73_3, p_73_3, f_73_4, p_73_4, f_73_5, f_73_6, Option.some.injEq, exists_eq_left', exists_eq_left, Option.toList_some, Option.toList_none, List.cons_append, List.nil_append, true_and, and_true, Option.map_some, Option.map_none, t_isDrawn (d := d) (by omega) hT, h1, show ¬ ((1 : Int32) = 0) by decide, if_false, i1, i2, if_true, hla, x_ev_iff q1, show x_sw (nI 3) 0 [64, 75, 86] 94 = 94 by decide, q3.2.2.2]
    · intro d xs s hd hC
      have hT := hC.1.1
      obtain ⟨d, rfl⟩ := x_1 (d := d) (by omega)
      obtain ⟨s', q1, q2, q3⟩ := hrr d xs s (by omega) hC
      refine ⟨s', ?_, q2⟩
      rw [x_ev_in rfl (Nat.le_of_ble_eq_true rfl)]
      rw [show x_ent (x_nL g_M 328) [.ref 110, .int (nI a), .int (nI b), .int (nI 3)] = [some (.ref 110), some (.int (nI a)), some (.int (nI b)), some (.int (nI 3))] from rfl]
      simp only [w_Ref_drawn_0, w_Ref_drawn_6, w_Ref_drawn_9, w_Ref_drawn_18, w_Ref_drawn_21, w_Ref_drawn_24, w_Ref_drawn_31, w_Ref_drawn_35, w_Ref_drawn_39, w_Ref_drawn_42, w_Ref_drawn_47, w_Ref_drawn_51, w_Ref_drawn_54, w_Ref_drawn_59, w_Ref_drawn_63, w_Ref_drawn_66, w_Ref_drawn_70, c_110, f_110_0, p_110_0, f_110_1, f_110_2, f_110_3, f_110_4, f_110_5, p_110_5, f_110_6, f_110_7, p_110_7, f_110_8, p_110_8, f_110_9, p_110_9, f_110_10, p_110_10, f_110_11, p_110_11, f_110_12, p_110_12, f_110_13, p_110_13, f_110_14, f_110_15, f_110_16, p_110_16, f_110_17, f_110_18, p_110_18, f_110_19, p_110_19, f_110_20, f_110_21, p_110_21, f_110_22, p_110_22, f_110_23, f_110_24, f_110_25, p_110_25, f_110_26, f_110_27, f_110_28, f_110_29, f_110_30, f_110_31, p_110_31, f_110_32, p_110_32, f_110_33, p_110_33, f_110_34, p_110_34, f_110_35, f_110_36, f_110_37, f_110_38, Option.some.injEq, exists_eq_left', exists_eq_left, Option.toList_some, Option.toList_none, List.cons_append, List.nil_append, true_and, and_true, Option.map_some, Option.map_none, r_areYears (d := d) (by omega) hT hK, h1, show ¬ ((1 : Int32) = 0) by decide, if_false, r_in (d := d) (by omega), e0, e3, g1, not_false_eq_true, if_true, hla, x_ev_iff q1, show ¬ (nI 3 = 0) by decide, show ¬ (nI 3 = 1) by decide, show ¬ (nI 3 = 2) by decide, q3.2.2.2]
set_option maxHeartbeats 8000000 in
theorem k_luck (h : wOk W) (x m n t : Int32) : ask2 P 177 329 [.int x, .int m, .int n, .int t] W := by
  obtain ⟨hK, hl60, hr, hrest⟩ := h; have hW := hK.1; have hO := aOk_run hK _ _ _ (aOk_begin hK) hr; have hAw := hO.1; have w1 := hW.1; have w2 := hW.2.1; have h9 : 9 ∈ g_SP := by decide
  have e1 : m.toInt64 < 1 ↔ m < 1 := w_lt m 1
  have e2 : (20 : Int64) < m.toInt64 ↔ 20 < m := w_lt 20 m
  rcases dwV_cs (T := wT W) x n with h0 | ⟨a, b, hP, rfl, ha, rfl, hb, h1⟩
  · refine ⟨-2, cAsk0 ?_, rAsk0 ?_⟩
    · intro d xs s hd hC; obtain ⟨⟨hT, hA, hn, hacts⟩, -⟩ := hC
      obtain ⟨d, rfl⟩ := x_1 (d := d) (by omega)
      rw [x_ev_in rfl (Nat.le_of_ble_eq_true rfl)]
      rw [show x_ent (x_nL g_M 177) [.ref 1, .int x, .int m, .int n, .int t] = [some (.ref 1), some (.int x), some (.int m), some (.int n), some (.int t), none, none] from rfl]
      simp only [w_Top_luck_0, w_Top_luck_6, w_Top_luck_9, w_Top_luck_14, w_Top_luck_20, w_Top_luck_24, w_Top_luck_29, w_Top_luck_32, w_Top_luck_35, w_Top_luck_47, w_Top_luck_51, w_Top_luck_55, w_Top_luck_65, w_Top_luck_71, w_Top_luck_74, w_Top_luck_77, w_Top_luck_82, w_Top_luck_91, c_1, f_1_0, f_1_1, p_1_1, f_1_2, f_1_3, f_1_4, f_1_5, f_1_6, p_1_6, f_1_7, f_1_8, f_1_9, f_1_10, f_1_11, f_1_12, f_1_13, f_1_14, Option.some.injEq, exists_eq_left', exists_eq_left, Option.toList_some, Option.toList_none, List.cons_append, List.nil_append, true_and, and_true, Option.map_some, Option.map_none, t_isDrawn (d := d) (by omega) hT, h0, if_true]
    · intro d xs s hd hC; obtain ⟨hR, -⟩ := hC; have hT := hR.1
      obtain ⟨d, rfl⟩ := x_1 (d := d) (by omega)
      rw [x_ev_in rfl (Nat.le_of_ble_eq_true rfl)]
      rw [show x_ent (x_nL g_M 329) [.ref 110, .int x, .int m, .int n, .int t] = [some (.ref 110), some (.int x), some (.int m), some (.int n), some (.int t), none, none] from rfl]
      simp only [w_Ref_luck_0, w_Ref_luck_6, w_Ref_luck_9, w_Ref_luck_18, w_Ref_luck_21, w_Ref_luck_28, w_Ref_luck_31, w_Ref_luck_34, w_Ref_luck_46, w_Ref_luck_57, w_Ref_luck_63, w_Ref_luck_68, w_Ref_luck_77, c_110, f_110_0, p_110_0, f_110_1, f_110_2, f_110_3, f_110_4, f_110_5, p_110_5, f_110_6, f_110_7, p_110_7, f_110_8, p_110_8, f_110_9, p_110_9, f_110_10, p_110_10, f_110_11, p_110_11, f_110_12, p_110_12, f_110_13, p_110_13, f_110_14, f_110_15, f_110_16, p_110_16, f_110_17, f_110_18, p_110_18, f_110_19, p_110_19, f_110_20, f_110_21, p_110_21, f_110_22, p_110_22, f_110_23, f_110_24, f_110_25, p_110_25, f_110_26, f_110_27, f_110_28, f_110_29, f_110_30, f_110_31, p_110_31, f_110_32, p_110_32, f_110_33, p_110_33, f_110_34, p_110_34, f_110_35, f_110_36, f_110_37, f_110_38, Option.some.injEq, exists_eq_left', exists_eq_left, Option.toList_some, Option.toList_none, List.cons_append, List.nil_append, true_and, and_true, Option.map_some, Option.map_none, r_areYears (d := d) (by omega) hT hK, h0, if_true]
  by_cases hm1 : m < 1
  · refine ⟨-2, cAsk0 ?_, rAsk0 ?_⟩
    · intro d xs s hd hC; obtain ⟨⟨hT, hA, hn, hacts⟩, -⟩ := hC
      obtain ⟨d, rfl⟩ := x_1 (d := d) (by omega)
      rw [x_ev_in rfl (Nat.le_of_ble_eq_true rfl)]
      rw [show x_ent (x_nL g_M 177) [.ref 1, .int (nI a), .int m, .int (nI b), .int t] = [some (.ref 1), some (.int (nI a)), some (.int m), some (.int (nI b)), some (.int t), none, none] from rfl]
      simp only [w_Top_luck_0, w_Top_luck_6, w_Top_luck_9, w_Top_luck_14, w_Top_luck_20, w_Top_luck_24, w_Top_luck_29, w_Top_luck_32, w_Top_luck_35, w_Top_luck_47, w_Top_luck_51, w_Top_luck_55, w_Top_luck_65, w_Top_luck_71, w_Top_luck_74, w_Top_luck_77, w_Top_luck_82, w_Top_luck_91, c_1, f_1_0, f_1_1, p_1_1, f_1_2, f_1_3, f_1_4, f_1_5, f_1_6, p_1_6, f_1_7, f_1_8, f_1_9, f_1_10, f_1_11, f_1_12, f_1_13, f_1_14, Option.some.injEq, exists_eq_left', exists_eq_left, Option.toList_some, Option.toList_none, List.cons_append, List.nil_append, true_and, and_true, Option.map_some, Option.map_none, t_isDrawn (d := d) (by omega) hT, h1, show ¬ ((1 : Int32) = 0) by decide, if_false, hm1, if_true]
    · intro d xs s hd hC; obtain ⟨hR, -⟩ := hC; have hT := hR.1
      obtain ⟨d, rfl⟩ := x_1 (d := d) (by omega)
      rw [x_ev_in rfl (Nat.le_of_ble_eq_true rfl)]
      rw [show x_ent (x_nL g_M 329) [.ref 110, .int (nI a), .int m, .int (nI b), .int t] = [some (.ref 110), some (.int (nI a)), some (.int m), some (.int (nI b)), some (.int t), none, none] from rfl]
      simp only [w_Ref_luck_0, w_Ref_luck_6, w_Ref_luck_9, w_Ref_luck_18, w_Ref_luck_21, w_Ref_luck_28, w_Ref_luck_31, w_Ref_luck_34, w_Ref_luck_46, w_Ref_luck_57, w_Ref_luck_63, w_Ref_luck_68, w_Ref_luck_77, c_110, f_110_0, p_110_0, f_110_1, f_110_2, f_110_3, f_110_4, f_110_5, p_110_5, f_110_6, f_110_7, p_110_7, f_110_8, p_110_8, f_110_9, p_110_9, f_110_10, p_110_10, f_110_11, p_110_11, f_110_12, p_110_12, f_110_13, p_110_13, f_110_14, f_110_15, f_110_16, p_110_16, f_110_17, f_110_18, p_110_18, f_110_19, p_110_19, f_110_20, f_110_21, p_110_21, f_110_22, p_110_22, f_110_23, f_110_24, f_110_25, p_110_25, f_110_26, f_110_27, f_110_28, f_110_29, f_110_30, f_110_31, p_110_31, f_110_32, p_110_32, f_110_33, p_110_33, f_110_34, p_110_34, f_110_35, f_110_36, f_110_37, f_110_38, Option.some.injEq, exists_eq_left', exists_eq_left, Option.toList_some, Option.toList_none, List.cons_append, List.nil_append, true_and, and_true, Option.map_some, Option.map_none, r_areYears (d := d) (by omega) hT hK, h1, show ¬ ((1 : Int32) = 0) by decide, if_false, r_in (d := d) (by omega), e1, hm1, if_true]
  by_cases hm2 : 20 < m
  · refine ⟨-2, cAsk0 ?_, rAsk0 ?_⟩
    · intro d xs s hd hC; obtain ⟨⟨hT, hA, hn, hacts⟩, -⟩ := hC
      obtain ⟨d, rfl⟩ := x_1 (d := d) (by omega)
      rw [x_ev_in rfl (Nat.le_of_ble_eq_true rfl)]
      rw [show x_ent (x_nL g_M 177) [.ref 1, .int (nI a), .int m, .int (nI b), .int t] = [some (.ref 1), some (.int (nI a)), some (.int m), some (.int (nI b)), some (.int t), none, none] from rfl]
      simp only [w_Top_luck_0, w_Top_luck_6, w_Top_luck_9, w_Top_luck_14, w_Top_luck_20, w_Top_luck_24, w_Top_luck_29, w_Top_luck_32, w_Top_luck_35, w_Top_luck_47, w_Top_luck_51, w_Top_luck_55, w_Top_luck_65, w_Top_luck_71, w_Top_luck_74, w_Top_luck_77, w_Top_luck_82, w_Top_luck_91, c_1, f_1_0, f_1_1, p_1_1, f_1_2, f_1_3, f_1_4, f_1_5, f_1_6, p_1_6, f_1_7, f_1_8, f_1_9, f_1_10, f_1_11, f_1_12, f_1_13, f_1_14, Option.some.injEq, exists_eq_left', exists_eq_left, Option.toList_some, Option.toList_none, List.cons_append, List.nil_append, true_and, and_true, Option.map_some, Option.map_none, t_isDrawn (d := d) (by omega) hT, h1, show ¬ ((1 : Int32) = 0) by decide, if_false, hm1, hm2, if_true]
    · intro d xs s hd hC; obtain ⟨hR, -⟩ := hC; have hT := hR.1
      obtain ⟨d, rfl⟩ := x_1 (d := d) (by omega)
      rw [x_ev_in rfl (Nat.le_of_ble_eq_true rfl)]
      rw [show x_ent (x_nL g_M 329) [.ref 110, .int (nI a), .int m, .int (nI b), .int t] = [some (.ref 110), some (.int (nI a)), some (.int m), some (.int (nI b)), some (.int t), none, none] from rfl]
      simp only [w_Ref_luck_0, w_Ref_luck_6, w_Ref_luck_9, w_Ref_luck_18, w_Ref_luck_21, w_Ref_luck_28, w_Ref_luck_31, w_Ref_luck_34, w_Ref_luck_46, w_Ref_luck_57, w_Ref_luck_63, w_Ref_luck_68, w_Ref_luck_77, c_110, f_110_0, p_110_0, f_110_1, f_110_2, f_110_3, f_110_4, f_110_5, p_110_5, f_110_6, f_110_7, p_110_7, f_110_8, p_110_8, f_110_9, p_110_9, f_110_10, p_110_10, f_110_11, p_110_11, f_110_12, p_110_12, f_110_13, p_110_13, f_110_14, f_110_15, f_110_16, p_110_16, f_110_17, f_110_18, p_110_18, f_110_19, p_110_19, f_110_20, f_110_21, p_110_21, f_110_22, p_110_22, f_110_23, f_110_24, f_110_25, p_110_25, f_110_26, f_110_27, f_110_28, f_110_29, f_110_30, f_110_31, p_110_31, f_110_32, p_110_32, f_110_33, p_110_33, f_110_34, p_110_34, f_110_35, f_110_36, f_110_37, f_110_38, Option.some.injEq, exists_eq_left', exists_eq_left, Option.toList_some, Option.toList_none, List.cons_append, List.nil_append, true_and, and_true, Option.map_some, Option.map_none, r_areYears (d := d) (by omega) hT hK, h1, show ¬ ((1 : Int32) = 0) by decide, if_false, r_in (d := d) (by omega), e1, e2, hm1, hm2, if_true]
  rcases has_cs (n := tM (wT W)) (by omega) t with g0 | ⟨mt, hmt, rfl, g1⟩
  · refine ⟨-2, cAsk0 ?_, rAsk0 ?_⟩
    · intro d xs s hd hC; obtain ⟨⟨hT, hA, hn, hacts⟩, -⟩ := hC
      obtain ⟨d, rfl⟩ := x_1 (d := d) (by omega)
      rw [x_ev_in rfl (Nat.le_of_ble_eq_true rfl)]
      rw [show x_ent (x_nL g_M 177) [.ref 1, .int (nI a), .int m, .int (nI b), .int t] = [some (.ref 1), some (.int (nI a)), some (.int m), some (.int (nI b)), some (.int t), none, none] from rfl]
      simp only [w_Top_luck_0, w_Top_luck_6, w_Top_luck_9, w_Top_luck_14, w_Top_luck_20, w_Top_luck_24, w_Top_luck_29, w_Top_luck_32, w_Top_luck_35, w_Top_luck_47, w_Top_luck_51, w_Top_luck_55, w_Top_luck_65, w_Top_luck_71, w_Top_luck_74, w_Top_luck_77, w_Top_luck_82, w_Top_luck_91, c_1, f_1_0, f_1_1, p_1_1, f_1_2, f_1_3, f_1_4, f_1_5, f_1_6, p_1_6, f_1_7, f_1_8, f_1_9, f_1_10, f_1_11, f_1_12, f_1_13, f_1_14, c_3, f_3_0, p_3_0, f_3_1, p_3_1, f_3_2, p_3_2, f_3_3, p_3_3, f_3_4, p_3_4, f_3_5, p_3_5, f_3_6, p_3_6, f_3_7, p_3_7, f_3_8, p_3_8, f_3_9, f_3_10, f_3_11, f_3_12, f_3_13, Option.some.injEq, exists_eq_left', exists_eq_left, Option.toList_some, Option.toList_none, List.cons_append, List.nil_append, true_and, and_true, Option.map_some, Option.map_none, t_isDrawn (d := d) (by omega) hT, h1, show ¬ ((1 : Int32) = 0) by decide, if_false, hm1, hm2, t_hasMatter (d := d) (by omega) hT, g0, not_true_eq_false]
    · intro d xs s hd hC; obtain ⟨hR, -⟩ := hC; have hT := hR.1
      obtain ⟨d, rfl⟩ := x_1 (d := d) (by omega)
      rw [x_ev_in rfl (Nat.le_of_ble_eq_true rfl)]
      rw [show x_ent (x_nL g_M 329) [.ref 110, .int (nI a), .int m, .int (nI b), .int t] = [some (.ref 110), some (.int (nI a)), some (.int m), some (.int (nI b)), some (.int t), none, none] from rfl]
      simp only [w_Ref_luck_0, w_Ref_luck_6, w_Ref_luck_9, w_Ref_luck_18, w_Ref_luck_21, w_Ref_luck_28, w_Ref_luck_31, w_Ref_luck_34, w_Ref_luck_46, w_Ref_luck_57, w_Ref_luck_63, w_Ref_luck_68, w_Ref_luck_77, c_110, f_110_0, p_110_0, f_110_1, f_110_2, f_110_3, f_110_4, f_110_5, p_110_5, f_110_6, f_110_7, p_110_7, f_110_8, p_110_8, f_110_9, p_110_9, f_110_10, p_110_10, f_110_11, p_110_11, f_110_12, p_110_12, f_110_13, p_110_13, f_110_14, f_110_15, f_110_16, p_110_16, f_110_17, f_110_18, p_110_18, f_110_19, p_110_19, f_110_20, f_110_21, p_110_21, f_110_22, p_110_22, f_110_23, f_110_24, f_110_25, p_110_25, f_110_26, f_110_27, f_110_28, f_110_29, f_110_30, f_110_31, p_110_31, f_110_32, p_110_32, f_110_33, p_110_33, f_110_34, p_110_34, f_110_35, f_110_36, f_110_37, f_110_38, Option.some.injEq, exists_eq_left', exists_eq_left, Option.toList_some, Option.toList_none, List.cons_append, List.nil_append, true_and, and_true, Option.map_some, Option.map_none, r_areYears (d := d) (by omega) hT hK, h1, show ¬ ((1 : Int32) = 0) by decide, if_false, r_in (d := d) (by omega), e1, e2, hm1, hm2, r_isMatterI (d := d) (by omega) hT hW, g0, not_true_eq_false]
  have hm0 : ¬ m < 0 := by
    intro z
    apply hm1
    rw [Int32.lt_iff_toInt_lt] at z ⊢
    have a0 : (0 : Int32).toInt = 0 := rfl
    have a1 : (1 : Int32).toInt = 1 := rfl
    omega
  obtain ⟨mm, hmm, rfl⟩ := nI_of hm0
  have hm20 : mm ≤ 20 := by
    apply Classical.byContradiction
    intro hz
    exact hm2 (nI_lt (a := 20) (by omega) hmm)
  have hla : ∀ i, i ≤ 20 → (nI a).toInt64 + (nI i).toInt64 = lN (a + i) := fun i hi => by rw [nI_l (by omega), nI_l (by omega), lN_add]
  have w32 : mt < 32 := by omega
  refine ⟨sm (fun i => if bt (msk (yI (wT W) b (wA W, a + i, 0, 0)).1.1) mt = true then 1 else 0) mm, cAsk ?_, rAsk ?_⟩
  · intro d xs s hd hC; obtain ⟨⟨hT, hA, hn, hacts⟩, -⟩ := hC
    obtain ⟨d, rfl⟩ := x_1 (d := d) (by omega)
    obtain ⟨s', ho, e⟩ := x_upY (C := x_ev g_M P d) (k := 177) (N := mm) (β := xS) (R := fun i z => offY s z) (F := fun i z => (41, [some (.ref 1), some (.int (nI a)), some (.int (nI mm)), some (.int (nI b)), some (.int (nI mt)), some (.int (sm (fun i => if bt (msk (yI (wT W) b (wA W, a + i, 0, 0)).1.1) mt = true then 1 else 0) i)), some (.int (nI i))], [], mkH xs z)) (fun i z hi ho => by
      have hc : ¬ nI mm ≤ nI i := nI_ge hi (by omega)
      have hAz : clsS z 9 (wT W) (wA W) := clsS_at (fun q a b => (ho q (by omega)).1) hA
      obtain ⟨z1, q1, q2, q3⟩ := y_go (P := P) (d := d) (xs := xs) (by omega) hK hP (ho.T hT) hAz hO (a := a + i) (by omega) hb
      refine ⟨z1, ho.tr q2, fun r => ?_⟩
      simp only [w_Top_luck_0, w_Top_luck_6, w_Top_luck_9, w_Top_luck_14, w_Top_luck_20, w_Top_luck_24, w_Top_luck_29, w_Top_luck_32, w_Top_luck_35, w_Top_luck_47, w_Top_luck_51, w_Top_luck_55, w_Top_luck_65, w_Top_luck_71, w_Top_luck_74, w_Top_luck_77, w_Top_luck_82, w_Top_luck_91, w_Top_luck_41 (l6 := nI i), c_1, f_1_0, f_1_1, p_1_1, f_1_2, f_1_3, f_1_4, f_1_5, f_1_6, p_1_6, f_1_7, f_1_8, f_1_9, f_1_10, f_1_11, f_1_12, f_1_13, f_1_14, c_72, f_72_0, f_72_1, f_72_2, p_72_2, f_72_3, p_72_3, f_72_4, p_72_4, c_73, f_73_0, f_73_1, p_73_1, f_73_2, p_73_2, f_73_3, p_73_3, f_73_4, p_73_4, f_73_5, f_73_6, Option.some.injEq, exists_eq_left', exists_eq_left, Option.toList_some, Option.toList_none, List.cons_append, List.nil_append, true_and, and_true, Option.map_some, Option.map_none, hc, if_false, hla i (by omega), x_ev_iff q1, q3.1.1, t_bitOf (d := d) (by omega), bit_i w32, nI_1, sm]) mm 0 s (by omega) offY.rf
    refine ⟨s', ?_, offY.ke ho⟩
    rw [x_ev_in rfl (Nat.le_of_ble_eq_true rfl)]
    rw [show x_ent (x_nL g_M 177) [.ref 1, .int (nI a), .int (nI mm), .int (nI b), .int (nI mt)] = [some (.ref 1), some (.int (nI a)), some (.int (nI mm)), some (.int (nI b)), some (.int (nI mt)), none, none] from rfl]
    simp only [w_Top_luck_0, w_Top_luck_6, w_Top_luck_9, w_Top_luck_14, w_Top_luck_20, w_Top_luck_24, w_Top_luck_29, w_Top_luck_32, w_Top_luck_35, w_Top_luck_47, w_Top_luck_51, w_Top_luck_55, w_Top_luck_65, w_Top_luck_71, w_Top_luck_74, w_Top_luck_77, w_Top_luck_82, w_Top_luck_91, c_1, f_1_0, f_1_1, p_1_1, f_1_2, f_1_3, f_1_4, f_1_5, f_1_6, p_1_6, f_1_7, f_1_8, f_1_9, f_1_10, f_1_11, f_1_12, f_1_13, f_1_14, c_3, f_3_0, p_3_0, f_3_1, p_3_1, f_3_2, p_3_2, f_3_3, p_3_3, f_3_4, p_3_4, f_3_5, p_3_5, f_3_6, p_3_6, f_3_7, p_3_7, f_3_8, p_3_8, f_3_9, f_3_10, f_3_11, f_3_12, f_3_13, Option.some.injEq, exists_eq_left', exists_eq_left, Option.toList_some, Option.toList_none, List.cons_append, List.nil_append, true_and, and_true, Option.map_some, Option.map_none, t_isDrawn (d := d) (by omega) hT, h1, show ¬ ((1 : Int32) = 0) by decide, if_false, hm1, hm2, t_hasMatter (d := d) (by omega) hT, g1, not_false_eq_true, if_true]
    refine (e _).mpr ?_
    simp only [w_Top_luck_0, w_Top_luck_6, w_Top_luck_9, w_Top_luck_14, w_Top_luck_20, w_Top_luck_24, w_Top_luck_29, w_Top_luck_32, w_Top_luck_35, w_Top_luck_47, w_Top_luck_51, w_Top_luck_55, w_Top_luck_65, w_Top_luck_71, w_Top_luck_74, w_Top_luck_77, w_Top_luck_82, w_Top_luck_91, w_Top_luck_41 (l6 := nI mm), show nI mm ≤ nI mm from Int32.le_refl _, if_true]
  · intro d xs s hd hC; obtain ⟨hR, -⟩ := hC; have hT := hR.1
    obtain ⟨d, rfl⟩ := x_1 (d := d) (by omega)
    obtain ⟨s', ho, e⟩ := x_upY (C := x_ev g_M P d) (k := 329) (N := mm) (β := xS) (R := fun i z => offW s z) (F := fun i z => (40, [some (.ref 110), some (.int (nI a)), some (.int (nI mm)), some (.int (nI b)), some (.int (nI mt)), some (.int (sm (fun i => if bt (msk (yI (wT W) b (wA W, a + i, 0, 0)).1.1) mt = true then 1 else 0) i)), some (.int (nI i))], [], mkH xs z)) (fun i z hi ho => by
      have hc : ¬ nI mm ≤ nI i := nI_ge hi (by omega)
      obtain ⟨z1, q1, q2, q3⟩ := ry_go (P := P) (d := d) (xs := xs) (by omega) hK hP (ho.R hR) hr (a := a + i) (by omega) hb
      have hYok : yOk (wT W) (yI (wT W) b (wA W, a + i, 0, 0)) := yI_ok hK hP b _ ⟨hO, by show a + i < _; omega⟩
      refine ⟨z1, ho.tr q2, fun r => ?_⟩
      simp only [w_Ref_luck_0, w_Ref_luck_6, w_Ref_luck_9, w_Ref_luck_18, w_Ref_luck_21, w_Ref_luck_28, w_Ref_luck_31, w_Ref_luck_34, w_Ref_luck_46, w_Ref_luck_57, w_Ref_luck_63, w_Ref_luck_68, w_Ref_luck_77, w_Ref_luck_40 (l6 := nI i), c_110, f_110_0, p_110_0, f_110_1, f_110_2, f_110_3, f_110_4, f_110_5, p_110_5, f_110_6, f_110_7, p_110_7, f_110_8, p_110_8, f_110_9, p_110_9, f_110_10, p_110_10, f_110_11, p_110_11, f_110_12, p_110_12, f_110_13, p_110_13, f_110_14, f_110_15, f_110_16, p_110_16, f_110_17, f_110_18, p_110_18, f_110_19, p_110_19, f_110_20, f_110_21, p_110_21, f_110_22, p_110_22, f_110_23, f_110_24, f_110_25, p_110_25, f_110_26, f_110_27, f_110_28, f_110_29, f_110_30, f_110_31, p_110_31, f_110_32, p_110_32, f_110_33, p_110_33, f_110_34, p_110_34, f_110_35, f_110_36, f_110_37, f_110_38, Option.some.injEq, exists_eq_left', exists_eq_left, Option.toList_some, Option.toList_none, List.cons_append, List.nil_append, true_and, and_true, Option.map_some, Option.map_none, hc, if_false, hla i (by omega), x_ev_iff q1, r_settledNow (d := d) (by omega) q3.1 hYok.1.1 hW, r_bit (d := d) (by omega), bit_i w32, nI_1, sm]) mm 0 s (by omega) offW.rf
    refine ⟨s', ?_, offW.ke ho⟩
    rw [x_ev_in rfl (Nat.le_of_ble_eq_true rfl)]
    rw [show x_ent (x_nL g_M 329) [.ref 110, .int (nI a), .int (nI mm), .int (nI b), .int (nI mt)] = [some (.ref 110), some (.int (nI a)), some (.int (nI mm)), some (.int (nI b)), some (.int (nI mt)), none, none] from rfl]
    simp only [w_Ref_luck_0, w_Ref_luck_6, w_Ref_luck_9, w_Ref_luck_18, w_Ref_luck_21, w_Ref_luck_28, w_Ref_luck_31, w_Ref_luck_34, w_Ref_luck_46, w_Ref_luck_57, w_Ref_luck_63, w_Ref_luck_68, w_Ref_luck_77, c_110, f_110_0, p_110_0, f_110_1, f_110_2, f_110_3, f_110_4, f_110_5, p_110_5, f_110_6, f_110_7, p_110_7, f_110_8, p_110_8, f_110_9, p_110_9, f_110_10, p_110_10, f_110_11, p_110_11, f_110_12, p_110_12, f_110_13, p_110_13, f_110_14, f_110_15, f_110_16, p_110_16, f_110_17, f_110_18, p_110_18, f_110_19, p_110_19, f_110_20, f_110_21, p_110_21, f_110_22, p_110_22, f_110_23, f_110_24, f_110_25, p_110_25, f_110_26, f_110_27, f_110_28, f_110_29, f_110_30, f_110_31, p_110_31, f_110_32, p_110_32, f_110_33, p_110_33, f_110_34, p_110_34, f_110_35, f_110_36, f_110_37, f_110_38, Option.some.injEq, exists_eq_left', exists_eq_left, Option.toList_some, Option.toList_none, List.cons_append, List.nil_append, true_and, and_true, Option.map_some, Option.map_none, r_areYears (d := d) (by omega) hT hK, h1, show ¬ ((1 : Int32) = 0) by decide, if_false, r_in (d := d) (by omega), e1, e2, hm1, hm2, r_isMatterI (d := d) (by omega) hT hW, g1, not_false_eq_true, if_true]
    refine (e _).mpr ?_
    simp only [w_Ref_luck_0, w_Ref_luck_6, w_Ref_luck_9, w_Ref_luck_18, w_Ref_luck_21, w_Ref_luck_28, w_Ref_luck_31, w_Ref_luck_34, w_Ref_luck_46, w_Ref_luck_57, w_Ref_luck_63, w_Ref_luck_68, w_Ref_luck_77, w_Ref_luck_40 (l6 := nI mm), show nI mm ≤ nI mm from Int32.le_refl _, if_true]
end YEARSK
