/-! game, move: the reference's play, and what both answer (own work) -/
theorem gZ_le {T : Tw} {p o j t : Nat} {A : As} : ∀ a w, gZ T p o j t A a = some w → w.1 < a := by
  intro a
  induction a with
  | zero => intro w h; cases h
  | succ a ih =>
    intro w h
    cases hg : gTk T A (gMv p o t) a with
    | none =>
      rw [gZ_n hg] at h
      have := ih w h
      omega
    | some B =>
      rw [gZ_s hg] at h
      unfold gUp at h
      split at h
      · cases h; exact Nat.lt_succ_self a
      · have := ih w h
        omega
section GAMEP
variable {P : Nat → List Value → Option Value} {xs : List Int32} {T : Tw} {p o n : Nat}
set_option maxHeartbeats 16000000 in
theorem r_playL {d : Nat} (hd : 8 ≤ d) (hK : tOk T) (hp : p < tP T) (ho : o < tP T) (hn : n ≤ 4) : ∀ (j t : Nat) (s : xS) (A : As) (o5 : Option Value), t + j = n → refT s 111 0 T → deepS s t T A → aOk T A → s.1 124 t = 0 → s.1 125 t = -1 → s.1 126 t = 0 →
    ∃ s' o5', (∀ r, x_R (x_ev g_M P d) 304 (12, [some (.ref 110), some (.int (nI p)), some (.int (nI o)), some (.int (nI n)), some (.int (nI t)), o5], [], mkH xs s) r ↔ x_R (x_ev g_M P d) 304 (71, [some (.ref 110), some (.int (nI p)), some (.int (nI o)), some (.int (nI n)), some (.int (nI t)), o5'], [.int (gV T p o j t A)], mkH xs s') r) ∧ offP t s s' ∧ (∀ k, j = k + 1 → s'.1 125 t = enc1 (gZ T p o k t A 31)) := by
  have hW := hK.1
  have w1 := hW.1
  intro j
  induction j with
  | zero =>
    intro t s A o5 ht hT hA hO h24 h25 h26
    obtain rfl : t = n := by omega
    obtain ⟨s1, q1, q2, q3⟩ := r_get (P := P) (d := d) (xs := xs) (t := t) (by omega) (by omega) hW hO.1 hA
    have hT1 := q2.T hT
    refine ⟨s1, o5, fun r => ?_, q2.P, fun k hk => by omega⟩
    simp only [w_Ref_play_0, w_Ref_play_4, w_Ref_play_9, w_Ref_play_18, w_Ref_play_24, w_Ref_play_28, w_Ref_play_31, w_Ref_play_36, w_Ref_play_42, w_Ref_play_48, w_Ref_play_51, w_Ref_play_57, w_Ref_play_60, w_Ref_play_64, w_Ref_play_68, w_Ref_play_78, w_Ref_play_81, w_Ref_play_91, w_Ref_play_94, w_Ref_play_101, w_Ref_play_108, w_Ref_play_111, w_Ref_play_117, w_Ref_play_121, w_Ref_play_124, w_Ref_play_129, w_Ref_play_132, w_Ref_play_136, w_Ref_play_137, w_Ref_play_142, w_Ref_play_145, w_Ref_play_148, w_Ref_play_154, w_Ref_play_163, w_Ref_play_12 (l4 := nI t), c_110, f_110_0, p_110_0, f_110_1, f_110_2, f_110_3, f_110_4, f_110_5, p_110_5, f_110_6, f_110_7, p_110_7, f_110_8, p_110_8, f_110_9, p_110_9, f_110_10, p_110_10, f_110_11, p_110_11, f_110_12, p_110_12, f_110_13, p_110_13, f_110_14, f_110_15, f_110_16, p_110_16, f_110_17, f_110_18, p_110_18, f_110_19, p_110_19, f_110_20, f_110_21, p_110_21, f_110_22, p_110_22, f_110_23, f_110_24, f_110_25, p_110_25, f_110_26, f_110_27, f_110_28, f_110_29, f_110_30, f_110_31, p_110_31, f_110_32, p_110_32, f_110_33, p_110_33, f_110_34, p_110_34, f_110_35, f_110_36, f_110_37, f_110_38, Option.some.injEq, exists_eq_left', exists_eq_left, Option.toList_some, Option.toList_none, List.cons_append, List.nil_append, true_and, and_true, Option.map_some, Option.map_none, x_ev_iff q1, if_true, not_true_eq_false, if_false, r_settledNow (d := d) (by omega) q3 hO.1 hW, r_sumOf (d := d) (by omega) hT1 hW hp, r_sumOf (d := d) (by omega) hT1 hW ho, gV]
  | succ j ih =>
    intro t s A o5 ht hT hA hO h24 h25 h26
    have hq : gMv p o t < tP T := by unfold gMv; split <;> omega
    have em : nI t - nI t / 2 * 2 = nI (t % 2) := pk_rem (d := 2) (by omega) (by omega) (by omega)
    have em0 : nI (t % 2) = 0 ↔ t % 2 = 0 := nI_eq (b := 0) (by omega) (by omega)
    have etn : ¬ nI t = nI n := fun z => by
      have := (nI_eq (by omega) (by omega)).mp z
      omega
    have x5 : ∀ f : Nat → Int32, x_rd f 5 (nI t) = some (f t) := fun f => x_rd_nI (by omega) (by omega)
    obtain ⟨⟨s', o5'⟩, ⟨hz, hAz, h24z, h25z, h26z⟩, e⟩ := x_upY (C := x_ev g_M P d) (k := 304) (N := 31) (β := xS × Option Value) (R := fun a z => offP t s z.1 ∧ deepS z.1 t T A ∧ z.1.1 124 t = nI a ∧ z.1.1 125 t = enc1 (gZ T p o j t A a) ∧ z.1.1 126 t = enc2 (gZ T p o j t A a)) (F := fun a z => (12, [some (.ref 110), some (.int (nI p)), some (.int (nI o)), some (.int (nI n)), some (.int (nI t)), z.2], [], mkH xs z.1)) (fun a zo ha hR => by
      obtain ⟨z, o8⟩ := zo
      obtain ⟨hz, hAz, h24z, h25z, h26z⟩ : offP t s z ∧ deepS z t T A ∧ z.1 124 t = nI a ∧ z.1 125 t = enc1 (gZ T p o j t A a) ∧ z.1 126 t = enc2 (gZ T p o j t A a) := hR
      obtain ⟨z1, q1, q2, q3⟩ := r_get (P := P) (d := d) (xs := xs) (t := t) (by omega) (by omega) hW hO.1 hAz
      have hc : nI a ≤ 30 := nI_le (b := 30) (by omega) (by omega)
      have c24 : z1.1 124 = z.1 124 := q2.1 124 (by omega) (by omega) (by omega)
      have g24 : z1.1 124 t = nI a := by rw [c24]; exact h24z
      have hT2 : refT (s_p z1 124 t (nI (a + 1))) 111 0 T := refT_off (s_p_o.1 111 (by omega)) (q2.T (hz.T hT))
      have hA2 : refS (s_p z1 124 t (nI (a + 1))) T A := refS_to (fun k _ => by rw [s_p_o.1 110 (by omega)]) (s_p_o.1 117 (by omega)) (s_p_o.1 118 (by omega)) q3
      generalize hz2 : s_p z1 124 t (nI (a + 1)) = z2 at *
      have zo2 : ∀ q, q ≠ 110 → q ≠ 117 → q ≠ 118 → q ≠ 124 → z2.1 q = z.1 q := fun q b c e f => by
        rw [← hz2, s_p_o.1 q f, q2.1 q b c e]
      have z24 : ∀ i, i ≠ t → z2.1 124 i = z.1 124 i := fun i hi => by
        rw [← hz2, ← c24]
        simp [s_p, hi]
      have z24t : z2.1 124 t = nI (a + 1) := by rw [← hz2]; simp [s_p]
      have op2 : offP t z z2 := ⟨fun q b c => zo2 q b (by omega) (by omega) (by omega), fun k b => by
        rw [← hz2, s_p_o.1 110 (by omega)]
        exact q2.2.1 k (by omega) (by omega) (by omega), by rw [← hz2]; exact q2.2.2, fun i hi => by rw [zo2 123 (by omega) (by omega) (by omega) (by omega)], fun i hi => ⟨z24 i (by omega), by rw [zo2 125 (by omega) (by omega) (by omega) (by omega)], by rw [zo2 126 (by omega) (by omega) (by omega) (by omega)]⟩⟩
      have mvs : ∀ (r : Option Value × xH), x_R (x_ev g_M P d) 304 (12, [some (.ref 110), some (.int (nI p)), some (.int (nI o)), some (.int (nI n)), some (.int (nI t)), o8], [], mkH xs z) r ↔ x_R (x_ev g_M P d) 304 (137, [some (.ref 110), some (.int (nI p)), some (.int (nI o)), some (.int (nI n)), some (.int (nI t)), some (.int (nI a))], [.int (nI (gMv p o t)), .ref 110], mkH xs z2) r := by
        intro r
        simp only [w_Ref_play_12 (l4 := nI t), w_Ref_play_18, w_Ref_play_24, w_Ref_play_28, w_Ref_play_31, w_Ref_play_104, w_Ref_play_108, w_Ref_play_111, w_Ref_play_117, w_Ref_play_121, w_Ref_play_124, w_Ref_play_129, w_Ref_play_132, w_Ref_play_136, c_110, f_110_0, p_110_0, f_110_1, f_110_2, f_110_3, f_110_4, f_110_5, p_110_5, f_110_6, f_110_7, p_110_7, f_110_8, p_110_8, f_110_9, p_110_9, f_110_10, p_110_10, f_110_11, p_110_11, f_110_12, p_110_12, f_110_13, p_110_13, f_110_14, f_110_15, f_110_16, p_110_16, f_110_17, f_110_18, p_110_18, f_110_19, p_110_19, f_110_20, f_110_21, p_110_21, f_110_22, p_110_22, f_110_23, f_110_24, f_110_25, p_110_25, f_110_26, f_110_27, f_110_28, f_110_29, f_110_30, f_110_31, p_110_31, f_110_32, p_110_32, f_110_33, p_110_33, f_110_34, p_110_34, f_110_35, f_110_36, f_110_37, f_110_38, e_124, i_124, Option.some.injEq, exists_eq_left', exists_eq_left, Option.toList_some, Option.toList_none, List.cons_append, List.nil_append, true_and, and_true, Option.map_some, Option.map_none, x_ev_iff q1, etn, if_false, x5, g24, hc, if_true, nI_1, nI_clamp (show t < 2 ^ 31 by omega), hz2, show ¬ ((2 : Int32) = 0) by decide, not_false_eq_true, em, em0]
        unfold gMv
        by_cases ht2 : t % 2 = 0
        · simp only [ht2, not_true_eq_false, if_false, if_true]
        · simp only [ht2, not_false_eq_true, if_true, if_false]
      have hct := fun r => r_canTurn (P := P) (d := d) (xs := xs) (by omega) hK (q := gMv p o t) (a := a) hq (by omega) hT2 hA2 hO (r := r)
      cases hg : gTk T A (gMv p o t) a with
      | none =>
        rw [hg] at hct
        refine ⟨(z2, some (.int (nI a))), ⟨hz.tr op2, deepS_at hW hO.1 (fun i _ _ => by rw [zo2 123 (by omega) (by omega) (by omega) (by omega)]) hAz, z24t, ?_, ?_⟩, fun r => ?_⟩
        · rw [gZ_n hg, zo2 125 (by omega) (by omega) (by omega) (by omega)]; exact h25z
        · rw [gZ_n hg, zo2 126 (by omega) (by omega) (by omega) (by omega)]; exact h26z
        · rw [mvs]
          simp only [w_Ref_play_137, w_Ref_play_142, w_Ref_play_145, c_110, f_110_0, p_110_0, f_110_1, f_110_2, f_110_3, f_110_4, f_110_5, p_110_5, f_110_6, f_110_7, p_110_7, f_110_8, p_110_8, f_110_9, p_110_9, f_110_10, p_110_10, f_110_11, p_110_11, f_110_12, p_110_12, f_110_13, p_110_13, f_110_14, f_110_15, f_110_16, p_110_16, f_110_17, f_110_18, p_110_18, f_110_19, p_110_19, f_110_20, f_110_21, p_110_21, f_110_22, p_110_22, f_110_23, f_110_24, f_110_25, p_110_25, f_110_26, f_110_27, f_110_28, f_110_29, f_110_30, f_110_31, p_110_31, f_110_32, p_110_32, f_110_33, p_110_33, f_110_34, p_110_34, f_110_35, f_110_36, f_110_37, f_110_38, Option.some.injEq, exists_eq_left', exists_eq_left, Option.toList_some, Option.toList_none, List.cons_append, List.nil_append, true_and, and_true, Option.map_some, Option.map_none, hct, Option.isSome_none, b01, Bool.false_eq_true, if_false, not_true_eq_false]
      | some B =>
        rw [hg] at hct
        obtain ⟨z3, a1, a2, a3⟩ := r_gAct (P := P) (d := d) (xs := xs) (by omega) hK hq (show a ≤ 30 by omega) hT2 hA2 hO hg
        have hOB := gTk_ok hK hO hg
        obtain ⟨z4, b1, b2, b3, b4, b5, b6⟩ := r_open0 (P := P) (d := d) (xs := xs) (t := t + 1) (by omega) (by omega) hW hOB.1 a3
        have hT4 := b2.T (a2.T hT2)
        obtain ⟨z5, o9, v1, v2, -⟩ := ih (t + 1) z4 B (some (.int (nI a))) (by omega) hT4 b3 hOB b4 b5 b6
        have op5 : offP (t + 1) z2 z5 := (a2.P.tr b2).tr v2
        have c5 := op5.2.2.2.2 t (by omega)
        have g25 : z5.1 125 t = enc1 (gZ T p o j t A a) := by rw [c5.2.1, zo2 125 (by omega) (by omega) (by omega) (by omega)]; exact h25z
        have g26 : z5.1 126 t = enc2 (gZ T p o j t A a) := by rw [c5.2.2, zo2 126 (by omega) (by omega) (by omega) (by omega)]; exact h26z
        have g245 : z5.1 124 t = nI (a + 1) := by rw [c5.1]; exact z24t
        obtain ⟨z6, u1, u2, u3, u4, u5, u6⟩ := r_gTake (P := P) (d := d) (xs := xs) (a := a) (v := gV T p o j (t + 1) B) (by omega) (t := t) (by omega) (fun w hw => by have := gZ_le a w hw; omega) g25 g26
        have op6 : offP t z5 z6 := ⟨fun q b c => u2 q (by omega) (by omega), fun k b => by rw [u2 110 (by omega) (by omega)], u3, fun i _ => by rw [u2 123 (by omega) (by omega)], fun i hi => ⟨by rw [u2 124 (by omega) (by omega)], (u4 i (by omega)).1, (u4 i (by omega)).2⟩⟩
        refine ⟨(z6, some (.int (gV T p o j (t + 1) B))), ⟨((hz.tr op2).tr op5.up).tr op6, deepS_at hW hO.1 (fun i b c => by rw [u2 123 (by omega) (by omega), op5.2.2.2.1 i (by omega), zo2 123 (by omega) (by omega) (by omega) (by omega)]) hAz, ?_, ?_, ?_⟩, fun r => ?_⟩
        · show z6.1 124 t = _
          rw [u2 124 (by omega) (by omega)]; exact g245
        · show z6.1 125 t = _
          rw [gZ_s hg]; exact u5
        · show z6.1 126 t = _
          rw [gZ_s hg]; exact u6
        · rw [mvs]
          have ht1 : ¬ nI (t + 1) = 0 := nI_ne0 (by omega) (by omega)
          simp only [w_Ref_play_137, w_Ref_play_142, w_Ref_play_148, w_Ref_play_154, w_Ref_play_163, c_110, f_110_0, p_110_0, f_110_1, f_110_2, f_110_3, f_110_4, f_110_5, p_110_5, f_110_6, f_110_7, p_110_7, f_110_8, p_110_8, f_110_9, p_110_9, f_110_10, p_110_10, f_110_11, p_110_11, f_110_12, p_110_12, f_110_13, p_110_13, f_110_14, f_110_15, f_110_16, p_110_16, f_110_17, f_110_18, p_110_18, f_110_19, p_110_19, f_110_20, f_110_21, p_110_21, f_110_22, p_110_22, f_110_23, f_110_24, f_110_25, p_110_25, f_110_26, f_110_27, f_110_28, f_110_29, f_110_30, f_110_31, p_110_31, f_110_32, p_110_32, f_110_33, p_110_33, f_110_34, p_110_34, f_110_35, f_110_36, f_110_37, f_110_38, Option.some.injEq, exists_eq_left', exists_eq_left, Option.toList_some, Option.toList_none, List.cons_append, List.nil_append, true_and, and_true, Option.map_some, Option.map_none, hct, Option.isSome_some, b01, if_true, show ¬ ((1 : Int32) = 0) by decide, not_false_eq_true, x_ev_iff a1, nI_1, x_ev_iff b1]
          refine (v1 r).trans ?_
          simp only [w_Ref_play_71 (l4 := nI (t + 1)), w_Ref_play_81, w_Ref_play_91, w_Ref_play_94, w_Ref_play_101, ht1, not_false_eq_true, if_true, pk_m1, c_110, f_110_0, p_110_0, f_110_1, f_110_2, f_110_3, f_110_4, f_110_5, p_110_5, f_110_6, f_110_7, p_110_7, f_110_8, p_110_8, f_110_9, p_110_9, f_110_10, p_110_10, f_110_11, p_110_11, f_110_12, p_110_12, f_110_13, p_110_13, f_110_14, f_110_15, f_110_16, p_110_16, f_110_17, f_110_18, p_110_18, f_110_19, p_110_19, f_110_20, f_110_21, p_110_21, f_110_22, p_110_22, f_110_23, f_110_24, f_110_25, p_110_25, f_110_26, f_110_27, f_110_28, f_110_29, f_110_30, f_110_31, p_110_31, f_110_32, p_110_32, f_110_33, p_110_33, f_110_34, p_110_34, f_110_35, f_110_36, f_110_37, f_110_38, e_124, i_124, Option.some.injEq, exists_eq_left', exists_eq_left, Option.toList_some, Option.toList_none, List.cons_append, List.nil_append, true_and, and_true, Option.map_some, Option.map_none, x5, g245, nI_pred, x_ev_iff u1]) 31 0 (s, o5) (by omega) ⟨offP.rf, hA, h24, h25, h26⟩
    have hz : offP t s s' := hz
    have hAz : deepS s' t T A := hAz
    have h24z : s'.1 124 t = nI 31 := h24z
    have h25z : s'.1 125 t = enc1 (gZ T p o j t A 31) := h25z
    have h26z : s'.1 126 t = enc2 (gZ T p o j t A 31) := h26z
    obtain ⟨z1, q1, q2, q3⟩ := r_get (P := P) (d := d) (xs := xs) (t := t) (by omega) (by omega) hW hO.1 hAz
    have g24 : z1.1 124 t = nI 31 := by rw [q2.1 124 (by omega) (by omega) (by omega)]; exact h24z
    have g26 : z1.1 126 t = enc2 (gZ T p o j t A 31) := by rw [q2.1 126 (by omega) (by omega) (by omega)]; exact h26z
    refine ⟨z1, o5', fun r => ?_, hz.tr q2.P, fun k hk => ?_⟩
    · refine (e r).trans ?_
      simp only [w_Ref_play_12 (l4 := nI t), w_Ref_play_18, w_Ref_play_24, w_Ref_play_28, w_Ref_play_31, w_Ref_play_36, w_Ref_play_64, w_Ref_play_68, c_110, f_110_0, p_110_0, f_110_1, f_110_2, f_110_3, f_110_4, f_110_5, p_110_5, f_110_6, f_110_7, p_110_7, f_110_8, p_110_8, f_110_9, p_110_9, f_110_10, p_110_10, f_110_11, p_110_11, f_110_12, p_110_12, f_110_13, p_110_13, f_110_14, f_110_15, f_110_16, p_110_16, f_110_17, f_110_18, p_110_18, f_110_19, p_110_19, f_110_20, f_110_21, p_110_21, f_110_22, p_110_22, f_110_23, f_110_24, f_110_25, p_110_25, f_110_26, f_110_27, f_110_28, f_110_29, f_110_30, f_110_31, p_110_31, f_110_32, p_110_32, f_110_33, p_110_33, f_110_34, p_110_34, f_110_35, f_110_36, f_110_37, f_110_38, e_124, i_124, e_126, i_126, Option.some.injEq, exists_eq_left', exists_eq_left, Option.toList_some, Option.toList_none, List.cons_append, List.nil_append, true_and, and_true, Option.map_some, Option.map_none, x_ev_iff q1, etn, if_false, x5, g24, g26, show ¬ (nI 31 ≤ 30) by decide, not_false_eq_true, if_true]
      exact Iff.rfl
    · obtain rfl : k = j := by omega
      rw [q2.1 125 (by omega) (by omega) (by omega)]; exact h25z
theorem r_play {d : Nat} (hd : 9 ≤ d) (hK : tOk T) (hp : p < tP T) (ho : o < tP T) (hn : n ≤ 4) {s : xS} {A : As} {acts : List Int32} (hR : refW s T acts) (hr : aRun T (aBegin T) acts = some A) : ∃ s', x_ev g_M P d 304 [.ref 110, .int (nI p), .int (nI o), .int (nI n)] (mkH xs s) (some (.int (gV T p o n 0 A)), mkH xs s') ∧ keR s s' ∧ (∀ k, n = k + 1 → s'.1 125 0 = enc1 (gZ T p o k 0 A 31)) := by
  have hO := aOk_run hK _ _ _ (aOk_begin hK) hr
  obtain ⟨d, rfl⟩ := x_1 (d := d) (by omega)
  obtain ⟨s1, q1, q2, q3⟩ := r_asItIs (P := P) (d := d) (xs := xs) (by omega) hR hK hr
  obtain ⟨s2, b1, b2, b3, b4, b5, b6⟩ := r_open0 (P := P) (d := d) (xs := xs) (t := 0) (by omega) (by omega) hK.1 hO.1 q3
  rw [show nI 0 = 0 from rfl] at b1
  obtain ⟨s3, o5, v1, v2, v3⟩ := r_playL (P := P) (xs := xs) (d := d) (by omega) hK hp ho hn n 0 s2 A none (by omega) (b2.T (q2.T hR.1)) b3 hO b4 b5 b6
  refine ⟨s3, ?_, ((q2.P.tr b2).tr v2).ke, v3⟩
  rw [show nI 0 = 0 from rfl] at v1
  rw [x_ev_in rfl (Nat.le_of_ble_eq_true rfl)]
  rw [show x_ent (x_nL g_M 304) [.ref 110, .int (nI p), .int (nI o), .int (nI n)] = [some (.ref 110), some (.int (nI p)), some (.int (nI o)), some (.int (nI n)), none, none] from rfl]
  simp only [w_Ref_play_0, w_Ref_play_4, w_Ref_play_9, c_110, f_110_0, p_110_0, f_110_1, f_110_2, f_110_3, f_110_4, f_110_5, p_110_5, f_110_6, f_110_7, p_110_7, f_110_8, p_110_8, f_110_9, p_110_9, f_110_10, p_110_10, f_110_11, p_110_11, f_110_12, p_110_12, f_110_13, p_110_13, f_110_14, f_110_15, f_110_16, p_110_16, f_110_17, f_110_18, p_110_18, f_110_19, p_110_19, f_110_20, f_110_21, p_110_21, f_110_22, p_110_22, f_110_23, f_110_24, f_110_25, p_110_25, f_110_26, f_110_27, f_110_28, f_110_29, f_110_30, f_110_31, p_110_31, f_110_32, p_110_32, f_110_33, p_110_33, f_110_34, p_110_34, f_110_35, f_110_36, f_110_37, f_110_38, Option.some.injEq, exists_eq_left', exists_eq_left, Option.toList_some, Option.toList_none, List.cons_append, List.nil_append, true_and, and_true, Option.map_some, Option.map_none, x_ev_iff q1, x_ev_iff b1]
  refine (v1 _).mpr ?_
  simp only [w_Ref_play_71, w_Ref_play_78, not_true_eq_false, if_false]
end GAMEP
def gmV (T : Tw) (x y n : Int32) : Int32 := if x < 0 then 0 else if nI (tP T) ≤ x then 0 else if y < 0 then 0 else if nI (tP T) ≤ y then 0 else if x = y then 0 else if n < 0 then 0 else if 4 < n then 0 else 1
theorem gmV_cs {T : Tw} (hW : tWf T) (x y n : Int32) : gmV T x y n = 0 ∨ ∃ p o k, p < tP T ∧ x = nI p ∧ o < tP T ∧ y = nI o ∧ k ≤ 4 ∧ n = nI k ∧ gmV T (nI p) (nI o) (nI k) = 1 := by
  have w1 := hW.1
  by_cases h1 : x < 0
  · left; unfold gmV; rw [if_pos h1]
  by_cases h2 : nI (tP T) ≤ x
  · left; unfold gmV; rw [if_neg h1, if_pos h2]
  by_cases h3 : y < 0
  · left; unfold gmV; rw [if_neg h1, if_neg h2, if_pos h3]
  by_cases h4 : nI (tP T) ≤ y
  · left; unfold gmV; rw [if_neg h1, if_neg h2, if_neg h3, if_pos h4]
  by_cases h5 : x = y
  · left; unfold gmV; rw [if_neg h1, if_neg h2, if_neg h3, if_neg h4, if_pos h5]
  by_cases h6 : n < 0
  · left; unfold gmV; rw [if_neg h1, if_neg h2, if_neg h3, if_neg h4, if_neg h5, if_pos h6]
  by_cases h7 : 4 < n
  · left; unfold gmV; rw [if_neg h1, if_neg h2, if_neg h3, if_neg h4, if_neg h5, if_neg h6, if_pos h7]
  right
  obtain ⟨p, hp, rfl⟩ := x_has (by omega) h1 h2
  obtain ⟨o, ho, rfl⟩ := x_has (by omega) h3 h4
  obtain ⟨k, hk, rfl⟩ := nI_of h6
  refine ⟨p, o, k, hp, rfl, ho, rfl, ?_, rfl, ?_⟩
  · apply Classical.byContradiction
    intro hz
    exact h7 (nI_lt (a := 4) (by omega) hk)
  · unfold gmV; rw [if_neg h1, if_neg h2, if_neg h3, if_neg h4, if_neg h5, if_neg h6, if_neg h7]
section GAMEK
variable {P : Nat → List Value → Option Value} {W : Wd}
theorem t_isGame {d : Nat} {xs : List Int32} {s : xS} {T : Tw} (hd : 2 ≤ d) (hT : clsT s 3 T) (x y n : Int32) {q : Option Value × xH} : x_ev g_M P d 161 [.ref 1, .int x, .int y, .int n] (mkH xs s) q ↔ q = (some (.int (gmV T x y n)), mkH xs s) := by
  obtain ⟨d, rfl⟩ := x_1 (d := d) (by omega)
  rw [x_ev_in rfl (Nat.le_of_ble_eq_true rfl)]
  rw [show x_ent (x_nL g_M 161) [.ref 1, .int x, .int y, .int n] = [some (.ref 1), some (.int x), some (.int y), some (.int n)] from rfl]
  simp only [w_Top_isGame_0, w_Top_isGame_4, w_Top_isGame_8, w_Top_isGame_11, w_Top_isGame_15, w_Top_isGame_19, w_Top_isGame_22, w_Top_isGame_27, w_Top_isGame_31, w_Top_isGame_36, w_Top_isGame_40, w_Top_isGame_41, c_1, f_1_0, f_1_1, p_1_1, f_1_2, f_1_3, f_1_4, f_1_5, f_1_6, p_1_6, f_1_7, f_1_8, f_1_9, f_1_10, f_1_11, f_1_12, f_1_13, f_1_14, c_3, f_3_0, p_3_0, f_3_1, p_3_1, f_3_2, p_3_2, f_3_3, p_3_3, f_3_4, p_3_4, f_3_5, p_3_5, f_3_6, p_3_6, f_3_7, p_3_7, f_3_8, p_3_8, f_3_9, f_3_10, f_3_11, f_3_12, f_3_13, Option.some.injEq, exists_eq_left', exists_eq_left, Option.toList_some, Option.toList_none, List.cons_append, List.nil_append, true_and, and_true, Option.map_some, Option.map_none, t_hasPerson (d := d) (by omega) hT, x_nb0, x_nb1]
  unfold gmV
  by_cases h1 : x < 0
  · simp [h1, eq_comm (a := q)]
  by_cases h2 : nI (tP T) ≤ x
  · simp [h1, h2, eq_comm (a := q)]
  by_cases h3 : y < 0
  · simp [h1, h2, h3, eq_comm (a := q)]
  by_cases h4 : nI (tP T) ≤ y
  · simp [h1, h2, h3, h4, eq_comm (a := q)]
  by_cases h5 : x = y
  · simp [h3, h4, h5, eq_comm (a := q)]
  by_cases h6 : n < 0
  · simp [h1, h2, h3, h4, h5, h6, eq_comm (a := q)]
  by_cases h7 : 4 < n <;> simp [h1, h2, h3, h4, h5, h6, h7, eq_comm (a := q)]
theorem r_isGame {d : Nat} {xs : List Int32} {s : xS} {T : Tw} (hd : 3 ≤ d) (hT : refT s 111 0 T) (hW : tWf T) (x y n : Int32) {q : Option Value × xH} : x_ev g_M P d 305 [.ref 110, .int x, .int y, .int n] (mkH xs s) q ↔ q = (some (.int (gmV T x y n)), mkH xs s) := by
  have e0 : n.toInt64 < 0 ↔ n < 0 := w_lt n 0
  have e1 : (4 : Int64) < n.toInt64 ↔ 4 < n := w_lt 4 n
  obtain ⟨d, rfl⟩ := x_1 (d := d) (by omega)
  rw [x_ev_in rfl (Nat.le_of_ble_eq_true rfl)]
  rw [show x_ent (x_nL g_M 305) [.ref 110, .int x, .int y, .int n] = [some (.ref 110), some (.int x), some (.int y), some (.int n)] from rfl]
  simp only [w_Ref_isGame_0, w_Ref_isGame_5, w_Ref_isGame_8, w_Ref_isGame_13, w_Ref_isGame_16, w_Ref_isGame_21, w_Ref_isGame_30, w_Ref_isGame_33, w_Ref_isGame_37, w_Ref_isGame_38, c_110, f_110_0, p_110_0, f_110_1, f_110_2, f_110_3, f_110_4, f_110_5, p_110_5, f_110_6, f_110_7, p_110_7, f_110_8, p_110_8, f_110_9, p_110_9, f_110_10, p_110_10, f_110_11, p_110_11, f_110_12, p_110_12, f_110_13, p_110_13, f_110_14, f_110_15, f_110_16, p_110_16, f_110_17, f_110_18, p_110_18, f_110_19, p_110_19, f_110_20, f_110_21, p_110_21, f_110_22, p_110_22, f_110_23, f_110_24, f_110_25, p_110_25, f_110_26, f_110_27, f_110_28, f_110_29, f_110_30, f_110_31, p_110_31, f_110_32, p_110_32, f_110_33, p_110_33, f_110_34, p_110_34, f_110_35, f_110_36, f_110_37, f_110_38, Option.some.injEq, exists_eq_left', exists_eq_left, Option.toList_some, Option.toList_none, List.cons_append, List.nil_append, true_and, and_true, Option.map_some, Option.map_none, r_isPerson (d := d) (by omega) hT hW, r_in (d := d) (by omega), e0, e1, x_nb0, x_nb1]
  unfold gmV
  by_cases h1 : x < 0
  · simp [h1, eq_comm (a := q)]
  by_cases h2 : nI (tP T) ≤ x
  · simp [h1, h2, eq_comm (a := q)]
  by_cases h3 : y < 0
  · simp [h1, h2, h3, eq_comm (a := q)]
  by_cases h4 : nI (tP T) ≤ y
  · simp [h1, h2, h3, h4, eq_comm (a := q)]
  by_cases h5 : x = y
  · simp [h3, h4, h5, eq_comm (a := q)]
  by_cases h6 : n < 0
  · simp [h1, h2, h3, h4, h5, h6, eq_comm (a := q)]
  by_cases h7 : 4 < n <;> simp [h1, h2, h3, h4, h5, h6, h7, eq_comm (a := q)]
set_option maxHeartbeats 4000000 in
theorem k_game (h : wOk W) (x y n : Int32) : ask2 P 159 306 [.int x, .int y, .int n] W := by
  obtain ⟨hK, hl60, hr, hrest⟩ := h; have hW := hK.1; have hO := aOk_run hK _ _ _ (aOk_begin hK) hr; have hAw := hO.1; have w1 := hW.1; have w2 := hW.2.1; have h9 : 9 ∈ g_SP := by decide
  rcases gmV_cs hW x y n with h0 | ⟨p, o, k, hp, rfl, ho, rfl, hk, rfl, h1⟩
  · refine ⟨-1000, cAsk0 ?_, rAsk0 ?_⟩
    · intro d xs s hd hC; obtain ⟨⟨hT, hA, hn, hacts⟩, -⟩ := hC
      obtain ⟨d, rfl⟩ := x_1 (d := d) (by omega)
      rw [x_ev_in rfl (Nat.le_of_ble_eq_true rfl)]
      rw [show x_ent (x_nL g_M 159) [.ref 1, .int x, .int y, .int n] = [some (.ref 1), some (.int x), some (.int y), some (.int n)] from rfl]
      simp only [w_Top_game_0, w_Top_game_7, w_Top_game_10, w_Top_game_14, w_Top_game_18, w_Top_game_22, w_Top_game_28, c_1, f_1_0, f_1_1, p_1_1, f_1_2, f_1_3, f_1_4, f_1_5, f_1_6, p_1_6, f_1_7, f_1_8, f_1_9, f_1_10, f_1_11, f_1_12, f_1_13, f_1_14, Option.some.injEq, exists_eq_left', exists_eq_left, Option.toList_some, Option.toList_none, List.cons_append, List.nil_append, true_and, and_true, Option.map_some, Option.map_none, t_isGame (d := d) (by omega) hT, h0, not_true_eq_false, if_false]
    · intro d xs s hd hC; obtain ⟨hR, -⟩ := hC; have hT := hR.1
      obtain ⟨d, rfl⟩ := x_1 (d := d) (by omega)
      rw [x_ev_in rfl (Nat.le_of_ble_eq_true rfl)]
      rw [show x_ent (x_nL g_M 306) [.ref 110, .int x, .int y, .int n] = [some (.ref 110), some (.int x), some (.int y), some (.int n)] from rfl]
      simp only [w_Ref_game_0, w_Ref_game_7, w_Ref_game_10, w_Ref_game_17, w_Ref_game_20, w_Ref_game_23, c_110, f_110_0, p_110_0, f_110_1, f_110_2, f_110_3, f_110_4, f_110_5, p_110_5, f_110_6, f_110_7, p_110_7, f_110_8, p_110_8, f_110_9, p_110_9, f_110_10, p_110_10, f_110_11, p_110_11, f_110_12, p_110_12, f_110_13, p_110_13, f_110_14, f_110_15, f_110_16, p_110_16, f_110_17, f_110_18, p_110_18, f_110_19, p_110_19, f_110_20, f_110_21, p_110_21, f_110_22, p_110_22, f_110_23, f_110_24, f_110_25, p_110_25, f_110_26, f_110_27, f_110_28, f_110_29, f_110_30, f_110_31, p_110_31, f_110_32, p_110_32, f_110_33, p_110_33, f_110_34, p_110_34, f_110_35, f_110_36, f_110_37, f_110_38, Option.some.injEq, exists_eq_left', exists_eq_left, Option.toList_some, Option.toList_none, List.cons_append, List.nil_append, true_and, and_true, Option.map_some, Option.map_none, r_isGame (d := d) (by omega) hT hW, h0, if_true]
  · refine ⟨gV (wT W) p o k 0 (wA W), cAsk ?_, rAsk ?_⟩
    · intro d xs s hd hC; obtain ⟨⟨hT, hA, hn, hacts⟩, -⟩ := hC
      obtain ⟨d, rfl⟩ := x_1 (d := d) (by omega)
      obtain ⟨s', q1, q2, -⟩ := s_play (P := P) (d := d) (xs := xs) (by omega) hK hp ho hk hT hA hO
      refine ⟨s', ?_, q2⟩
      rw [x_ev_in rfl (Nat.le_of_ble_eq_true rfl)]
      rw [show x_ent (x_nL g_M 159) [.ref 1, .int (nI p), .int (nI o), .int (nI k)] = [some (.ref 1), some (.int (nI p)), some (.int (nI o)), some (.int (nI k))] from rfl]
      simp only [w_Top_game_0, w_Top_game_7, w_Top_game_10, w_Top_game_14, w_Top_game_18, w_Top_game_22, w_Top_game_28, c_1, f_1_0, f_1_1, p_1_1, f_1_2, f_1_3, f_1_4, f_1_5, f_1_6, p_1_6, f_1_7, f_1_8, f_1_9, f_1_10, f_1_11, f_1_12, f_1_13, f_1_14, c_31, f_31_0, f_31_1, f_31_2, p_31_2, f_31_3, p_31_3, f_31_4, p_31_4, f_31_5, p_31_5, Option.some.injEq, exists_eq_left', exists_eq_left, Option.toList_some, Option.toList_none, List.cons_append, List.nil_append, true_and, and_true, Option.map_some, Option.map_none, t_isGame (d := d) (by omega) hT, h1, show ¬ ((1 : Int32) = 0) by decide, not_false_eq_true, if_true, x_ev_iff q1]
    · intro d xs s hd hC; obtain ⟨hR, -⟩ := hC; have hT := hR.1
      obtain ⟨d, rfl⟩ := x_1 (d := d) (by omega)
      obtain ⟨s', q1, q2, -⟩ := r_play (P := P) (d := d) (xs := xs) (by omega) hK hp ho hk hR hr
      refine ⟨s', ?_, q2⟩
      rw [x_ev_in rfl (Nat.le_of_ble_eq_true rfl)]
      rw [show x_ent (x_nL g_M 306) [.ref 110, .int (nI p), .int (nI o), .int (nI k)] = [some (.ref 110), some (.int (nI p)), some (.int (nI o)), some (.int (nI k))] from rfl]
      simp only [w_Ref_game_0, w_Ref_game_7, w_Ref_game_10, w_Ref_game_17, w_Ref_game_20, w_Ref_game_23, c_110, f_110_0, p_110_0, f_110_1, f_110_2, f_110_3, f_110_4, f_110_5, p_110_5, f_110_6, f_110_7, p_110_7, f_110_8, p_110_8, f_110_9, p_110_9, f_110_10, p_110_10, f_110_11, p_110_11, f_110_12, p_110_12, f_110_13, p_110_13, f_110_14, f_110_15, f_110_16, p_110_16, f_110_17, f_110_18, p_110_18, f_110_19, p_110_19, f_110_20, f_110_21, p_110_21, f_110_22, p_110_22, f_110_23, f_110_24, f_110_25, p_110_25, f_110_26, f_110_27, f_110_28, f_110_29, f_110_30, f_110_31, p_110_31, f_110_32, p_110_32, f_110_33, p_110_33, f_110_34, p_110_34, f_110_35, f_110_36, f_110_37, f_110_38, Option.some.injEq, exists_eq_left', exists_eq_left, Option.toList_some, Option.toList_none, List.cons_append, List.nil_append, true_and, and_true, Option.map_some, Option.map_none, r_isGame (d := d) (by omega) hT hW, h1, show ¬ ((1 : Int32) = 0) by decide, if_false, x_ev_iff q1]
set_option maxHeartbeats 4000000 in
theorem k_move (h : wOk W) (x y n : Int32) : ask2 P 160 307 [.int x, .int y, .int n] W := by
  obtain ⟨hK, hl60, hr, hrest⟩ := h; have hW := hK.1; have hO := aOk_run hK _ _ _ (aOk_begin hK) hr; have hAw := hO.1; have w1 := hW.1; have w2 := hW.2.1; have h9 : 9 ∈ g_SP := by decide
  rcases gmV_cs hW x y n with h0 | ⟨p, o, k, hp, rfl, ho, rfl, hk, rfl, h1⟩
  · refine ⟨-2, cAsk0 ?_, rAsk0 ?_⟩
    · intro d xs s hd hC; obtain ⟨⟨hT, hA, hn, hacts⟩, -⟩ := hC
      obtain ⟨d, rfl⟩ := x_1 (d := d) (by omega)
      rw [x_ev_in rfl (Nat.le_of_ble_eq_true rfl)]
      rw [show x_ent (x_nL g_M 160) [.ref 1, .int x, .int y, .int n] = [some (.ref 1), some (.int x), some (.int y), some (.int n)] from rfl]
      simp only [w_Top_move_0, w_Top_move_7, w_Top_move_10, w_Top_move_13, w_Top_move_17, w_Top_move_21, w_Top_move_27, w_Top_move_32, w_Top_move_35, c_1, f_1_0, f_1_1, p_1_1, f_1_2, f_1_3, f_1_4, f_1_5, f_1_6, p_1_6, f_1_7, f_1_8, f_1_9, f_1_10, f_1_11, f_1_12, f_1_13, f_1_14, Option.some.injEq, exists_eq_left', exists_eq_left, Option.toList_some, Option.toList_none, List.cons_append, List.nil_append, true_and, and_true, Option.map_some, Option.map_none, t_isGame (d := d) (by omega) hT, h0, not_true_eq_false, if_false]
    · intro d xs s hd hC; obtain ⟨hR, -⟩ := hC; have hT := hR.1
      obtain ⟨d, rfl⟩ := x_1 (d := d) (by omega)
      rw [x_ev_in rfl (Nat.le_of_ble_eq_true rfl)]
      rw [show x_ent (x_nL g_M 307) [.ref 110, .int x, .int y, .int n] = [some (.ref 110), some (.int x), some (.int y), some (.int n)] from rfl]
      simp only [w_Ref_move_0, w_Ref_move_7, w_Ref_move_10, w_Ref_move_13, w_Ref_move_20, w_Ref_move_25, w_Ref_move_29, w_Ref_move_33, w_Ref_move_35, c_110, f_110_0, p_110_0, f_110_1, f_110_2, f_110_3, f_110_4, f_110_5, p_110_5, f_110_6, f_110_7, p_110_7, f_110_8, p_110_8, f_110_9, p_110_9, f_110_10, p_110_10, f_110_11, p_110_11, f_110_12, p_110_12, f_110_13, p_110_13, f_110_14, f_110_15, f_110_16, p_110_16, f_110_17, f_110_18, p_110_18, f_110_19, p_110_19, f_110_20, f_110_21, p_110_21, f_110_22, p_110_22, f_110_23, f_110_24, f_110_25, p_110_25, f_110_26, f_110_27, f_110_28, f_110_29, f_110_30, f_110_31, p_110_31, f_110_32, p_110_32, f_110_33, p_110_33, f_110_34, p_110_34, f_110_35, f_110_36, f_110_37, f_110_38, Option.some.injEq, exists_eq_left', exists_eq_left, Option.toList_some, Option.toList_none, List.cons_append, List.nil_append, true_and, and_true, Option.map_some, Option.map_none, r_isGame (d := d) (by omega) hT hW, h0, not_true_eq_false, if_false]
  · refine ⟨gFa (wT W) p o k 0 (wA W) (-1), cAsk ?_, rAsk ?_⟩
    · intro d xs s hd hC; obtain ⟨⟨hT, hA, hn, hacts⟩, -⟩ := hC
      obtain ⟨d, rfl⟩ := x_1 (d := d) (by omega)
      obtain ⟨s', q1, q2, q3⟩ := s_play (P := P) (d := d) (xs := xs) (by omega) hK hp ho hk hT hA hO
      refine ⟨s', ?_, q2⟩
      rw [x_ev_in rfl (Nat.le_of_ble_eq_true rfl)]
      rw [show x_ent (x_nL g_M 160) [.ref 1, .int (nI p), .int (nI o), .int (nI k)] = [some (.ref 1), some (.int (nI p)), some (.int (nI o)), some (.int (nI k))] from rfl]
      simp only [w_Top_move_0, w_Top_move_7, w_Top_move_10, w_Top_move_13, w_Top_move_17, w_Top_move_21, w_Top_move_27, w_Top_move_32, w_Top_move_35, c_1, f_1_0, f_1_1, p_1_1, f_1_2, f_1_3, f_1_4, f_1_5, f_1_6, p_1_6, f_1_7, f_1_8, f_1_9, f_1_10, f_1_11, f_1_12, f_1_13, f_1_14, c_31, f_31_0, f_31_1, f_31_2, p_31_2, f_31_3, p_31_3, f_31_4, p_31_4, f_31_5, p_31_5, Option.some.injEq, exists_eq_left', exists_eq_left, Option.toList_some, Option.toList_none, List.cons_append, List.nil_append, true_and, and_true, Option.map_some, Option.map_none, t_isGame (d := d) (by omega) hT, h1, show ¬ ((1 : Int32) = 0) by decide, not_false_eq_true, if_true, x_ev_iff q1, q3]
    · intro d xs s hd hC; obtain ⟨hR, -⟩ := hC; have hT := hR.1
      obtain ⟨d, rfl⟩ := x_1 (d := d) (by omega)
      obtain ⟨s', q1, q2, q3⟩ := r_play (P := P) (d := d) (xs := xs) (by omega) hK hp ho hk hR hr
      refine ⟨s', ?_, q2⟩
      cases k with
      | zero =>
        rw [x_ev_in rfl (Nat.le_of_ble_eq_true rfl)]
        rw [show x_ent (x_nL g_M 307) [.ref 110, .int (nI p), .int (nI o), .int (nI 0)] = [some (.ref 110), some (.int (nI p)), some (.int (nI o)), some (.int (nI 0))] from rfl]
        simp only [w_Ref_move_0, w_Ref_move_7, w_Ref_move_10, w_Ref_move_13, w_Ref_move_20, w_Ref_move_25, w_Ref_move_29, w_Ref_move_33, w_Ref_move_35, c_110, f_110_0, p_110_0, f_110_1, f_110_2, f_110_3, f_110_4, f_110_5, p_110_5, f_110_6, f_110_7, p_110_7, f_110_8, p_110_8, f_110_9, p_110_9, f_110_10, p_110_10, f_110_11, p_110_11, f_110_12, p_110_12, f_110_13, p_110_13, f_110_14, f_110_15, f_110_16, p_110_16, f_110_17, f_110_18, p_110_18, f_110_19, p_110_19, f_110_20, f_110_21, p_110_21, f_110_22, p_110_22, f_110_23, f_110_24, f_110_25, p_110_25, f_110_26, f_110_27, f_110_28, f_110_29, f_110_30, f_110_31, p_110_31, f_110_32, p_110_32, f_110_33, p_110_33, f_110_34, p_110_34, f_110_35, f_110_36, f_110_37, f_110_38, Option.some.injEq, exists_eq_left', exists_eq_left, Option.toList_some, Option.toList_none, List.cons_append, List.nil_append, true_and, and_true, Option.map_some, Option.map_none, r_isGame (d := d) (by omega) hT hW, h1, show ¬ ((1 : Int32) = 0) by decide, not_false_eq_true, if_true, x_ev_iff q1, show (nI 0 = 0) ↔ True by decide, not_true_eq_false, if_false]
        rfl
      | succ k =>
        have e3 := q3 k rfl
        have hx : x_rd (s'.1 125) 5 0 = some (enc1 (gZ (wT W) p o k 0 (wA W) 31)) := by rw [show (0 : Int32) = nI 0 from rfl, x_rd_nI (by omega) (by omega), e3]
        have he : gFa (wT W) p o (k + 1) 0 (wA W) (-1) = enc1 (gZ (wT W) p o k 0 (wA W) 31) := by
          rw [gFa_s]
          unfold gEa enc1
          rw [if_pos rfl]
        rw [he]
        rw [x_ev_in rfl (Nat.le_of_ble_eq_true rfl)]
        rw [show x_ent (x_nL g_M 307) [.ref 110, .int (nI p), .int (nI o), .int (nI (k + 1))] = [some (.ref 110), some (.int (nI p)), some (.int (nI o)), some (.int (nI (k + 1)))] from rfl]
        simp only [w_Ref_move_0, w_Ref_move_7, w_Ref_move_10, w_Ref_move_13, w_Ref_move_20, w_Ref_move_25, w_Ref_move_29, w_Ref_move_33, w_Ref_move_35, c_110, f_110_0, p_110_0, f_110_1, f_110_2, f_110_3, f_110_4, f_110_5, p_110_5, f_110_6, f_110_7, p_110_7, f_110_8, p_110_8, f_110_9, p_110_9, f_110_10, p_110_10, f_110_11, p_110_11, f_110_12, p_110_12, f_110_13, p_110_13, f_110_14, f_110_15, f_110_16, p_110_16, f_110_17, f_110_18, p_110_18, f_110_19, p_110_19, f_110_20, f_110_21, p_110_21, f_110_22, p_110_22, f_110_23, f_110_24, f_110_25, p_110_25, f_110_26, f_110_27, f_110_28, f_110_29, f_110_30, f_110_31, p_110_31, f_110_32, p_110_32, f_110_33, p_110_33, f_110_34, p_110_34, f_110_35, f_110_36, f_110_37, f_110_38, e_125, i_125, Option.some.injEq, exists_eq_left', exists_eq_left, Option.toList_some, Option.toList_none, List.cons_append, List.nil_append, true_and, and_true, Option.map_some, Option.map_none, r_isGame (d := d) (by omega) hT hW, h1, show ¬ ((1 : Int32) = 0) by decide, not_false_eq_true, if_true, x_ev_iff q1, nI_ne0 (show 0 < k + 1 by omega) (show k + 1 < 2 ^ 31 by omega), hx]
end GAMEK
