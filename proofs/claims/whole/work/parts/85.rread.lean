/-! THE READER of the reference: a MATTER, a LINE, all LINES (own work) -/
section RREAD
variable {P : Nat → List Value → Option Value} {d : Nat} {xs : List Int32} {b : Nat → Int32} {n : Nat}
/-- the second party: the same as the first is a FAULT of its own -/
theorem r_second (hd : 4 ≤ d) {s : xS} {t : Tk} (ht : tpR s b n) (hok : tkOk n t) (htk : tkR s b n t) {x u : Int32} (hx : x ≤ 100) {k : Nat} (hk : k < 135) (hu : s.1 116 k = u) (hu8 : t.2 = none → ∃ j, j < 8 ∧ u = nI j) {l : Int32} (hl : l = nI k) : ∃ s1, (∀ r, x_R (x_ev g_M P d) 222 (44, [some (.ref 110), some (.int l)], [], mkH xs s) r ↔ x_R (x_ev g_M P d) 222 (77, [some (.ref 110), some (.int l)], [], mkH xs s1) r) ∧ offU s s1 ∧ ∃ s2, x_ev g_M P d 215 [.ref 110, .int 0, .int x] (mkH xs s1) (some (.int (tkN b n x u t).1), mkH xs s2) ∧ offU s1 s2 ∧ tkR s2 b n (tkN b n x u t).2 := by
  subst hl
  have a4 := htk.2.2.2.1
  have hk4 := kdT_4 b n t.1
  have c0 : ∀ z : xS, x_rd (z.1 116) 135 (nI k) = some (z.1 116 k) := fun z => rd116 z hk
  by_cases hn : t.2 = none
  · by_cases hk2 : kdT b n t.1 = 2
    · have kk : nI (kdT b n t.1) = 2 := by rw [hk2]; rfl
      have hv := htk.2.2.2.2.1 hk2
      obtain ⟨e1, e2⟩ := vT_R hk2
      by_cases he : nI (vR b n t.1) = u
      · obtain ⟨j, hj, ej⟩ := hu8 hn
        have ev : vR b n t.1 = j := by rw [ej] at he; exact (nI_eq (by omega) (by omega)).mp he
        have et : nI (vT b n t.1) = u := by rw [e1, ev, Nat.min_eq_left (by omega), ej]
        obtain ⟨s1, q1, q2, q3⟩ := r_errs (P := P) (d := d) (xs := xs) (by omega) hok.2 htk 2
        rw [show nI 2 = 2 from rfl] at q1
        rw [hn] at q3
        have q3 : tkR s1 b n (t.1, some (2, t.1)) := q3
        have ok1 : tkOk n (t.1, some (2, t.1)) := ⟨hok.1, fOk_s (by omega) (by omega) (Nat.le_trans hok.1 ht.1)⟩
        obtain ⟨s2, m1, m2, m3⟩ := r_number (P := P) (d := d) (xs := xs) (by omega) (ht.off (q2.1 114 (by omega))) ok1 q3 hx
        have er : tkN b n x u t = (0, t.1, some (2, t.1)) := by unfold tkN; rw [if_pos hn, if_pos hk2, if_pos (Or.inr et)]
        rw [tkN_s (by intro w; cases w)] at m1 m3
        rw [er]
        refine ⟨s1, fun r => ?_, q2, s2, m1, m2, m3⟩
        simp only [w_Ref_readMatter_44, w_Ref_readMatter_48, w_Ref_readMatter_51, w_Ref_readMatter_55, w_Ref_readMatter_59, w_Ref_readMatter_63, w_Ref_readMatter_67, w_Ref_readMatter_69, w_Ref_readMatter_72, c_110, f_110_0, p_110_0, f_110_1, f_110_2, f_110_3, f_110_4, f_110_5, p_110_5, f_110_6, f_110_7, p_110_7, f_110_8, p_110_8, f_110_9, p_110_9, f_110_10, p_110_10, f_110_11, p_110_11, f_110_12, p_110_12, f_110_13, p_110_13, f_110_14, f_110_15, f_110_16, p_110_16, f_110_17, f_110_18, p_110_18, f_110_19, p_110_19, f_110_20, f_110_21, p_110_21, f_110_22, p_110_22, f_110_23, f_110_24, f_110_25, p_110_25, f_110_26, f_110_27, f_110_28, f_110_29, f_110_30, f_110_31, p_110_31, f_110_32, p_110_32, f_110_33, p_110_33, f_110_34, p_110_34, f_110_35, f_110_36, f_110_37, f_110_38, e_116, i_116, Option.some.injEq, exists_eq_left', exists_eq_left, Option.toList_some, Option.toList_none, List.cons_append, List.nil_append, true_and, and_true, Option.map_some, Option.map_none, r_good (d := d) (by omega) hok.2 htk, hn, decide_true, b01, if_true, show ¬ ((1 : Int32) = 0) by decide, if_false, a4, kk, not_true_eq_false, hv, c0, hu, he, x_ev_iff q1]
      · obtain ⟨s2, m1, m2, m3⟩ := r_number (P := P) (d := d) (xs := xs) (by omega) ht hok htk hx
        have er : tkN b n x u t = tkN b n x (-1) t := by
          unfold tkN
          rw [if_pos hn, if_pos hn, if_pos hk2, if_pos hk2]
          by_cases hc : x < nI (vT b n t.1)
          · rw [if_pos (Or.inl hc), if_pos (Or.inl hc)]
          · have ee := vT_eq hx hk2 hc
            have n1 : ¬ (x < nI (vT b n t.1) ∨ nI (vT b n t.1) = u) := fun w => by
              rcases w with w | w
              · exact hc w
              · rw [← ee] at w; exact he w
            have n2 : ¬ (x < nI (vT b n t.1) ∨ nI (vT b n t.1) = -1) := fun w => by
              rcases w with w | w
              · exact hc w
              · exact nI_m1 (by omega) w
            rw [if_neg n1, if_neg n2]
        rw [er]
        refine ⟨s, fun r => ?_, offU.rf, s2, m1, m2, m3⟩
        simp only [w_Ref_readMatter_44, w_Ref_readMatter_48, w_Ref_readMatter_51, w_Ref_readMatter_55, w_Ref_readMatter_59, w_Ref_readMatter_63, w_Ref_readMatter_67, w_Ref_readMatter_69, c_110, f_110_0, p_110_0, f_110_1, f_110_2, f_110_3, f_110_4, f_110_5, p_110_5, f_110_6, f_110_7, p_110_7, f_110_8, p_110_8, f_110_9, p_110_9, f_110_10, p_110_10, f_110_11, p_110_11, f_110_12, p_110_12, f_110_13, p_110_13, f_110_14, f_110_15, f_110_16, p_110_16, f_110_17, f_110_18, p_110_18, f_110_19, p_110_19, f_110_20, f_110_21, p_110_21, f_110_22, p_110_22, f_110_23, f_110_24, f_110_25, p_110_25, f_110_26, f_110_27, f_110_28, f_110_29, f_110_30, f_110_31, p_110_31, f_110_32, p_110_32, f_110_33, p_110_33, f_110_34, p_110_34, f_110_35, f_110_36, f_110_37, f_110_38, e_116, i_116, Option.some.injEq, exists_eq_left', exists_eq_left, Option.toList_some, Option.toList_none, List.cons_append, List.nil_append, true_and, and_true, Option.map_some, Option.map_none, r_good (d := d) (by omega) hok.2 htk, hn, decide_true, b01, if_true, show ¬ ((1 : Int32) = 0) by decide, if_false, a4, kk, not_true_eq_false, hv, c0, hu, he, not_false_eq_true]
    · obtain ⟨s2, m1, m2, m3⟩ := r_number (P := P) (d := d) (xs := xs) (by omega) ht hok htk hx
      have kk : ¬ nI (kdT b n t.1) = 2 := fun w => hk2 ((nI_eq (b := 2) (by omega) (by omega)).mp w)
      have er : tkN b n x u t = tkN b n x (-1) t := by unfold tkN; rw [if_pos hn, if_pos hn, if_neg hk2, if_neg hk2]
      rw [er]
      refine ⟨s, fun r => ?_, offU.rf, s2, m1, m2, m3⟩
      simp only [w_Ref_readMatter_44, w_Ref_readMatter_48, w_Ref_readMatter_51, w_Ref_readMatter_55, c_110, f_110_0, p_110_0, f_110_1, f_110_2, f_110_3, f_110_4, f_110_5, p_110_5, f_110_6, f_110_7, p_110_7, f_110_8, p_110_8, f_110_9, p_110_9, f_110_10, p_110_10, f_110_11, p_110_11, f_110_12, p_110_12, f_110_13, p_110_13, f_110_14, f_110_15, f_110_16, p_110_16, f_110_17, f_110_18, p_110_18, f_110_19, p_110_19, f_110_20, f_110_21, p_110_21, f_110_22, p_110_22, f_110_23, f_110_24, f_110_25, p_110_25, f_110_26, f_110_27, f_110_28, f_110_29, f_110_30, f_110_31, p_110_31, f_110_32, p_110_32, f_110_33, p_110_33, f_110_34, p_110_34, f_110_35, f_110_36, f_110_37, f_110_38, Option.some.injEq, exists_eq_left', exists_eq_left, Option.toList_some, Option.toList_none, List.cons_append, List.nil_append, true_and, and_true, Option.map_some, Option.map_none, r_good (d := d) (by omega) hok.2 htk, hn, decide_true, b01, if_true, show ¬ ((1 : Int32) = 0) by decide, if_false, a4, kk, not_false_eq_true]
  · obtain ⟨s2, m1, m2, m3⟩ := r_number (P := P) (d := d) (xs := xs) (by omega) ht hok htk hx
    have er : tkN b n x u t = tkN b n x (-1) t := by rw [tkN_s hn, tkN_s hn]
    rw [er]
    refine ⟨s, fun r => ?_, offU.rf, s2, m1, m2, m3⟩
    simp only [w_Ref_readMatter_44, w_Ref_readMatter_48, c_110, f_110_0, p_110_0, f_110_1, f_110_2, f_110_3, f_110_4, f_110_5, p_110_5, f_110_6, f_110_7, p_110_7, f_110_8, p_110_8, f_110_9, p_110_9, f_110_10, p_110_10, f_110_11, p_110_11, f_110_12, p_110_12, f_110_13, p_110_13, f_110_14, f_110_15, f_110_16, p_110_16, f_110_17, f_110_18, p_110_18, f_110_19, p_110_19, f_110_20, f_110_21, p_110_21, f_110_22, p_110_22, f_110_23, f_110_24, f_110_25, p_110_25, f_110_26, f_110_27, f_110_28, f_110_29, f_110_30, f_110_31, p_110_31, f_110_32, p_110_32, f_110_33, p_110_33, f_110_34, p_110_34, f_110_35, f_110_36, f_110_37, f_110_38, Option.some.injEq, exists_eq_left', exists_eq_left, Option.toList_some, Option.toList_none, List.cons_append, List.nil_append, true_and, and_true, Option.map_some, Option.map_none, r_good (d := d) (by omega) hok.2 htk, hn, decide_false, b01, Bool.false_eq_true, if_true, if_false]
theorem i_m6 {M : Nat} (hM : M ≤ 6) : nI M - 1 ≤ 100 := i_m8 (by omega)
set_option maxHeartbeats 8000000 in
theorem r_readMatter (hd : 10 ≤ d) (hP : wdP P) {s : xS} {T : Tw} {t : Tk} (ht : tpR s b n) (hW : tWf T) (h8 : tM T < 8) (hok : tkOk n t) (htk : tkR s b n t) (hf : frF s T) : ∃ s', x_ev g_M P d 222 [.ref 110] (mkH xs s) (none, mkH xs s') ∧ tkR s' b n (rdM b n T t).1 ∧ tkOk n (rdM b n T t).1 ∧ offF s s' ∧ ((rdM b n T t).1.2 = none → frF s' (rdM b n T t).2) := by
  obtain ⟨d, rfl⟩ := x_1 (d := d) (by omega)
  have w1 := hW.1
  have f3 := hf.1.2.2.2.1
  have f4 := hf.1.2.2.2.2.1
  generalize hk : 19 + 7 * tM T = k
  have ek : (19 : Int32) + 7 * nI (tM T) = nI k := by rw [show (19 : Int32) = nI 19 from rfl, show (7 : Int32) = nI 7 from rfl, pk_mul, nI_add, hk]
  have c0 : ∀ z : xS, x_rd (z.1 116) 135 (nI k) = some (z.1 116 k) := fun z => rd116 z (by omega)
  have c1 : ∀ z : xS, x_rd (z.1 116) 135 (nI (k + 1)) = some (z.1 116 (k + 1)) := fun z => rd116 z (by omega)
  have c2 : ∀ z : xS, x_rd (z.1 116) 135 (nI (k + 2)) = some (z.1 116 (k + 2)) := fun z => rd116 z (by omega)
  have c3 : ∀ z : xS, x_rd (z.1 116) 135 (nI (k + 2 + 1)) = some (z.1 116 (k + 3)) := fun z => rd116 z (by omega)
  have c4 : ∀ z : xS, x_rd (z.1 116) 135 (nI (k + 4)) = some (z.1 116 (k + 4)) := fun z => rd116 z (by omega)
  have c5 : ∀ z : xS, x_rd (z.1 116) 135 (nI (k + 5)) = some (z.1 116 (k + 5)) := fun z => rd116 z (by omega)
  have c6 : ∀ z : xS, x_rd (z.1 116) 135 (nI (k + 6)) = some (z.1 116 (k + 6)) := fun z => rd116 z (by omega)
  have p2 : nI k + 2 = nI (k + 2) := nI_pl k 2
  have p4 : nI k + 4 = nI (k + 4) := nI_pl k 4
  have p5 : nI k + 5 = nI (k + 5) := nI_pl k 5
  have p6 : nI k + 6 = nI (k + 6) := nI_pl k 6
  have l0 : (nI k).toNatClampNeg = k := nI_clamp (by omega)
  have l1 : (nI (k + 1)).toNatClampNeg = k + 1 := nI_clamp (by omega)
  have l2 : (nI (k + 2)).toNatClampNeg = k + 2 := nI_clamp (by omega)
  have l3 : (nI (k + 2 + 1)).toNatClampNeg = k + 3 := nI_clamp (by omega)
  have l4 : (nI (k + 4)).toNatClampNeg = k + 4 := nI_clamp (by omega)
  have l5 : (nI (k + 5)).toNatClampNeg = k + 5 := nI_clamp (by omega)
  have l6 : (nI (k + 6)).toNatClampNeg = k + 6 := nI_clamp (by omega)
  -- the first party
  obtain ⟨s1, a1, a2, a3⟩ := r_number (P := P) (d := d) (xs := xs) (by omega) ht hok htk (i_m6 w1)
  have k1 : tkOk n (r0M b n T t).2 := tkN_ok (b := b) (x := nI (tP T) - 1) (u := -1) ht.1 hok
  have a1 : x_ev g_M P d 215 [.ref 110, .int 0, .int (nI (tP T) - 1)] (mkH xs s) (some (.int (r0M b n T t).1), mkH xs s1) := a1
  have a3 : tkR s1 b n (r0M b n T t).2 := a3
  have o1 := oC_p s1 116 k (r0M b n T t).1
  have v1 : (s_p s1 116 k (r0M b n T t).1).1 116 k = (r0M b n T t).1 := s_p_v _ _ _ _
  generalize hy1 : s_p s1 116 k (r0M b n T t).1 = y1 at *
  have F1 : offF s y1 := a2.F.tr o1.F
  -- its gain
  obtain ⟨s2, b1, b2, b3⟩ := r_freshGain (P := P) (d := d) (xs := xs) (by omega) hP (tpR_F F1 ht) k1 (tkR_o (o1.1 110 (by omega)) a3)
  have k2 : tkOk n (r1M b n T t).2 := tkG_ok (b := b) ht.1 k1
  have b1 : x_ev g_M P d 220 [.ref 110] (mkH xs y1) (some (.int (r1M b n T t).1), mkH xs s2) := b1
  have b3 : tkR s2 b n (r1M b n T t).2 := b3
  have o2 := oC_p s2 116 (k + 2) (r1M b n T t).1
  have v2 : (s_p s2 116 (k + 2) (r1M b n T t).1).1 116 (k + 2) = (r1M b n T t).1 := s_p_v _ _ _ _
  generalize hy2 : s_p s2 116 (k + 2) (r1M b n T t).1 = y2 at *
  have F2 : offF s y2 := (F1.tr b2.F).tr o2.F
  have hg : ∀ u : Tk, (tkG b n u).2.2 = none → u.2 = none := fun u hu => by
    unfold tkG at hu
    by_cases hc : (decide (u.2 = none) && isW b n 8 u.1) = true
    · rw [Bool.and_eq_true, decide_eq_true_eq] at hc; exact hc.1
    · rw [if_neg hc] at hu; exact (tkW_v (tkN_v hu).1).1
  -- the second
  obtain ⟨s3, st3, q2, s4, m1, m2, m3⟩ := r_second (P := P) (d := d) (xs := xs) (by omega) (tpR_F F2 ht) k2 (tkR_o (o2.1 110 (by omega)) b3) (i_m6 w1) (k := k) (by omega) (u := (r0M b n T t).1) (by rw [o2.2.1 k (by omega), b2.1 116 (by omega)]; exact v1) (fun hn => by
    have n0 : (r0M b n T t).2.2 = none := hg _ hn
    obtain ⟨-, -, -, j0, z4, z5, z6, -⟩ := tkN_v n0
    exact ⟨j0, by have := nI_pm (show tP T ≤ 8 by omega) z5 z6; omega, z4⟩) (l := nI k) rfl
  have k3 : tkOk n (r2M b n T t).2 := tkN_ok (b := b) (x := nI (tP T) - 1) (u := (r0M b n T t).1) ht.1 k2
  have m1 : x_ev g_M P d 215 [.ref 110, .int 0, .int (nI (tP T) - 1)] (mkH xs s3) (some (.int (r2M b n T t).1), mkH xs s4) := m1
  have m3 : tkR s4 b n (r2M b n T t).2 := m3
  have o4 := oC_p s4 116 (k + 1) (r2M b n T t).1
  have v4 : (s_p s4 116 (k + 1) (r2M b n T t).1).1 116 (k + 1) = (r2M b n T t).1 := s_p_v _ _ _ _
  generalize hy4 : s_p s4 116 (k + 1) (r2M b n T t).1 = y4 at *
  have F4 : offF s y4 := ((F2.tr q2.F).tr m2.F).tr o4.F
  -- its gain
  obtain ⟨s5, e1, e2, e3⟩ := r_freshGain (P := P) (d := d) (xs := xs) (by omega) hP (tpR_F F4 ht) k3 (tkR_o (o4.1 110 (by omega)) m3)
  have k4 : tkOk n (r3M b n T t).2 := tkG_ok (b := b) ht.1 k3
  have e1 : x_ev g_M P d 220 [.ref 110] (mkH xs y4) (some (.int (r3M b n T t).1), mkH xs s5) := e1
  have e3 : tkR s5 b n (r3M b n T t).2 := e3
  have o5 := oC_p s5 116 (k + 3) (r3M b n T t).1
  have v5 : (s_p s5 116 (k + 3) (r3M b n T t).1).1 116 (k + 3) = (r3M b n T t).1 := s_p_v _ _ _ _
  generalize hy5 : s_p s5 116 (k + 3) (r3M b n T t).1 = y5 at *
  have F5 : offF s y5 := (F4.tr e2.F).tr o5.F
  have o6 := oC_p y5 116 (k + 4) 0
  have v6 : (s_p y5 116 (k + 4) 0).1 116 (k + 4) = 0 := s_p_v _ _ _ _
  generalize hy6 : s_p y5 116 (k + 4) 0 = y6 at *
  have o7 := oC_p y6 116 (k + 5) 0
  have v7 : (s_p y6 116 (k + 5) 0).1 116 (k + 5) = 0 := s_p_v _ _ _ _
  generalize hy7 : s_p y6 116 (k + 5) 0 = y7 at *
  have o8 := oC_p y7 116 (k + 6) 0
  have v8 : (s_p y7 116 (k + 6) 0).1 116 (k + 6) = 0 := s_p_v _ _ _ _
  generalize hy8 : s_p y7 116 (k + 6) 0 = y8 at *
  have F8 : offF s y8 := ((F5.tr o6.F).tr o7.F).tr o8.F
  have rest : ∀ j, j < k ∨ k + 7 ≤ j → y8.1 116 j = s.1 116 j := fun j hj => by
    rw [o8.2.1 j (by omega), o7.2.1 j (by omega), o6.2.1 j (by omega), o5.2.1 j (by omega), e2.1 116 (by omega), o4.2.1 j (by omega), m2.1 116 (by omega), q2.1 116 (by omega), o2.2.1 j (by omega), b2.1 116 (by omega), o1.2.1 j (by omega), a2.1 116 (by omega)]
  have g0 : y8.1 116 k = (r0M b n T t).1 := by
    rw [o8.2.1 k (by omega), o7.2.1 k (by omega), o6.2.1 k (by omega), o5.2.1 k (by omega), e2.1 116 (by omega), o4.2.1 k (by omega), m2.1 116 (by omega), q2.1 116 (by omega), o2.2.1 k (by omega), b2.1 116 (by omega), v1]
  have g1 : y8.1 116 (k + 1) = (r2M b n T t).1 := by
    rw [o8.2.1 _ (by omega), o7.2.1 _ (by omega), o6.2.1 _ (by omega), o5.2.1 _ (by omega), e2.1 116 (by omega), v4]
  have g2 : y8.1 116 (k + 2) = (r1M b n T t).1 := by
    rw [o8.2.1 _ (by omega), o7.2.1 _ (by omega), o6.2.1 _ (by omega), o5.2.1 _ (by omega), e2.1 116 (by omega), o4.2.1 _ (by omega), m2.1 116 (by omega), q2.1 116 (by omega), v2]
  have g3 : y8.1 116 (k + 3) = (r3M b n T t).1 := by
    rw [o8.2.1 _ (by omega), o7.2.1 _ (by omega), o6.2.1 _ (by omega), v5]
  -- the MARKS
  obtain ⟨z, st, n2, n3, n4, n5, n6⟩ := r_mkL (P := P) (d := d) (xs := xs) (b := b) (n := n) (by omega) hP h8 hk.symm 3 ((r3M b n T t).2, 0, false, false) y8 rfl k4 (tpR_F F8 ht) (tkR_o (by rw [o8.1 110 (by omega), o7.1 110 (by omega), o6.1 110 (by omega), o5.1 110 (by omega)]) e3) ⟨by rw [o8.2.1 _ (by omega), o7.2.1 _ (by omega), v6], by rw [o8.2.1 _ (by omega), v7]; rfl, v8⟩ (by rw [rest 4 (by omega)]; exact f4)
  have z4 : z.1 116 4 = nI (tM T) := by rw [n5 4 (by omega) (by omega) (by omega), rest 4 (by omega)]; exact f4
  have oz := oC_p z 116 4 (nI (tM T + 1))
  have vz : (s_p z 116 4 (nI (tM T + 1))).1 116 4 = nI (tM T + 1) := s_p_v _ _ _ _
  generalize hyz : s_p z 116 4 (nI (tM T + 1)) = v at *
  have y1f : y1.1 116 3 = nI (tP T) := by rw [o1.2.1 3 (by omega), a2.1 116 (by omega)]; exact f3
  have s3f : s3.1 116 3 = nI (tP T) := by rw [q2.1 116 (by omega), o2.2.1 3 (by omega), b2.1 116 (by omega)]; exact y1f
  refine ⟨v, ?_, tkR_o (oz.1 110 (by omega)) n2, n3, (F8.tr n4).tr oz.F, fun hh => ?_⟩
  · rw [x_ev_in rfl (Nat.le_of_ble_eq_true rfl)]
    rw [show x_ent (x_nL g_M 222) [.ref 110] = [some (.ref 110), none] from rfl]
    simp only [w_Ref_readMatter_0, w_Ref_readMatter_8, w_Ref_readMatter_10, w_Ref_readMatter_17, w_Ref_readMatter_24, w_Ref_readMatter_26, w_Ref_readMatter_31, w_Ref_readMatter_32, w_Ref_readMatter_36, w_Ref_readMatter_43, c_110, f_110_0, p_110_0, f_110_1, f_110_2, f_110_3, f_110_4, f_110_5, p_110_5, f_110_6, f_110_7, p_110_7, f_110_8, p_110_8, f_110_9, p_110_9, f_110_10, p_110_10, f_110_11, p_110_11, f_110_12, p_110_12, f_110_13, p_110_13, f_110_14, f_110_15, f_110_16, p_110_16, f_110_17, f_110_18, p_110_18, f_110_19, p_110_19, f_110_20, f_110_21, p_110_21, f_110_22, p_110_22, f_110_23, f_110_24, f_110_25, p_110_25, f_110_26, f_110_27, f_110_28, f_110_29, f_110_30, f_110_31, p_110_31, f_110_32, p_110_32, f_110_33, p_110_33, f_110_34, p_110_34, f_110_35, f_110_36, f_110_37, f_110_38, e_116, i_116, Option.some.injEq, exists_eq_left', exists_eq_left, Option.toList_some, Option.toList_none, List.cons_append, List.nil_append, true_and, and_true, Option.map_some, Option.map_none, rd116_3, rd116_4, f3, f4, ek, x_ev_iff a1, c0, l0, hy1, x_ev_iff b1, p2, c2, l2, hy2]
    rw [st3]
    simp only [w_Ref_readMatter_77, w_Ref_readMatter_81, w_Ref_readMatter_90, w_Ref_readMatter_92, w_Ref_readMatter_97, w_Ref_readMatter_98, w_Ref_readMatter_102, w_Ref_readMatter_111, w_Ref_readMatter_112, w_Ref_readMatter_116, w_Ref_readMatter_121, w_Ref_readMatter_125, w_Ref_readMatter_130, w_Ref_readMatter_134, c_110, f_110_0, p_110_0, f_110_1, f_110_2, f_110_3, f_110_4, f_110_5, p_110_5, f_110_6, f_110_7, p_110_7, f_110_8, p_110_8, f_110_9, p_110_9, f_110_10, p_110_10, f_110_11, p_110_11, f_110_12, p_110_12, f_110_13, p_110_13, f_110_14, f_110_15, f_110_16, p_110_16, f_110_17, f_110_18, p_110_18, f_110_19, p_110_19, f_110_20, f_110_21, p_110_21, f_110_22, p_110_22, f_110_23, f_110_24, f_110_25, p_110_25, f_110_26, f_110_27, f_110_28, f_110_29, f_110_30, f_110_31, p_110_31, f_110_32, p_110_32, f_110_33, p_110_33, f_110_34, p_110_34, f_110_35, f_110_36, f_110_37, f_110_38, e_116, i_116, Option.some.injEq, exists_eq_left', exists_eq_left, Option.toList_some, Option.toList_none, List.cons_append, List.nil_append, true_and, and_true, Option.map_some, Option.map_none, rd116_3, s3f, x_ev_iff m1, nI_1, c1, l1, hy4, x_ev_iff e1, p2, c3, l3, hy5, p4, c4, l4, hy6, p5, c5, l5, hy7, p6, c6, l6, hy8]
    rw [st]
    simp only [w_Ref_readMatter_256, w_Ref_readMatter_260, w_Ref_readMatter_263, w_Ref_readMatter_266, c_110, f_110_0, p_110_0, f_110_1, f_110_2, f_110_3, f_110_4, f_110_5, p_110_5, f_110_6, f_110_7, p_110_7, f_110_8, p_110_8, f_110_9, p_110_9, f_110_10, p_110_10, f_110_11, p_110_11, f_110_12, p_110_12, f_110_13, p_110_13, f_110_14, f_110_15, f_110_16, p_110_16, f_110_17, f_110_18, p_110_18, f_110_19, p_110_19, f_110_20, f_110_21, p_110_21, f_110_22, p_110_22, f_110_23, f_110_24, f_110_25, p_110_25, f_110_26, f_110_27, f_110_28, f_110_29, f_110_30, f_110_31, p_110_31, f_110_32, p_110_32, f_110_33, p_110_33, f_110_34, p_110_34, f_110_35, f_110_36, f_110_37, f_110_38, e_116, i_116, Option.some.injEq, exists_eq_left', exists_eq_left, Option.toList_some, Option.toList_none, List.cons_append, List.nil_append, true_and, and_true, Option.map_some, Option.map_none, rd116_4, z4, cl_4, nI_1, hyz]
  · obtain ⟨i4, i5, i6⟩ := n6 hh
    have n3' : (r3M b n T t).2.2 = none := by
      by_cases h : (r3M b n T t).2.2 = none
      · exact h
      · have hh' : (mkL b n (tM T) 4 ((r3M b n T t).2, 0, false, false)).1.2 = none := hh
        rw [mkL_f (x := ((r3M b n T t).2, 0, false, false)) h] at hh'
        exact hh'
    obtain ⟨-, -, -, ⟨j0, hj0, ej0⟩, j2, hj2, ej2, -⟩ := r3_n hW n3'
    refine fr_M h8 hf (by rw [ej0, nI_clamp (by omega)]) (by rw [ej2, nI_clamp (by omega)]) vz ?_ ?_ ?_ ?_ ?_ ?_ ?_ w1 (fun j a c => ?_)
    · rw [hk, oz.2.1 _ (by omega), n5 _ (by omega) (by omega) (by omega), g0]
    · rw [hk, oz.2.1 _ (by omega), n5 _ (by omega) (by omega) (by omega), g1]
    · rw [hk, oz.2.1 _ (by omega), n5 _ (by omega) (by omega) (by omega), g2]
    · rw [hk, oz.2.1 _ (by omega), n5 _ (by omega) (by omega) (by omega), g3]
    · rw [hk, oz.2.1 _ (by omega), i4]; rfl
    · rw [hk, oz.2.1 _ (by omega), i5]; rfl
    · rw [hk, oz.2.1 _ (by omega), i6]; rfl
    · rw [hk] at c
      rw [oz.2.1 j a, n5 j (by omega) (by omega) (by omega), rest j c]
end RREAD
