/-! THE READER of the class: a LINE, all LINES (own work) -/
section READ
variable {P : Nat → List Value → Option Value} {d : Nat} {xs : List Int32} {b : Nat → Int32} {n : Nat}
theorem offX.D13 {s s' : xS} (h : offX 13 s s') : offD s s' := h.M (by omega) (by omega)
theorem tpC_D {s s' : xS} (h : offD s s') (ht : tpC s b n) : tpC s' b n := ht.off (h.1 2 (by omega))
set_option maxHeartbeats 4000000 in
theorem t_readWell (hd : 8 ≤ d) (hP : wdP P) {s : xS} {T : Tw} {t : Tk} (ht : tpC s b n) (hok : tkOk n t) (htk : tk13 s b n t) (hm : mdC s T) : ∃ s', x_ev g_M P d 21 [.ref 13] (mkH xs s) (none, mkH xs s') ∧ tk13 s' b n (rdW b n T t).1 ∧ tkOk n (rdW b n T t).1 ∧ offD s s' ∧ mdC s' (rdW b n T t).2 := by
  obtain ⟨d, rfl⟩ := x_1 (d := d) (by omega)
  obtain ⟨s1, a1, a2, a3⟩ := t_takeWord (P := P) (d := d) (xs := xs) (by omega) hP ht hok htk (show 0 < 13 by omega)
  have k1 := tkW_ok (b := b) (w := 0) ht.1 hok
  have ht1 := tpC_D a2.D13 ht
  obtain ⟨s2, b1, b2, b3⟩ := t_takeWord (P := P) (d := d) (xs := xs) (by omega) hP ht1 k1 a3 (show 1 < 13 by omega)
  have k2 := tkW_ok (b := b) (w := 1) ht.1 k1
  have ht2 := tpC_D b2.D13 ht1
  obtain ⟨s3, c1, c2, c3⟩ := t_takeNumber (P := P) (d := d) (xs := xs) (by omega) ht2 k2 b3 99 (-1)
  have k3 := tkN_ok (b := b) (x := 99) (u := -1) ht.1 k2
  have ht3 := tpC_D c2.D13 ht2
  have o3 := oC_p s3 14 1 (r1W b n t).1
  generalize hy3 : s_p s3 14 1 (r1W b n t).1 = y3 at *
  have hty3 : tpC y3 b n := ht3.off (o3.1 2 (by omega))
  have tk3 : tk13 y3 b n (r1W b n t).2 := tk13_o (o3.1 13 (by omega)) c3
  obtain ⟨s4, d1, d2, d3⟩ := t_takeWord (P := P) (d := d) (xs := xs) (by omega) hP hty3 k3 tk3 (show 2 < 13 by omega)
  have k4 := tkW_ok (b := b) (w := 2) ht.1 k3
  have ht4 := tpC_D d2.D13 hty3
  obtain ⟨s5, e1, e2, e3⟩ := t_takeNumber (P := P) (d := d) (xs := xs) (by omega) ht4 k4 d3 9 (-1)
  have k5 := tkN_ok (b := b) (x := 9) (u := -1) ht.1 k4
  have ht5 := tpC_D e2.D13 ht4
  have o5 := oC_p s5 14 2 (r2W b n t).1
  generalize hy5 : s_p s5 14 2 (r2W b n t).1 = y5 at *
  have hty5 : tpC y5 b n := ht5.off (o5.1 2 (by omega))
  have tk5 : tk13 y5 b n (r2W b n t).2 := tk13_o (o5.1 13 (by omega)) e3
  obtain ⟨s6, f1, f2, f3⟩ := t_takeWord (P := P) (d := d) (xs := xs) (by omega) hP hty5 k5 tk5 (show 3 < 13 by omega)
  have k6 := tkW_ok (b := b) (w := 3) ht.1 k5
  have ht6 := tpC_D f2.D13 hty5
  obtain ⟨s7, g1, g2, g3⟩ := t_takeNumber (P := P) (d := d) (xs := xs) (by omega) ht6 k6 f3 100 (-1)
  have k7 := tkN_ok (b := b) (x := 100) (u := -1) ht.1 k6
  have o7 := oC_p s7 14 3 (r3W b n t).1
  generalize hy7 : s_p s7 14 3 (r3W b n t).1 = y7 at *
  have u1 : x_ev g_M P d 28 [.ref 13, .ref 1000000] (mkH xs s) (none, mkH xs s1) := a1
  have u2 : x_ev g_M P d 28 [.ref 13, .ref 1000001] (mkH xs s1) (none, mkH xs s2) := b1
  have u3 : x_ev g_M P d 29 [.ref 13, .int 99, .int (-1)] (mkH xs s2) (some (.int (r1W b n t).1), mkH xs s3) := c1
  have u4 : x_ev g_M P d 28 [.ref 13, .ref 1000002] (mkH xs y3) (none, mkH xs s4) := d1
  have u5 : x_ev g_M P d 29 [.ref 13, .int 9, .int (-1)] (mkH xs s4) (some (.int (r2W b n t).1), mkH xs s5) := e1
  have u6 : x_ev g_M P d 28 [.ref 13, .ref 1000003] (mkH xs y5) (none, mkH xs s6) := f1
  have u7 : x_ev g_M P d 29 [.ref 13, .int 100, .int (-1)] (mkH xs s6) (some (.int (r3W b n t).1), mkH xs s7) := g1
  have of : ∀ q, q ≠ 13 → q ≠ 14 → y7.1 q = s.1 q := fun q z1 z2 => by rw [o7.1 q z2, g2.1 q z1, f2.1 q z1, o5.1 q z2, e2.1 q z1, d2.1 q z1, o3.1 q z2, c2.1 q z1, b2.1 q z1, a2.1 q z1]
  have o14 : ∀ k, k ≠ 1 → k ≠ 2 → k ≠ 3 → y7.1 14 k = s.1 14 k := fun k z1 z2 z3 => by rw [o7.2.1 k z3, g2.1 14 (by omega), f2.1 14 (by omega), o5.2.1 k z2, e2.1 14 (by omega), d2.1 14 (by omega), o3.2.1 k z1, c2.1 14 (by omega), b2.1 14 (by omega), a2.1 14 (by omega)]
  refine ⟨y7, ?_, tk13_o (o7.1 13 (by omega)) g3, k7, ⟨fun q hq => of q (by omega) (by omega), by rw [o7.2.2, g2.2, f2.2, o5.2.2, e2.2, d2.2, o3.2.2, c2.2, b2.2, a2.2]⟩, md_W hm o14 ?_ ?_ ?_ (fun q hq => of q (by omega) (by omega))⟩
  · rw [x_ev_in rfl (Nat.le_of_ble_eq_true rfl)]
    rw [show x_ent (x_nL g_M 21) [.ref 13] = [some (.ref 13)] from rfl]
    simp only [w_Reader_readWell_0, w_Reader_readWell_6, w_Reader_readWell_12, w_Reader_readWell_16, w_Reader_readWell_23, w_Reader_readWell_26, w_Reader_readWell_32, w_Reader_readWell_36, w_Reader_readWell_43, w_Reader_readWell_46, w_Reader_readWell_52, w_Reader_readWell_56, w_Reader_readWell_63, w_Reader_readWell_66, c_13, f_13_0, f_13_1, f_13_2, p_13_2, f_13_3, p_13_3, f_13_4, p_13_4, f_13_5, p_13_5, f_13_6, p_13_6, f_13_7, p_13_7, c_14, f_14_0, p_14_0, f_14_1, p_14_1, f_14_2, p_14_2, f_14_3, p_14_3, f_14_4, p_14_4, f_14_5, p_14_5, f_14_6, p_14_6, f_14_7, p_14_7, f_14_8, p_14_8, f_14_9, f_14_10, f_14_11, f_14_12, f_14_13, Option.some.injEq, exists_eq_left', exists_eq_left, Option.toList_some, Option.toList_none, List.cons_append, List.nil_append, true_and, and_true, Option.map_some, Option.map_none, x_ev_iff u1, x_ev_iff u2, x_ev_iff u3, hy3, x_ev_iff u4, x_ev_iff u5, hy5, x_ev_iff u6, x_ev_iff u7, hy7]
  · rw [o7.2.1 1 (by omega), g2.1 14 (by omega), f2.1 14 (by omega), o5.2.1 1 (by omega), e2.1 14 (by omega), d2.1 14 (by omega), ← hy3, s_p_v]
  · rw [o7.2.1 2 (by omega), g2.1 14 (by omega), f2.1 14 (by omega), ← hy5, s_p_v]
  · rw [← hy7, s_p_v]
set_option maxHeartbeats 4000000 in
theorem t_readPerson (hd : 8 ≤ d) (hP : wdP P) {s : xS} {T : Tw} {t : Tk} (ht : tpC s b n) (hW : tWf T) (h6 : tP T < 6) (hn : t.2 = none) (hw : isW b n 4 t.1 = true) (hok : tkOk n t) (htk : tk13 s b n t) (hm : mdC s T) : ∃ s', x_ev g_M P d 22 [.ref 13] (mkH xs s) (none, mkH xs s') ∧ tk13 s' b n (rdP b n T (nxT b n t.1, t.2)).1 ∧ tkOk n (rdP b n T (nxT b n t.1, t.2)).1 ∧ offD s s' ∧ mdC s' (rdP b n T (nxT b n t.1, t.2)).2 := by
  obtain ⟨d, rfl⟩ := x_1 (d := d) (by omega)
  have h4 := hm.1.1.2.2.2.2.1
  obtain ⟨s1, a1, a2, a3⟩ := t_takeWord (P := P) (d := d) (xs := xs) (by omega) hP ht hok htk (show 4 < 13 by omega)
  have k1 := tkW_ok (b := b) (w := 4) ht.1 hok
  have e0 : tkW b n 4 t = (nxT b n t.1, t.2) := by unfold tkW; rw [if_pos hn, if_pos hw, hn]
  rw [e0] at a3 k1
  generalize ht0 : ((nxT b n t.1, t.2) : Tk) = t0 at *
  have ht1 := tpC_D a2.D13 ht
  obtain ⟨s2, b1, b2, b3⟩ := t_takeWord (P := P) (d := d) (xs := xs) (by omega) hP ht1 k1 a3 (show 5 < 13 by omega)
  have k2 := tkW_ok (b := b) (w := 5) ht.1 k1
  have ht2 := tpC_D b2.D13 ht1
  obtain ⟨s3, c1, c2, c3⟩ := t_takeNumber (P := P) (d := d) (xs := xs) (by omega) ht2 k2 b3 9 (-1)
  have k3 := tkN_ok (b := b) (x := 9) (u := -1) ht.1 k2
  have ht3 := tpC_D c2.D13 ht2
  have c3 : tk13 s3 b n (r1P b n t0).2 := c3
  have k3 : tkOk n (r1P b n t0).2 := k3
  have u1 : x_ev g_M P d 28 [.ref 13, .ref 1000004] (mkH xs s) (none, mkH xs s1) := a1
  have u2 : x_ev g_M P d 28 [.ref 13, .ref 1000005] (mkH xs s1) (none, mkH xs s2) := b1
  have u3 : x_ev g_M P d 29 [.ref 13, .int 9, .int (-1)] (mkH xs s2) (some (.int (r1P b n t0).1), mkH xs s3) := c1
  have w6 := fun q => t_isWord (P := P) (d := d) (xs := xs) (q := q) (by omega) hP ht3 k3.1 c3 (show 6 < 13 by omega)
  rw [show 1000000 + 6 = 1000006 from rfl] at w6
  have lt6 : nI (tP T) < 6 := nI_lt (b := 6) h6 (by omega)
  have st : ∃ s4, (∀ r, x_ev g_M P (d + 1) 22 [.ref 13] (mkH xs s) r ↔ x_R (x_ev g_M P d) 22 (68, [some (.ref 13), some (.int (r1P b n t0).1), some (.int (b01 (tkT b n 6 (r1P b n t0).2).1))], [], mkH xs s4) r) ∧ offX 13 s3 s4 ∧ tk13 s4 b n (tkT b n 6 (r1P b n t0).2).2 := by
    have a5 := c3.2.2.2.2.1
    by_cases hc : (decide ((r1P b n t0).2.2 = none) && isW b n 6 (r1P b n t0).2.1) = true
    · obtain ⟨s4, q1, q2, q3⟩ := t_next (P := P) (d := d) (xs := xs) (by omega) ht3 k3.1 c3
      have e1 : tkT b n 6 (r1P b n t0).2 = (true, nxT b n (r1P b n t0).2.1, (r1P b n t0).2.2) := by unfold tkT; rw [if_pos hc]
      rw [Bool.and_eq_true, decide_eq_true_eq] at hc
      have f0 : fkN (r1P b n t0).2.2 = 0 := by rw [hc.1]; rfl
      rw [e1]
      refine ⟨s4, fun r => ?_, q2, q3⟩
      rw [x_ev_in rfl (Nat.le_of_ble_eq_true rfl)]
      rw [show x_ent (x_nL g_M 22) [.ref 13] = [some (.ref 13), none, none] from rfl]
      simp only [w_Reader_readPerson_0, w_Reader_readPerson_4, w_Reader_readPerson_7, w_Reader_readPerson_12, w_Reader_readPerson_17, w_Reader_readPerson_18, w_Reader_readPerson_24, w_Reader_readPerson_30, w_Reader_readPerson_37, w_Reader_readPerson_42, w_Reader_readPerson_45, w_Reader_readPerson_51, w_Reader_readPerson_54, w_Reader_readPerson_58, w_Reader_readPerson_59, w_Reader_readPerson_64, w_Reader_readPerson_72, w_Reader_readPerson_77, c_13, f_13_0, f_13_1, f_13_2, p_13_2, f_13_3, p_13_3, f_13_4, p_13_4, f_13_5, p_13_5, f_13_6, p_13_6, f_13_7, p_13_7, c_14, f_14_0, p_14_0, f_14_1, p_14_1, f_14_2, p_14_2, f_14_3, p_14_3, f_14_4, p_14_4, f_14_5, p_14_5, f_14_6, p_14_6, f_14_7, p_14_7, f_14_8, p_14_8, f_14_9, f_14_10, f_14_11, f_14_12, f_14_13, Option.some.injEq, exists_eq_left', exists_eq_left, Option.toList_some, Option.toList_none, List.cons_append, List.nil_append, true_and, and_true, Option.map_some, Option.map_none, h4, lt6, if_true, x_ev_iff u1, x_ev_iff u2, x_ev_iff u3, a5, f0, not_true_eq_false, if_false, w6, hc.2, b01, show ¬ ((1 : Int32) = 0) by decide, x_ev_iff q1]
    · have e1 : tkT b n 6 (r1P b n t0).2 = (false, (r1P b n t0).2) := by unfold tkT; rw [if_neg hc]
      rw [e1]
      refine ⟨s3, fun r => ?_, ⟨fun _ _ => rfl, rfl⟩, c3⟩
      by_cases hn3 : (r1P b n t0).2.2 = none
      · have f0 : fkN (r1P b n t0).2.2 = 0 := by rw [hn3]; rfl
        have hw6 : isW b n 6 (r1P b n t0).2.1 = false := by
          rw [decide_eq_true hn3, Bool.true_and] at hc
          simpa using hc
        rw [x_ev_in rfl (Nat.le_of_ble_eq_true rfl)]
        rw [show x_ent (x_nL g_M 22) [.ref 13] = [some (.ref 13), none, none] from rfl]
        simp only [w_Reader_readPerson_0, w_Reader_readPerson_4, w_Reader_readPerson_7, w_Reader_readPerson_12, w_Reader_readPerson_17, w_Reader_readPerson_18, w_Reader_readPerson_24, w_Reader_readPerson_30, w_Reader_readPerson_37, w_Reader_readPerson_42, w_Reader_readPerson_45, w_Reader_readPerson_51, w_Reader_readPerson_54, w_Reader_readPerson_58, w_Reader_readPerson_59, w_Reader_readPerson_64, w_Reader_readPerson_72, w_Reader_readPerson_77, c_13, f_13_0, f_13_1, f_13_2, p_13_2, f_13_3, p_13_3, f_13_4, p_13_4, f_13_5, p_13_5, f_13_6, p_13_6, f_13_7, p_13_7, c_14, f_14_0, p_14_0, f_14_1, p_14_1, f_14_2, p_14_2, f_14_3, p_14_3, f_14_4, p_14_4, f_14_5, p_14_5, f_14_6, p_14_6, f_14_7, p_14_7, f_14_8, p_14_8, f_14_9, f_14_10, f_14_11, f_14_12, f_14_13, Option.some.injEq, exists_eq_left', exists_eq_left, Option.toList_some, Option.toList_none, List.cons_append, List.nil_append, true_and, and_true, Option.map_some, Option.map_none, h4, lt6, if_true, x_ev_iff u1, x_ev_iff u2, x_ev_iff u3, a5, f0, not_true_eq_false, if_false, w6, hw6, b01, Bool.false_eq_true]
      · rw [x_ev_in rfl (Nat.le_of_ble_eq_true rfl)]
        rw [show x_ent (x_nL g_M 22) [.ref 13] = [some (.ref 13), none, none] from rfl]
        simp only [w_Reader_readPerson_0, w_Reader_readPerson_4, w_Reader_readPerson_7, w_Reader_readPerson_12, w_Reader_readPerson_17, w_Reader_readPerson_18, w_Reader_readPerson_24, w_Reader_readPerson_30, w_Reader_readPerson_37, w_Reader_readPerson_42, w_Reader_readPerson_45, w_Reader_readPerson_51, w_Reader_readPerson_54, w_Reader_readPerson_58, w_Reader_readPerson_59, w_Reader_readPerson_64, w_Reader_readPerson_72, w_Reader_readPerson_77, c_13, f_13_0, f_13_1, f_13_2, p_13_2, f_13_3, p_13_3, f_13_4, p_13_4, f_13_5, p_13_5, f_13_6, p_13_6, f_13_7, p_13_7, c_14, f_14_0, p_14_0, f_14_1, p_14_1, f_14_2, p_14_2, f_14_3, p_14_3, f_14_4, p_14_4, f_14_5, p_14_5, f_14_6, p_14_6, f_14_7, p_14_7, f_14_8, p_14_8, f_14_9, f_14_10, f_14_11, f_14_12, f_14_13, Option.some.injEq, exists_eq_left', exists_eq_left, Option.toList_some, Option.toList_none, List.cons_append, List.nil_append, true_and, and_true, Option.map_some, Option.map_none, h4, lt6, if_true, x_ev_iff u1, x_ev_iff u2, x_ev_iff u3, a5, fkN_s k3.2 hn3, not_false_eq_true, if_false, b01, Bool.false_eq_true]
  obtain ⟨s4, st, q2, q3⟩ := st
  have o4 : ∀ q, q ≠ 13 → s4.1 q = s.1 q := fun q hq => by rw [q2.1 q hq, c2.1 q hq, b2.1 q hq, a2.1 q hq]
  have l4 : s4.2 = s.2 := by rw [q2.2, c2.2, b2.2, a2.2]
  have v := t_addPerson (P := P) (d := d) (xs := xs) (s := s4) (by omega) (Q := tP T) (by rw [o4 14 (by omega)]; exact h4) h6 (r1P b n t0).1 (tkT b n 6 (r1P b n t0).2).1
  generalize hst : (tkT b n 6 (r1P b n t0).2).1 = st1 at *
  generalize hcu : (r1P b n t0).1 = cu at *
  have hrd : (rdP b n T t0).2 = tAddP T cu st1 := by unfold rdP; rw [hcu, hst]
  generalize hy : s_p (if st1 = true then s_p (s_p s4 15 (tP T) cu) 14 6 (s4.1 14 6 ||| on1 (tP T)) else s_p s4 15 (tP T) cu) 14 4 (nI (tP T + 1)) = y at *
  have yo : ∀ q, q ≠ 14 → q ≠ 15 → y.1 q = s4.1 q := fun q z1 z2 => by
    rw [← hy]
    funext k
    cases st1 <;> simp [s_p, z1, z2]
  have yl : y.2 = s4.2 := by rw [← hy]; cases st1 <;> rfl
  refine ⟨y, ?_, tk13_o (yo 13 (by omega) (by omega)) q3, tkT_ok k3, ⟨fun q hq => by rw [yo q (by omega) (by omega), o4 q (by omega)], by rw [yl, l4]⟩, ?_⟩
  · rw [st]
    simp only [w_Reader_readPerson_68, w_Reader_readPerson_72, w_Reader_readPerson_77, c_13, f_13_0, f_13_1, f_13_2, p_13_2, f_13_3, p_13_3, f_13_4, p_13_4, f_13_5, p_13_5, f_13_6, p_13_6, f_13_7, p_13_7, c_14, f_14_0, p_14_0, f_14_1, p_14_1, f_14_2, p_14_2, f_14_3, p_14_3, f_14_4, p_14_4, f_14_5, p_14_5, f_14_6, p_14_6, f_14_7, p_14_7, f_14_8, p_14_8, f_14_9, f_14_10, f_14_11, f_14_12, f_14_13, Option.some.injEq, exists_eq_left', exists_eq_left, Option.toList_some, Option.toList_none, List.cons_append, List.nil_append, true_and, and_true, Option.map_some, Option.map_none, x_ev_iff v]
  · rw [hrd]
    refine md_P hW h6 hm ?_ (fun k z1 z2 => ?_) ?_ ?_ (fun k hk => ?_) (by rw [yo 16 (by omega) (by omega), o4 16 (by omega)]) (by rw [yo 17 (by omega) (by omega), o4 17 (by omega)]) (by rw [yo 18 (by omega) (by omega), o4 18 (by omega)]) (by rw [yo 19 (by omega) (by omega), o4 19 (by omega)])
    · rw [← hy, s_p_v]
    · rw [← hy, ← o4 14 (by omega)]
      cases st1 <;> simp [s_p, z1, z2]
    · rw [← hy, ← o4 14 (by omega)]
      cases st1 <;> simp [s_p]
    · rw [← hy]
      cases st1 <;> simp [s_p]
    · rw [← hy, ← o4 15 (by omega)]
      cases st1 <;> simp [s_p, hk]
set_option maxHeartbeats 8000000 in
theorem t_readMatter (hd : 9 ≤ d) (hP : wdP P) {s : xS} {T : Tw} {t : Tk} (ht : tpC s b n) (hW : tWf T) (h8 : tM T < 8) (hn : t.2 = none) (hw : isW b n 7 t.1 = true) (hok : tkOk n t) (htk : tk13 s b n t) (hm : mdC s T) : ∃ s' t', x_ev g_M P d 23 [.ref 13] (mkH xs s) (none, mkH xs s') ∧ tk13 s' b n t' ∧ tkOk n t' ∧ offD s s' ∧ rlM b n t' (rdM b n T (nxT b n t.1, t.2)).1 ∧ ((rdM b n T (nxT b n t.1, t.2)).1.2 = none → mdC s' (rdM b n T (nxT b n t.1, t.2)).2) := by
  obtain ⟨d, rfl⟩ := x_1 (d := d) (by omega)
  have h4 := hm.1.1.2.2.2.2.1
  have h5 := hm.1.1.2.2.2.2.2
  have w1 := hW.1
  obtain ⟨s1, a1, a2, a3⟩ := t_takeWord (P := P) (d := d) (xs := xs) (by omega) hP ht hok htk (show 7 < 13 by omega)
  have k1 := tkW_ok (b := b) (w := 7) ht.1 hok
  have e0 : tkW b n 7 t = (nxT b n t.1, t.2) := by unfold tkW; rw [if_pos hn, if_pos hw, hn]
  rw [e0] at a3 k1
  generalize ht0 : ((nxT b n t.1, t.2) : Tk) = t0 at *
  have ht1 := tpC_D a2.D13 ht
  obtain ⟨s2, b1, b2, b3⟩ := t_takeNumber (P := P) (d := d) (xs := xs) (by omega) ht1 k1 a3 (nI (tP T) - 1) (-1)
  have k2 := tkN_ok (b := b) (x := nI (tP T) - 1) (u := -1) ht.1 k1
  have ht2 := tpC_D b2.D13 ht1
  obtain ⟨s3, c1, c2, c3⟩ := t_takeGain (P := P) (d := d) (xs := xs) (by omega) hP ht2 k2 b3
  have k3 := tkG_ok (b := b) ht.1 k2
  have ht3 := tpC_D c2.D13 ht2
  obtain ⟨s4, d1, d2, d3⟩ := t_takeNumber (P := P) (d := d) (xs := xs) (by omega) ht3 k3 c3 (nI (tP T) - 1) (r0M b n T t0).1
  have k4 := tkN_ok (b := b) (x := nI (tP T) - 1) (u := (r0M b n T t0).1) ht.1 k3
  have ht4 := tpC_D d2.D13 ht3
  obtain ⟨s5, e1, e2, e3⟩ := t_takeGain (P := P) (d := d) (xs := xs) (by omega) hP ht4 k4 d3
  have k5 := tkG_ok (b := b) ht.1 k4
  have ht5 := tpC_D e2.D13 ht4
  have u1 : x_ev g_M P d 28 [.ref 13, .ref 1000007] (mkH xs s) (none, mkH xs s1) := a1
  have u2 : x_ev g_M P d 29 [.ref 13, .int (nI (tP T) - 1), .int (-1)] (mkH xs s1) (some (.int (r0M b n T t0).1), mkH xs s2) := b1
  have u3 : x_ev g_M P d 27 [.ref 13] (mkH xs s2) (some (.int (r1M b n T t0).1), mkH xs s3) := c1
  have u4 : x_ev g_M P d 29 [.ref 13, .int (nI (tP T) - 1), .int (r0M b n T t0).1] (mkH xs s3) (some (.int (r2M b n T t0).1), mkH xs s4) := d1
  have u5 : x_ev g_M P d 27 [.ref 13] (mkH xs s4) (some (.int (r3M b n T t0).1), mkH xs s5) := e1
  have e3 : tk13 s5 b n (r3M b n T t0).2 := e3
  have k5 : tkOk n (r3M b n T t0).2 := k5
  have o5 : ∀ q, q ≠ 13 → s5.1 q = s.1 q := fun q hq => by rw [e2.1 q hq, d2.1 q hq, c2.1 q hq, b2.1 q hq, a2.1 q hq]
  have l5 : s5.2 = s.2 := by rw [e2.2, d2.2, c2.2, b2.2, a2.2]
  have f5 := e3.2.2.2.2.1
  have lt8 : nI (tM T) < 8 := nI_lt (b := 8) h8 (by omega)
  have z14 : s1.1 14 = s.1 14 := a2.1 14 (by omega)
  have z34 : s3.1 14 = s.1 14 := by rw [c2.1 14 (by omega), b2.1 14 (by omega), z14]
  have v14 : s1.1 14 4 = nI (tP T) := by rw [z14]; exact h4
  have v34 : s3.1 14 4 = nI (tP T) := by rw [z34]; exact h4
  have st : ∀ r, x_ev g_M P (d + 1) 23 [.ref 13] (mkH xs s) r ↔ x_R (x_ev g_M P d) 23 (69, [some (.ref 13), some (.int (r0M b n T t0).1), some (.int (r1M b n T t0).1), some (.int (r2M b n T t0).1), some (.int (r3M b n T t0).1)], [.int (fkN (r3M b n T t0).2.2)], mkH xs s5) r := fun r => by
    rw [x_ev_in rfl (Nat.le_of_ble_eq_true rfl)]
    rw [show x_ent (x_nL g_M 23) [.ref 13] = [some (.ref 13), none, none, none, none] from rfl]
    simp only [w_Reader_readMatter_0, w_Reader_readMatter_4, w_Reader_readMatter_7, w_Reader_readMatter_12, w_Reader_readMatter_17, w_Reader_readMatter_18, w_Reader_readMatter_24, w_Reader_readMatter_29, w_Reader_readMatter_32, w_Reader_readMatter_38, w_Reader_readMatter_43, w_Reader_readMatter_49, w_Reader_readMatter_52, w_Reader_readMatter_58, w_Reader_readMatter_63, c_13, f_13_0, f_13_1, f_13_2, p_13_2, f_13_3, p_13_3, f_13_4, p_13_4, f_13_5, p_13_5, f_13_6, p_13_6, f_13_7, p_13_7, c_14, f_14_0, p_14_0, f_14_1, p_14_1, f_14_2, p_14_2, f_14_3, p_14_3, f_14_4, p_14_4, f_14_5, p_14_5, f_14_6, p_14_6, f_14_7, p_14_7, f_14_8, p_14_8, f_14_9, f_14_10, f_14_11, f_14_12, f_14_13, Option.some.injEq, exists_eq_left', exists_eq_left, Option.toList_some, Option.toList_none, List.cons_append, List.nil_append, true_and, and_true, Option.map_some, Option.map_none, h5, lt8, if_true, x_ev_iff u1, v14, x_ev_iff u2, x_ev_iff u3, v34, x_ev_iff u4, x_ev_iff u5, f5]
  by_cases hf : (r3M b n T t0).2.2 = none
  · have f0 : fkN (r3M b n T t0).2.2 = 0 := by rw [hf]; rfl
    obtain ⟨n0, n1, n2, ⟨j0, hj0, ej0⟩, j2, hj2, ej2, ne2⟩ := r3_n hW hf
    rw [ej0] at ne2
    have hne : j0 ≠ j2 := fun z => ne2 (by rw [z])
    have q1 := t_setParty (P := P) (d := d) (xs := xs) (s := s5) (p := j0) (k := 0) (M := tM T) (by omega) (by rw [o5 14 (by omega)]; exact h5) h8 (by omega) (by omega) (r1M b n T t0).1
    generalize hy1 : s_p (s_p (s_p s5 17 (2 * tM T + 0) (nI j0)) 16 j0 (s5.1 16 j0 ||| on1 (tM T))) 19 (8 * j0 + tM T) (r1M b n T t0).1 = y1 at *
    have y1o : ∀ q, q ≠ 16 → q ≠ 17 → q ≠ 19 → y1.1 q = s5.1 q := fun q z1 z2 z3 => by rw [← hy1]; funext k; simp [s_p, z1, z2, z3]
    have y16 : ∀ q, y1.1 16 q = if q = j0 then s5.1 16 q ||| on1 (tM T) else s5.1 16 q := fun q => by
      rw [← hy1]
      by_cases h : q = j0
      · simp [s_p, h]
      · simp [s_p, h]
    have y17 : ∀ q, y1.1 17 q = if q = 2 * tM T then nI j0 else s5.1 17 q := fun q => by
      rw [← hy1]
      by_cases h : q = 2 * tM T
      · simp [s_p, h]
      · simp [s_p, h]
    have y19 : ∀ q, y1.1 19 q = if q = 8 * j0 + tM T then (r1M b n T t0).1 else s5.1 19 q := fun q => by
      rw [← hy1]
      by_cases h : q = 8 * j0 + tM T
      · simp [s_p, h]
      · simp [s_p, h]
    have yl1 : y1.2 = s5.2 := by rw [← hy1]; rfl
    have q2 := t_setParty (P := P) (d := d) (xs := xs) (s := y1) (p := j2) (k := 1) (M := tM T) (by omega) (by rw [y1o 14 (by omega) (by omega) (by omega), o5 14 (by omega)]; exact h5) h8 (by omega) (by omega) (r3M b n T t0).1
    generalize hy2 : s_p (s_p (s_p y1 17 (2 * tM T + 1) (nI j2)) 16 j2 (y1.1 16 j2 ||| on1 (tM T))) 19 (8 * j2 + tM T) (r3M b n T t0).1 = y2 at *
    have y2o : ∀ q, q ≠ 16 → q ≠ 17 → q ≠ 19 → y2.1 q = y1.1 q := fun q z1 z2 z3 => by rw [← hy2]; funext k; simp [s_p, z1, z2, z3]
    have x16 : ∀ q, y2.1 16 q = if q = j2 then s5.1 16 q ||| on1 (tM T) else if q = j0 then s5.1 16 q ||| on1 (tM T) else s5.1 16 q := fun q => by
      rw [← y16 q, ← hy2]
      by_cases h : q = j2
      · have e : y1.1 16 j2 = s5.1 16 j2 := by rw [y16, if_neg (fun z => hne z.symm)]
        simp [s_p, h, e]
      · simp [s_p, h]
    have x17 : ∀ q, y2.1 17 q = if q = 2 * tM T + 1 then nI j2 else if q = 2 * tM T then nI j0 else s5.1 17 q := fun q => by
      rw [← y17 q, ← hy2]
      by_cases h : q = 2 * tM T + 1
      · simp [s_p, h]
      · simp [s_p, h]
    have x19 : ∀ q, y2.1 19 q = if q = 8 * j2 + tM T then (r3M b n T t0).1 else if q = 8 * j0 + tM T then (r1M b n T t0).1 else s5.1 19 q := fun q => by
      rw [← y19 q, ← hy2]
      by_cases h : q = 8 * j2 + tM T
      · simp [s_p, h]
      · simp [s_p, h]
    have yl2 : y2.2 = y1.2 := by rw [← hy2]; rfl
    have hty : tpC y2 b n := ht5.off (by rw [y2o 2 (by omega) (by omega) (by omega), y1o 2 (by omega) (by omega) (by omega)])
    have htk2 : tk13 y2 b n (r3M b n T t0).2 := tk13_o (by rw [y2o 13 (by omega) (by omega) (by omega), y1o 13 (by omega) (by omega) (by omega)]) e3
    have m14 : y2.1 14 = s.1 14 := by rw [y2o 14 (by omega) (by omega) (by omega), y1o 14 (by omega) (by omega) (by omega), o5 14 (by omega)]
    have m18 : y2.1 18 = s.1 18 := by rw [y2o 18 (by omega) (by omega) (by omega), y1o 18 (by omega) (by omega) (by omega), o5 18 (by omega)]
    obtain ⟨z, t', p1, p2, p3, p4, p5, p6⟩ := t_readMarks (P := P) (d := d) (xs := xs) (by omega) hP h8 (by rw [m14]; exact h5) (by rw [m18]; exact hm.2.2.2.2.2.1 _ h8 (Nat.le_refl _)) hty hf k5 htk2
    have z5 : z.1 14 5 = nI (tM T) := by rw [p5.2.1 5 (by omega) (by omega), m14]; exact h5
    have oz := oC_p z 14 5 (nI (tM T + 1))
    generalize hyz : s_p z 14 5 (nI (tM T + 1)) = v at *
    have q1' : x_ev g_M P d 84 [.ref 14, .int 0, .int (nI j0), .int (r1M b n T t0).1] (mkH xs s5) (none, mkH xs y1) := q1
    have q2' : x_ev g_M P d 84 [.ref 14, .int 1, .int (nI j2), .int (r3M b n T t0).1] (mkH xs y1) (none, mkH xs y2) := q2
    refine ⟨v, t', ?_, tk13_o (oz.1 13 (by omega)) p2, p3, ⟨fun q hq => ?_, ?_⟩, p4, fun hh => ?_⟩
    · rw [st]
      simp only [w_Reader_readMatter_69, w_Reader_readMatter_73, w_Reader_readMatter_77, w_Reader_readMatter_83, w_Reader_readMatter_87, w_Reader_readMatter_94, w_Reader_readMatter_98, w_Reader_readMatter_102, w_Reader_readMatter_106, w_Reader_readMatter_111, c_13, f_13_0, f_13_1, f_13_2, p_13_2, f_13_3, p_13_3, f_13_4, p_13_4, f_13_5, p_13_5, f_13_6, p_13_6, f_13_7, p_13_7, c_14, f_14_0, p_14_0, f_14_1, p_14_1, f_14_2, p_14_2, f_14_3, p_14_3, f_14_4, p_14_4, f_14_5, p_14_5, f_14_6, p_14_6, f_14_7, p_14_7, f_14_8, p_14_8, f_14_9, f_14_10, f_14_11, f_14_12, f_14_13, Option.some.injEq, exists_eq_left', exists_eq_left, Option.toList_some, Option.toList_none, List.cons_append, List.nil_append, true_and, and_true, Option.map_some, Option.map_none, f0, if_true, ej0, ej2, x_ev_iff q1', x_ev_iff q2', x_ev_iff p1, z5, nI_1, hyz]
    · rw [oz.1 q (by omega), p5.1 q (by omega) (by omega) (by omega), y2o q (by omega) (by omega) (by omega), y1o q (by omega) (by omega) (by omega), o5 q (by omega)]
    · rw [oz.2.2, p5.2.2.2, yl2, yl1, l5]
    · have hV := p6 hh
      have hR : (rdM b n T t0).2 = tAddM T (nI j0) (r1M b n T t0).1 (nI j2) (r3M b n T t0).1 (r4M b n T t0).2 := by unfold rdM; rw [ej0, ej2]
      rw [hR]
      refine md_M hW h8 hj0 hj2 hne hm (by rw [← hyz, s_p_v]) (fun k a c e => ?_) ?_ ?_ ?_ (fun q => ?_) (fun q => ?_) (fun q => ?_) (fun q => ?_)
      · rw [oz.2.1 k a, p5.2.1 k c e, m14]
      · rw [oz.2.1 7 (by omega), hV.2.1, m14]; rfl
      · rw [oz.2.1 8 (by omega), hV.2.2, m14]; rfl
      · rw [oz.1 15 (by omega), p5.1 15 (by omega) (by omega) (by omega), y2o 15 (by omega) (by omega) (by omega), y1o 15 (by omega) (by omega) (by omega), o5 15 (by omega)]
      · rw [oz.1 16 (by omega), p5.1 16 (by omega) (by omega) (by omega), x16 q, o5 16 (by omega)]
      · rw [oz.1 17 (by omega), p5.1 17 (by omega) (by omega) (by omega), x17 q, o5 17 (by omega)]
      · rw [oz.1 18 (by omega)]
        by_cases h : q = tM T
        · rw [if_pos h, h, hV.1]; rfl
        · rw [if_neg h, p5.2.2.1 q h, m18]
      · rw [oz.1 19 (by omega), p5.1 19 (by omega) (by omega) (by omega), x19 q, o5 19 (by omega)]
  · have er : (rdM b n T t0).1 = (r3M b n T t0).2 := by
      unfold rdM r4M
      rw [mkL_f (x := ((r3M b n T t0).2, 0, false, false)) hf]
    refine ⟨s5, (r3M b n T t0).2, ?_, e3, k5, ⟨fun q hq => o5 q (by omega), l5⟩, Or.inl ⟨by rw [er], fun _ => by rw [er]⟩, fun z => ?_⟩
    · rw [st]
      simp only [w_Reader_readMatter_69, w_Reader_readMatter_72, fkN_s k5.2 hf, if_false]
    · rw [er] at z; exact absurd z hf
end READ
