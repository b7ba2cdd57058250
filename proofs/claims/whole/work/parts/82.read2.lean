/-! THE READER of the class: all LINES; town (own work) -/
theorem rdT_f {b : Nat → Int32} {n f : Nat} {x : Tk × Tw} (h : x.1.2 ≠ none) : rdT b n f x = x := by
  cases f with
  | zero => rfl
  | succ f => rw [rdT, if_neg (fun z => h z.1)]
section READ2
variable {P : Nat → List Value → Option Value} {d : Nat} {xs : List Int32} {b : Nat → Int32} {n : Nat}
set_option maxHeartbeats 4000000 in
theorem t_lineB (hd : 9 ≤ d) (hP : wdP P) {s : xS} {T : Tw} {t : Tk} (ht : tpC s b n) (hW : tWf T) (hn : t.2 = none) (hok : tkOk n t) (htk : tk13 s b n t) (hm : mdC s T) : ∃ s' t', (∀ r, x_R (x_ev g_M P d) 20 (0, [some (.ref 13)], [], mkH xs s) r ↔ x_R (x_ev g_M P d) 20 (54, [some (.ref 13)], [], mkH xs s') r) ∧ tk13 s' b n t' ∧ tkOk n t' ∧ offD s s' ∧ rlM b n t' (rdB b n T t).1 ∧ ((rdB b n T t).1.2 = none → mdC s' (rdB b n T t).2) := by
  have h0 := hm.1.1.1
  have h4 := hm.1.1.2.2.2.2.1
  have h5 := hm.1.1.2.2.2.2.2
  have w1 := hW.1
  have w2 := hW.2.1
  have n9 := ht.1
  have i4 := fun q => t_isWord (P := P) (d := d) (xs := xs) (q := q) (by omega) hP ht hok.1 htk (show 4 < 13 by omega)
  have i7 := fun q => t_isWord (P := P) (d := d) (xs := xs) (q := q) (by omega) hP ht hok.1 htk (show 7 < 13 by omega)
  rw [show 1000000 + 4 = 1000004 from rfl] at i4
  rw [show 1000000 + 7 = 1000007 from rfl] at i7
  unfold rdB
  by_cases hl : tLi T = 0
  · rw [if_pos hl]
    obtain ⟨s1, a1, a2, a3, a4, a5⟩ := t_readWell (P := P) (d := d) (xs := xs) (by omega) hP ht hok htk hm
    refine ⟨s1, _, fun r => ?_, a2, a3, a4, Or.inl ⟨rfl, fun _ => rfl⟩, fun _ => a5⟩
    simp only [w_Reader_readLine_0, w_Reader_readLine_4, w_Reader_readLine_7, w_Reader_readLine_10, w_Reader_readLine_14, c_13, f_13_0, f_13_1, f_13_2, p_13_2, f_13_3, p_13_3, f_13_4, p_13_4, f_13_5, p_13_5, f_13_6, p_13_6, f_13_7, p_13_7, c_14, f_14_0, p_14_0, f_14_1, p_14_1, f_14_2, p_14_2, f_14_3, p_14_3, f_14_4, p_14_4, f_14_5, p_14_5, f_14_6, p_14_6, f_14_7, p_14_7, f_14_8, p_14_8, f_14_9, f_14_10, f_14_11, f_14_12, f_14_13, Option.some.injEq, exists_eq_left', exists_eq_left, Option.toList_some, Option.toList_none, List.cons_append, List.nil_append, true_and, and_true, Option.map_some, Option.map_none, h0, hl, not_true_eq_false, if_false, x_ev_iff a1]
  · rw [if_neg hl]
    unfold rdN
    have er : ∀ (c : Nat), 0 < c → c < 4 → ∃ s', x_ev g_M P d 31 [.ref 13, .int (nI c)] (mkH xs s) (none, mkH xs s') ∧ offX 13 s s' ∧ tk13 s' b n (t.1, some (c, t.1)) ∧ tkOk n (t.1, some (c, t.1)) := fun c c1 c2 => by
      obtain ⟨s1, a1, a2, a3⟩ := t_fail (P := P) (d := d) (xs := xs) (by omega) hok.2 htk c
      rw [hn] at a3
      exact ⟨s1, a1, a2, a3, hok.1, fOk_s c1 c2 (by have := hok.1; omega)⟩
    by_cases hw4 : isW b n 4 t.1 = true
    · rw [if_pos hw4]
      by_cases h6 : tP T < 6
      · rw [if_pos h6]
        obtain ⟨s1, a1, a2, a3, a4, a5⟩ := t_readPerson (P := P) (d := d) (xs := xs) (by omega) hP ht hW h6 hn hw4 hok htk hm
        refine ⟨s1, _, fun r => ?_, a2, a3, a4, Or.inl ⟨rfl, fun _ => rfl⟩, fun _ => a5⟩
        simp only [w_Reader_readLine_0, w_Reader_readLine_4, w_Reader_readLine_7, w_Reader_readLine_17, w_Reader_readLine_23, w_Reader_readLine_26, w_Reader_readLine_30, c_13, f_13_0, f_13_1, f_13_2, p_13_2, f_13_3, p_13_3, f_13_4, p_13_4, f_13_5, p_13_5, f_13_6, p_13_6, f_13_7, p_13_7, c_14, f_14_0, p_14_0, f_14_1, p_14_1, f_14_2, p_14_2, f_14_3, p_14_3, f_14_4, p_14_4, f_14_5, p_14_5, f_14_6, p_14_6, f_14_7, p_14_7, f_14_8, p_14_8, f_14_9, f_14_10, f_14_11, f_14_12, f_14_13, Option.some.injEq, exists_eq_left', exists_eq_left, Option.toList_some, Option.toList_none, List.cons_append, List.nil_append, true_and, and_true, Option.map_some, Option.map_none, h0, hl, not_false_eq_true, if_true, i4, hw4, b01, show ¬ ((1 : Int32) = 0) by decide, if_false, x_ev_iff a1]
      · rw [if_neg h6]
        obtain ⟨d, rfl⟩ := x_1 (d := d) (by omega)
        obtain ⟨s1, a1, a2, a3⟩ := t_fail (P := P) (d := d) (xs := xs) (by omega) hok.2 htk 3
        rw [hn] at a3
        have c6 : ¬ nI (tP T) < 6 := nI_nlt (b := 6) (by omega) (by omega)
        have q1 : x_ev g_M P (d + 1) 22 [.ref 13] (mkH xs s) (none, mkH xs s1) := by
          rw [show nI 3 = 3 from rfl] at a1
          rw [x_ev_in rfl (Nat.le_of_ble_eq_true rfl)]
          rw [show x_ent (x_nL g_M 22) [.ref 13] = [some (.ref 13), none, none] from rfl]
          simp only [w_Reader_readPerson_0, w_Reader_readPerson_4, w_Reader_readPerson_7, w_Reader_readPerson_12, w_Reader_readPerson_17, c_13, f_13_0, f_13_1, f_13_2, p_13_2, f_13_3, p_13_3, f_13_4, p_13_4, f_13_5, p_13_5, f_13_6, p_13_6, f_13_7, p_13_7, c_14, f_14_0, p_14_0, f_14_1, p_14_1, f_14_2, p_14_2, f_14_3, p_14_3, f_14_4, p_14_4, f_14_5, p_14_5, f_14_6, p_14_6, f_14_7, p_14_7, f_14_8, p_14_8, f_14_9, f_14_10, f_14_11, f_14_12, f_14_13, Option.some.injEq, exists_eq_left', exists_eq_left, Option.toList_some, Option.toList_none, List.cons_append, List.nil_append, true_and, and_true, Option.map_some, Option.map_none, h4, c6, if_false, x_ev_iff a1]
        refine ⟨s1, (t.1, some (3, t.1)), fun r => ?_, a3, ⟨hok.1, fOk_s (by omega) (by omega) (by have := hok.1; show t.1 ≤ 900; omega)⟩, a2.D13, Or.inl ⟨rfl, fun _ => rfl⟩, fun z => by cases z⟩
        simp only [w_Reader_readLine_0, w_Reader_readLine_4, w_Reader_readLine_7, w_Reader_readLine_17, w_Reader_readLine_23, w_Reader_readLine_26, w_Reader_readLine_30, c_13, f_13_0, f_13_1, f_13_2, p_13_2, f_13_3, p_13_3, f_13_4, p_13_4, f_13_5, p_13_5, f_13_6, p_13_6, f_13_7, p_13_7, c_14, f_14_0, p_14_0, f_14_1, p_14_1, f_14_2, p_14_2, f_14_3, p_14_3, f_14_4, p_14_4, f_14_5, p_14_5, f_14_6, p_14_6, f_14_7, p_14_7, f_14_8, p_14_8, f_14_9, f_14_10, f_14_11, f_14_12, f_14_13, Option.some.injEq, exists_eq_left', exists_eq_left, Option.toList_some, Option.toList_none, List.cons_append, List.nil_append, true_and, and_true, Option.map_some, Option.map_none, h0, hl, not_false_eq_true, if_true, i4, hw4, b01, show ¬ ((1 : Int32) = 0) by decide, if_false, x_ev_iff q1]
    · rw [if_neg hw4]
      by_cases hw7 : isW b n 7 t.1 = true
      · rw [if_pos hw7]
        by_cases h8 : tM T < 8
        · rw [if_pos h8]
          obtain ⟨s1, t1, a1, a2, a3, a4, a5, a6⟩ := t_readMatter (P := P) (d := d) (xs := xs) (by omega) hP ht hW h8 hn hw7 hok htk hm
          refine ⟨s1, t1, fun r => ?_, a2, a3, a4, a5, a6⟩
          simp only [w_Reader_readLine_0, w_Reader_readLine_4, w_Reader_readLine_7, w_Reader_readLine_17, w_Reader_readLine_23, w_Reader_readLine_33, w_Reader_readLine_39, w_Reader_readLine_42, w_Reader_readLine_46, c_13, f_13_0, f_13_1, f_13_2, p_13_2, f_13_3, p_13_3, f_13_4, p_13_4, f_13_5, p_13_5, f_13_6, p_13_6, f_13_7, p_13_7, c_14, f_14_0, p_14_0, f_14_1, p_14_1, f_14_2, p_14_2, f_14_3, p_14_3, f_14_4, p_14_4, f_14_5, p_14_5, f_14_6, p_14_6, f_14_7, p_14_7, f_14_8, p_14_8, f_14_9, f_14_10, f_14_11, f_14_12, f_14_13, Option.some.injEq, exists_eq_left', exists_eq_left, Option.toList_some, Option.toList_none, List.cons_append, List.nil_append, true_and, and_true, Option.map_some, Option.map_none, h0, hl, not_false_eq_true, if_true, i4, i7, hw4, hw7, b01, show ¬ ((1 : Int32) = 0) by decide, if_false, Bool.false_eq_true, x_ev_iff a1]
        · rw [if_neg h8]
          obtain ⟨d, rfl⟩ := x_1 (d := d) (by omega)
          obtain ⟨s1, a1, a2, a3⟩ := t_fail (P := P) (d := d) (xs := xs) (by omega) hok.2 htk 3
          rw [hn] at a3
          have c8 : ¬ nI (tM T) < 8 := nI_nlt (b := 8) (by omega) (by omega)
          have q1 : x_ev g_M P (d + 1) 23 [.ref 13] (mkH xs s) (none, mkH xs s1) := by
            rw [show nI 3 = 3 from rfl] at a1
            rw [x_ev_in rfl (Nat.le_of_ble_eq_true rfl)]
            rw [show x_ent (x_nL g_M 23) [.ref 13] = [some (.ref 13), none, none, none, none] from rfl]
            simp only [w_Reader_readMatter_0, w_Reader_readMatter_4, w_Reader_readMatter_7, w_Reader_readMatter_12, w_Reader_readMatter_17, c_13, f_13_0, f_13_1, f_13_2, p_13_2, f_13_3, p_13_3, f_13_4, p_13_4, f_13_5, p_13_5, f_13_6, p_13_6, f_13_7, p_13_7, c_14, f_14_0, p_14_0, f_14_1, p_14_1, f_14_2, p_14_2, f_14_3, p_14_3, f_14_4, p_14_4, f_14_5, p_14_5, f_14_6, p_14_6, f_14_7, p_14_7, f_14_8, p_14_8, f_14_9, f_14_10, f_14_11, f_14_12, f_14_13, Option.some.injEq, exists_eq_left', exists_eq_left, Option.toList_some, Option.toList_none, List.cons_append, List.nil_append, true_and, and_true, Option.map_some, Option.map_none, h5, c8, if_false, x_ev_iff a1]
          refine ⟨s1, (t.1, some (3, t.1)), fun r => ?_, a3, ⟨hok.1, fOk_s (by omega) (by omega) (by have := hok.1; show t.1 ≤ 900; omega)⟩, a2.D13, Or.inl ⟨rfl, fun _ => rfl⟩, fun z => by cases z⟩
          simp only [w_Reader_readLine_0, w_Reader_readLine_4, w_Reader_readLine_7, w_Reader_readLine_17, w_Reader_readLine_23, w_Reader_readLine_33, w_Reader_readLine_39, w_Reader_readLine_42, w_Reader_readLine_46, c_13, f_13_0, f_13_1, f_13_2, p_13_2, f_13_3, p_13_3, f_13_4, p_13_4, f_13_5, p_13_5, f_13_6, p_13_6, f_13_7, p_13_7, c_14, f_14_0, p_14_0, f_14_1, p_14_1, f_14_2, p_14_2, f_14_3, p_14_3, f_14_4, p_14_4, f_14_5, p_14_5, f_14_6, p_14_6, f_14_7, p_14_7, f_14_8, p_14_8, f_14_9, f_14_10, f_14_11, f_14_12, f_14_13, Option.some.injEq, exists_eq_left', exists_eq_left, Option.toList_some, Option.toList_none, List.cons_append, List.nil_append, true_and, and_true, Option.map_some, Option.map_none, h0, hl, not_false_eq_true, if_true, i4, i7, hw4, hw7, b01, show ¬ ((1 : Int32) = 0) by decide, if_false, Bool.false_eq_true, x_ev_iff q1]
      · rw [if_neg hw7]
        obtain ⟨s1, a1, a2, a3, a4⟩ := er 1 (by omega) (by omega)
        rw [show nI 1 = 1 from rfl] at a1
        refine ⟨s1, (t.1, some (1, t.1)), fun r => ?_, a3, a4, a2.D13, Or.inl ⟨rfl, fun _ => rfl⟩, fun z => by cases z⟩
        simp only [w_Reader_readLine_0, w_Reader_readLine_4, w_Reader_readLine_7, w_Reader_readLine_17, w_Reader_readLine_23, w_Reader_readLine_33, w_Reader_readLine_39, w_Reader_readLine_49, c_13, f_13_0, f_13_1, f_13_2, p_13_2, f_13_3, p_13_3, f_13_4, p_13_4, f_13_5, p_13_5, f_13_6, p_13_6, f_13_7, p_13_7, c_14, f_14_0, p_14_0, f_14_1, p_14_1, f_14_2, p_14_2, f_14_3, p_14_3, f_14_4, p_14_4, f_14_5, p_14_5, f_14_6, p_14_6, f_14_7, p_14_7, f_14_8, p_14_8, f_14_9, f_14_10, f_14_11, f_14_12, f_14_13, Option.some.injEq, exists_eq_left', exists_eq_left, Option.toList_some, Option.toList_none, List.cons_append, List.nil_append, true_and, and_true, Option.map_some, Option.map_none, h0, hl, not_false_eq_true, if_true, i4, i7, hw4, hw7, b01, if_false, Bool.false_eq_true, x_ev_iff a1]
theorem t_readLine (hd : 10 ≤ d) (hP : wdP P) {s : xS} {T : Tw} {t : Tk} (ht : tpC s b n) (hW : tWf T) (hn : t.2 = none) (hok : tkOk n t) (htk : tk13 s b n t) (hm : mdC s T) : ∃ s' t', x_ev g_M P d 20 [.ref 13] (mkH xs s) (none, mkH xs s') ∧ tk13 s' b n t' ∧ tkOk n t' ∧ offD s s' ∧ t'.2 = (rdL b n T t).1.2 ∧ ((rdL b n T t).1.2 = none → t' = (rdL b n T t).1 ∧ mdC s' (rdL b n T t).2) := by
  obtain ⟨d, rfl⟩ := x_1 (d := d) (by omega)
  obtain ⟨s1, t1, a1, a2, a3, a4, a5, a6⟩ := t_lineB (P := P) (d := d) (xs := xs) (by omega) hP ht hW hn hok htk hm
  have ht1 := tpC_D a4 ht
  have k4 := a2.2.2.2.1
  have hk4 := kdT_4 b n t1.1
  have n9 := ht.1
  have fin : ∀ (s2 : xS) (t2 : Tk), (∀ r, x_R (x_ev g_M P d) 20 (54, [some (.ref 13)], [], mkH xs s1) r ↔ x_R (x_ev g_M P d) 20 (74, [some (.ref 13)], [], mkH xs s2) r) → offX 13 s1 s2 → tk13 s2 b n t2 → tkOk n t2 → t2.2 = (rdL b n T t).1.2 → ((rdL b n T t).1.2 = none → t2 = (rdL b n T t).1 ∧ (rdB b n T t).1.2 = none) → ∃ s' t', x_ev g_M P (d + 1) 20 [.ref 13] (mkH xs s) (none, mkH xs s') ∧ tk13 s' b n t' ∧ tkOk n t' ∧ offD s s' ∧ t'.2 = (rdL b n T t).1.2 ∧ ((rdL b n T t).1.2 = none → t' = (rdL b n T t).1 ∧ mdC s' (rdL b n T t).2) := fun s2 t2 st o2 tk2 ok2 e1 e2 => by
    have o3 := oC_p s2 14 0 (s2.1 14 0 + 1)
    refine ⟨s_p s2 14 0 (s2.1 14 0 + 1), t2, ?_, tk13_o (o3.1 13 (by omega)) tk2, ok2, (a4.tr o2.D13).tr (s_pM s2 14 0 _ (by omega) (by omega)), e1, fun hh => ?_⟩
    · rw [x_ev_in rfl (Nat.le_of_ble_eq_true rfl)]
      rw [show x_ent (x_nL g_M 20) [.ref 13] = [some (.ref 13)] from rfl]
      rw [a1, st]
      simp only [w_Reader_readLine_74, w_Reader_readLine_78, w_Reader_readLine_82, w_Reader_readLine_87, c_13, f_13_0, f_13_1, f_13_2, p_13_2, f_13_3, p_13_3, f_13_4, p_13_4, f_13_5, p_13_5, f_13_6, p_13_6, f_13_7, p_13_7, c_14, f_14_0, p_14_0, f_14_1, p_14_1, f_14_2, p_14_2, f_14_3, p_14_3, f_14_4, p_14_4, f_14_5, p_14_5, f_14_6, p_14_6, f_14_7, p_14_7, f_14_8, p_14_8, f_14_9, f_14_10, f_14_11, f_14_12, f_14_13, Option.some.injEq, exists_eq_left', exists_eq_left, Option.toList_some, Option.toList_none, List.cons_append, List.nil_append, true_and, and_true, Option.map_some, Option.map_none]
    · obtain ⟨z1, z2⟩ := e2 hh
      exact ⟨z1, md_I (mdC_13 o2 (a6 z2))⟩
  by_cases hk : kdT b n t1.1 = 3
  · obtain ⟨s2, q1, q2, q3⟩ := t_next (P := P) (d := d) (xs := xs) (by omega) ht1 a3.1 a2
    have kk : nI (kdT b n t1.1) = 3 := by rw [hk]; rfl
    refine fin s2 (nxT b n t1.1, t1.2) (fun r => ?_) q2 q3 ⟨(nxT_le a3.1).2, a3.2⟩ ?_ ?_
    · simp only [w_Reader_readLine_54, w_Reader_readLine_58, w_Reader_readLine_62, w_Reader_readLine_66, c_13, f_13_0, f_13_1, f_13_2, p_13_2, f_13_3, p_13_3, f_13_4, p_13_4, f_13_5, p_13_5, f_13_6, p_13_6, f_13_7, p_13_7, Option.some.injEq, exists_eq_left', exists_eq_left, Option.toList_some, Option.toList_none, List.cons_append, List.nil_append, true_and, and_true, Option.map_some, Option.map_none, k4, kk, not_true_eq_false, if_false, x_ev_iff q1]
    · rcases a5 with ⟨z1, z2⟩ | ⟨z1, z2, z3⟩
      · show t1.2 = (lnE b n (rdB b n T t).1).2
        unfold lnE
        by_cases hb : (rdB b n T t).1.2 = none
        · have e := z2 hb
          rw [← e, if_pos (by rw [z1]; exact hb), if_pos hk]
          show t1.2 = none
          rw [z1]; exact hb
        · rw [if_neg hb]; exact z1
      · exact absurd hk z2
    · intro hh
      have hh : (lnE b n (rdB b n T t).1).2 = none := hh
      rcases a5 with ⟨z1, z2⟩ | ⟨z1, z2, z3⟩
      · by_cases hb : (rdB b n T t).1.2 = none
        · have e := z2 hb
          refine ⟨?_, hb⟩
          show (nxT b n t1.1, t1.2) = lnE b n (rdB b n T t).1
          unfold lnE
          rw [← e, if_pos (by rw [z1]; exact hb), if_pos hk, z1, hb]
        · unfold lnE at hh
          rw [if_neg hb] at hh
          exact absurd hh hb
      · exact absurd hk z2
  · obtain ⟨s2, q1, q2, q3⟩ := t_fail (P := P) (d := d) (xs := xs) (by omega) a3.2 a2 1
    rw [show nI 1 = 1 from rfl] at q1
    have kk : ¬ nI (kdT b n t1.1) = 3 := fun z => hk ((nI_eq (b := 3) (by omega) (by omega)).mp z)
    have ok2 : tkOk n (t1.1, errF 1 t1.1 t1.2) := by
      refine ⟨a3.1, ?_⟩
      cases hf : t1.2 with
      | none => exact fOk_s (by omega) (by omega) (by have := a3.1; omega)
      | some e => have := a3.2; rw [hf] at this; exact this
    have e2 : (t1.1, errF 1 t1.1 t1.2).2 = (rdL b n T t).1.2 ∧ (rdL b n T t).1.2 ≠ none := by
      show errF 1 t1.1 t1.2 = (lnE b n (rdB b n T t).1).2 ∧ (lnE b n (rdB b n T t).1).2 ≠ none
      unfold lnE
      rcases a5 with ⟨z1, z2⟩ | ⟨z1, z2, z3⟩
      · by_cases hb : (rdB b n T t).1.2 = none
        · have e := z2 hb
          rw [← e, if_pos (by rw [z1]; exact hb), if_neg hk]
          have z1' : t1.2 = none := by rw [z1]; exact hb
          rw [z1']
          exact ⟨rfl, fun z => by cases z⟩
        · rw [if_neg hb, ← z1]
          cases hf : t1.2 with
          | none => rw [hf] at z1; exact absurd z1.symm hb
          | some e => exact ⟨rfl, fun z => by cases z⟩
      · rw [z3, if_neg (by intro z; cases z), z1]
        exact ⟨rfl, fun z => by cases z⟩
    refine fin s2 (t1.1, errF 1 t1.1 t1.2) (fun r => ?_) q2 q3 ok2 e2.1 (fun z => absurd z e2.2)
    simp only [w_Reader_readLine_54, w_Reader_readLine_58, w_Reader_readLine_69, c_13, f_13_0, f_13_1, f_13_2, p_13_2, f_13_3, p_13_3, f_13_4, p_13_4, f_13_5, p_13_5, f_13_6, p_13_6, f_13_7, p_13_7, Option.some.injEq, exists_eq_left', exists_eq_left, Option.toList_some, Option.toList_none, List.cons_append, List.nil_append, true_and, and_true, Option.map_some, Option.map_none, k4, kk, not_false_eq_true, if_true, x_ev_iff q1]
def rdV (x : Tk × Tw) : Int32 := if x.1.2 = none then tLi x.2 else -4
theorem t_rdF {z : xS} {l1 l2 : Int32} {t : Tk} (hf : fOk t.2) (htk : tk13 z b n t) (hn : t.2 ≠ none) : x_R (x_ev g_M P d) 19 (33, [some (.ref 13), some (.int l1), some (.int l2)], [], mkH xs z) (some (.int (-4)), mkH xs z) := by
  have a5 := htk.2.2.2.2.1
  have a4 := htk.2.2.2.1
  have end_ : x_R (x_ev g_M P d) 19 (64, [some (.ref 13), some (.int l1), some (.int l2)], [], mkH xs z) (some (.int (-4)), mkH xs z) := by
    simp only [w_Reader_read_64, w_Reader_read_68, w_Reader_read_81, w_Reader_read_83, c_13, f_13_0, f_13_1, f_13_2, p_13_2, f_13_3, p_13_3, f_13_4, p_13_4, f_13_5, p_13_5, f_13_6, p_13_6, f_13_7, p_13_7, Option.some.injEq, exists_eq_left', exists_eq_left, Option.toList_some, Option.toList_none, List.cons_append, List.nil_append, true_and, and_true, Option.map_some, Option.map_none, a5, fkN_s hf hn, not_false_eq_true, if_true]
  by_cases h9 : (900 : Int32) ≤ l2
  · simp only [w_Reader_read_33 (l2 := l2), h9, if_true]; exact end_
  · by_cases hk : nI (kdT b n t.1) = 0
    · simp only [w_Reader_read_33 (l2 := l2), w_Reader_read_40, w_Reader_read_44, c_13, f_13_0, f_13_1, f_13_2, p_13_2, f_13_3, p_13_3, f_13_4, p_13_4, f_13_5, p_13_5, f_13_6, p_13_6, f_13_7, p_13_7, Option.some.injEq, exists_eq_left', exists_eq_left, Option.toList_some, Option.toList_none, List.cons_append, List.nil_append, true_and, and_true, Option.map_some, Option.map_none, h9, if_false, a4, hk, if_true]; exact end_
    · simp only [w_Reader_read_33 (l2 := l2), w_Reader_read_40, w_Reader_read_44, w_Reader_read_47, w_Reader_read_51, c_13, f_13_0, f_13_1, f_13_2, p_13_2, f_13_3, p_13_3, f_13_4, p_13_4, f_13_5, p_13_5, f_13_6, p_13_6, f_13_7, p_13_7, Option.some.injEq, exists_eq_left', exists_eq_left, Option.toList_some, Option.toList_none, List.cons_append, List.nil_append, true_and, and_true, Option.map_some, Option.map_none, h9, if_false, a4, hk, a5, fkN_s hf hn, not_false_eq_true, if_true]; exact end_
theorem t_rdL (hd : 10 ≤ d) (hP : wdP P) {l1 : Int32} {s : xS} : ∀ (f c : Nat) (t : Tk) (T : Tw) (z : xS), n < t.1 + f → c ≤ t.1 → t.2 = none → tkOk n t → tGd T c → tpC z b n → tk13 z b n t → mdC z T → offD s z → ∃ z' t', x_R (x_ev g_M P d) 19 (33, [some (.ref 13), some (.int l1), some (.int (nI c))], [], mkH xs z) (some (.int (rdV (rdT b n f (t, T)))), mkH xs z') ∧ tk13 z' b n t' ∧ t'.2 = (rdT b n f (t, T)).1.2 ∧ fOk t'.2 ∧ offD s z' ∧ ((rdT b n f (t, T)).1.2 = none → mdC z' (rdT b n f (t, T)).2 ∧ ∃ c', c' ≤ 900 ∧ tGd (rdT b n f (t, T)).2 c') := by
  intro f
  induction f with
  | zero => intro c t T z h1 _ _ hok; have := hok.1; omega
  | succ f ih =>
    intro c t T z hf hc hn hok hG ht htk hm ho
    have n9 := ht.1
    have a5 : z.1 13 6 = 0 := by have := htk.2.2.2.2.1; rw [this, hn]; rfl
    have a4 := htk.2.2.2.1
    have hk4 := kdT_4 b n t.1
    have h0 := hm.1.1.1
    have hle := hok.1
    rw [rdT]
    by_cases hk : kdT b n t.1 = 0
    · rw [if_neg (fun w => w.2 hk)]
      have kk : nI (kdT b n t.1) = 0 := by rw [hk]; rfl
      have hv : rdV (t, T) = tLi T := by unfold rdV; rw [if_pos hn]
      refine ⟨z, t, ?_, htk, rfl, hok.2, ho, fun _ => ⟨hm, c, by omega, hG⟩⟩
      rw [hv]
      have end_ : x_R (x_ev g_M P d) 19 (64, [some (.ref 13), some (.int l1), some (.int (nI c))], [], mkH xs z) (some (.int (tLi T)), mkH xs z) := by
        simp only [w_Reader_read_64, w_Reader_read_68, w_Reader_read_71, w_Reader_read_75, w_Reader_read_78, w_Reader_read_83, c_13, f_13_0, f_13_1, f_13_2, p_13_2, f_13_3, p_13_3, f_13_4, p_13_4, f_13_5, p_13_5, f_13_6, p_13_6, f_13_7, p_13_7, c_14, f_14_0, p_14_0, f_14_1, p_14_1, f_14_2, p_14_2, f_14_3, p_14_3, f_14_4, p_14_4, f_14_5, p_14_5, f_14_6, p_14_6, f_14_7, p_14_7, f_14_8, p_14_8, f_14_9, f_14_10, f_14_11, f_14_12, f_14_13, Option.some.injEq, exists_eq_left', exists_eq_left, Option.toList_some, Option.toList_none, List.cons_append, List.nil_append, true_and, and_true, Option.map_some, Option.map_none, a5, not_true_eq_false, if_false, h0]
      by_cases h9 : (900 : Int32) ≤ nI c
      · simp only [w_Reader_read_33 (l2 := nI c), h9, if_true]; exact end_
      · simp only [w_Reader_read_33 (l2 := nI c), w_Reader_read_40, w_Reader_read_44, c_13, f_13_0, f_13_1, f_13_2, p_13_2, f_13_3, p_13_3, f_13_4, p_13_4, f_13_5, p_13_5, f_13_6, p_13_6, f_13_7, p_13_7, Option.some.injEq, exists_eq_left', exists_eq_left, Option.toList_some, Option.toList_none, List.cons_append, List.nil_append, true_and, and_true, Option.map_some, Option.map_none, h9, if_false, a4, kk, if_true]; exact end_
    · rw [if_pos ⟨hn, hk⟩]
      have kk : ¬ nI (kdT b n t.1) = 0 := nI_ne0 (by omega) (by omega)
      have htn : t.1 < n := kdT_i (b := b) hk
      have h9 : ¬ (900 : Int32) ≤ nI c := nI_ge (b := 900) (by omega) (by omega)
      obtain ⟨z1, t1, q1, q2, q3, q4, q5, q6⟩ := t_readLine (P := P) (d := d) (xs := xs) hd hP ht hG.2.1 hn hok htk hm
      have st : ∀ r, x_R (x_ev g_M P d) 19 (33, [some (.ref 13), some (.int l1), some (.int (nI c))], [], mkH xs z) r ↔ x_R (x_ev g_M P d) 19 (33, [some (.ref 13), some (.int l1), some (.int (nI (c + 1)))], [], mkH xs z1) r := fun r => by
        simp only [w_Reader_read_33 (l2 := nI c), w_Reader_read_40, w_Reader_read_44, w_Reader_read_47, w_Reader_read_51, w_Reader_read_54, w_Reader_read_58, c_13, f_13_0, f_13_1, f_13_2, p_13_2, f_13_3, p_13_3, f_13_4, p_13_4, f_13_5, p_13_5, f_13_6, p_13_6, f_13_7, p_13_7, Option.some.injEq, exists_eq_left', exists_eq_left, Option.toList_some, Option.toList_none, List.cons_append, List.nil_append, true_and, and_true, Option.map_some, Option.map_none, h9, if_false, a4, kk, a5, not_true_eq_false, x_ev_iff q1, nI_1]
      show ∃ z' t', x_R (x_ev g_M P d) 19 (33, [some (.ref 13), some (.int l1), some (.int (nI c))], [], mkH xs z) (some (.int (rdV (rdT b n f (rdL b n T t)))), mkH xs z') ∧ tk13 z' b n t' ∧ t'.2 = (rdT b n f (rdL b n T t)).1.2 ∧ fOk t'.2 ∧ offD s z' ∧ ((rdT b n f (rdL b n T t)).1.2 = none → mdC z' (rdT b n f (rdL b n T t)).2 ∧ ∃ c', c' ≤ 900 ∧ tGd (rdT b n f (rdL b n T t)).2 c')
      by_cases hx : (rdL b n T t).1.2 = none
      · obtain ⟨e1, e2⟩ := q6 hx
        obtain ⟨v1, v2, v3⟩ := rdL_v hx hok.1 (show c < 2 ^ 31 by omega) hG
        rw [e1] at q2 q3
        obtain ⟨z', t', g⟩ := ih (c + 1) (rdL b n T t).1 (rdL b n T t).2 z1 (by omega) (by omega) hx q3 v1 (tpC_D q4 ht) q2 e2 (ho.tr q4)
        refine ⟨z', t', ?_, g.2⟩
        rw [st]
        exact g.1
      · rw [rdT_f hx]
        have hv : rdV (rdL b n T t) = -4 := by unfold rdV; rw [if_neg hx]
        rw [hv]
        refine ⟨z1, t1, ?_, q2, q5, q3.2, ho.tr q4, fun w => absurd w hx⟩
        rw [st]
        exact t_rdF q3.2 q2 (by rw [q5]; exact hx)
def rdA (b : Nat → Int32) (n : Nat) : Tk × Tw := rdT b n 901 ((skT b n 0, none), t00)
set_option maxHeartbeats 4000000 in
theorem t_read (hd : 11 ≤ d) (hP : wdP P) {s : xS} (ht : tpC s b n) : ∃ s', x_ev g_M P d 19 [.ref 13, .int (nI n)] (mkH xs s) (some (.int (rdV (rdA b n))), mkH xs s') ∧ offD s s' ∧ s'.1 13 6 = fkN (rdA b n).1.2 ∧ s'.1 13 7 = fpN (rdA b n).1.2 ∧ fOk (rdA b n).1.2 ∧ ((rdA b n).1.2 = none → mdC s' (rdA b n).2 ∧ ∃ c', c' ≤ 900 ∧ tGd (rdA b n).2 c') := by
  obtain ⟨d, rfl⟩ := x_1 (d := d) (by omega)
  generalize hy : s_p (s_p (s_p (s_p s 13 2 (nI n)) 13 4 0) 13 6 0) 13 7 (-1) = y
  have yo : ∀ q, q ≠ 13 → y.1 q = s.1 q := fun q hq => by rw [← hy]; funext k; simp [s_p, hq]
  have yl : y.2 = s.2 := by rw [← hy]; rfl
  have y2 : y.1 13 2 = nI n := by rw [← hy]; simp [s_p]
  have y4 : y.1 13 4 = nI 0 := by rw [← hy]; simp [s_p]; rfl
  have y6 : y.1 13 6 = 0 := by rw [← hy]; simp [s_p]
  have y7 : y.1 13 7 = -1 := by rw [← hy]; simp [s_p]
  obtain ⟨s1, a1, a2, a3, a4⟩ := t_clear (P := P) (d := d) (xs := xs) (by omega) y
  have s13 : s1.1 13 = y.1 13 := a2 13 (by omega)
  have ht1 : tpC s1 b n := ht.off (by rw [a2 2 (by omega), yo 2 (by omega)])
  obtain ⟨s2, b1, b2, b3, b4, b5, b6⟩ := t_next0 (P := P) (d := d) (xs := xs) (by omega) ht1 (e := 0) (by omega) (by rw [s13]; exact y2) (by rw [s13]; exact y4)
  have htk : tk13 s2 b n (skT b n 0, none) := ⟨by rw [b3 2 (by omega) (by omega) (by omega), s13]; exact y2, b4, b5, b6, by rw [b3 6 (by omega) (by omega) (by omega), s13]; exact y6, by rw [b3 7 (by omega) (by omega) (by omega), s13]; exact y7⟩
  have hof : offD s s2 := ⟨fun q hq => by rw [b2.1 q (by omega), a2 q (by omega), yo q (by omega)], by rw [b2.2, a3, yl]⟩
  have hsk := skT_le (b := b) (show 0 ≤ n by omega)
  have n9 := ht.1
  obtain ⟨s3, t3, c1, c2, c3, c4, c5, c6⟩ := t_rdL (P := P) (d := d) (xs := xs) (l1 := nI n) (s := s) (by omega) hP 901 0 (skT b n 0, none) t00 s2 (by show n < skT b n 0 + 901; omega) (by omega) rfl ⟨hsk.2, fOk_n⟩ t00_gd (tpC_D b2.D13 ht1) htk (mdC_13 b2 a4) hof
  refine ⟨s3, ?_, c5, ?_, ?_, by rw [c3] at c4; exact c4, c6⟩
  · rw [x_ev_in rfl (Nat.le_of_ble_eq_true rfl)]
    rw [show x_ent (x_nL g_M 19) [.ref 13, .int (nI n)] = [some (.ref 13), some (.int (nI n)), none] from rfl]
    simp only [w_Reader_read_0, w_Reader_read_5, w_Reader_read_10, w_Reader_read_15, w_Reader_read_20, w_Reader_read_24, w_Reader_read_27, w_Reader_read_31, c_13, f_13_0, f_13_1, f_13_2, p_13_2, f_13_3, p_13_3, f_13_4, p_13_4, f_13_5, p_13_5, f_13_6, p_13_6, f_13_7, p_13_7, c_14, f_14_0, p_14_0, f_14_1, p_14_1, f_14_2, p_14_2, f_14_3, p_14_3, f_14_4, p_14_4, f_14_5, p_14_5, f_14_6, p_14_6, f_14_7, p_14_7, f_14_8, p_14_8, f_14_9, f_14_10, f_14_11, f_14_12, f_14_13, Option.some.injEq, exists_eq_left', exists_eq_left, Option.toList_some, Option.toList_none, List.cons_append, List.nil_append, true_and, and_true, Option.map_some, Option.map_none, hy, x_ev_iff a1, x_ev_iff b1]
    exact c1
  · rw [c2.2.2.2.2.1, c3]; rfl
  · rw [c2.2.2.2.2.2, c3]; rfl
end READ2
