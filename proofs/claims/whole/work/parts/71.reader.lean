/-! THE READER of the class: next, fail, isWord, takeWord, takeNumber (own work) -/
def tk13 (s : xS) (b : Nat → Int32) (n : Nat) (t : Tk) : Prop := s.1 13 2 = nI n ∧ s.1 13 3 = nI t.1 ∧ s.1 13 4 = nI (enT b n t.1) ∧ s.1 13 5 = nI (kdT b n t.1) ∧ s.1 13 6 = fkN t.2 ∧ s.1 13 7 = fpN t.2
theorem tpC.off {s s' : xS} {b : Nat → Int32} {n : Nat} (h : s'.1 2 = s.1 2) (ht : tpC s b n) : tpC s' b n := ⟨ht.1, fun i hi => by rw [h]; exact ht.2 i hi⟩
section RDR
variable {P : Nat → List Value → Option Value} {d : Nat} {xs : List Int32} {b : Nat → Int32} {n : Nat}
set_option maxHeartbeats 4000000 in
theorem t_next0 (hd : 1 ≤ d) {s : xS} (ht : tpC s b n) {e : Nat} (he : e ≤ n) (h2 : s.1 13 2 = nI n) (h4 : s.1 13 4 = nI e) : ∃ s', x_ev g_M P d 32 [.ref 13] (mkH xs s) (none, mkH xs s') ∧ offX 13 s s' ∧ (∀ k, k ≠ 3 → k ≠ 4 → k ≠ 5 → s'.1 13 k = s.1 13 k) ∧ s'.1 13 3 = nI (skT b n e) ∧ s'.1 13 4 = nI (enT b n (skT b n e)) ∧ s'.1 13 5 = nI (kdT b n (skT b n e)) := by
  obtain ⟨d, rfl⟩ := x_1 (d := d) (by omega)
  obtain ⟨h9, hb⟩ := ht
  have o0 := oC_p s 13 3 (nI e)
  obtain ⟨z, g1, g2, g3⟩ := t_nx1 (P := P) (d := d) (xs := xs) (b := b) h9 (n - e) e (s_p s 13 3 (nI e)) (by omega) (fun j hj => by rw [o0.1 2 (by omega)]; exact hb j hj) (by rw [o0.2.1 2 (by omega)]; exact h2) (s_p_v _ _ _ _)
  have o1 := o0.tr g1
  have hj := skT_le (b := b) he
  have g2 : z.1 13 3 = nI (skT b n e) := g2
  generalize hjj : skT b n e = j at *
  have z2 : z.1 13 2 = nI n := by rw [o1.2.1 2 (by omega)]; exact h2
  have zb : ∀ j, j < 900 → z.1 2 j = b j := fun j hj => by rw [o1.1 2 (by omega)]; exact hb j hj
  have st : ∀ r, x_ev g_M P (d + 1) 32 [.ref 13] (mkH xs s) r ↔ x_R (x_ev g_M P d) 32 (60, [some (.ref 13)], [], mkH xs z) r := fun r => by
    rw [← g3 r]
    rw [x_ev_in rfl (Nat.le_of_ble_eq_true rfl)]
    rw [show x_ent (x_nL g_M 32) [.ref 13] = [some (.ref 13)] from rfl]
    simp only [w_Reader_next_0, w_Reader_next_5, c_13, f_13_0, f_13_1, f_13_2, p_13_2, f_13_3, p_13_3, f_13_4, p_13_4, f_13_5, p_13_5, f_13_6, p_13_6, f_13_7, p_13_7, Option.some.injEq, exists_eq_left', exists_eq_left, Option.toList_some, Option.toList_none, List.cons_append, List.nil_append, true_and, and_true, Option.map_some, Option.map_none, h4]
  have e1 : ∀ v w, (s_p (s_p z 13 4 v) 13 5 w).1 13 3 = nI j := fun v w => by simp [s_p, g2]
  have e2 : ∀ v w, (s_p (s_p z 13 4 v) 13 5 w).1 13 2 = nI n := fun v w => by simp [s_p, z2]
  by_cases hjn : j < n
  · have hlt : nI j < nI n := nI_lt hjn (by omega)
    have e4 : ∀ v w, (s_p (s_p z 13 4 v) 13 5 w).1 13 4 = v := fun v w => by simp [s_p]
    have e5 : ∀ v w u, (s_p (s_p (s_p z 13 4 v) 13 5 w) 13 4 u).1 13 3 = nI j := fun v w u => by simp [s_p, g2]
    have e6 : ∀ v w u, (s_p (s_p (s_p z 13 4 v) 13 5 w) 13 4 u).1 2 = z.1 2 := fun v w u => by funext k; simp [s_p]
    have hx : x_rd (z.1 2) 900 (nI j) = some (b j) := by rw [x_rd_nI (by omega) (by omega), zb j (by omega)]
    generalize hy : s_p (s_p (s_p z 13 4 (nI j)) 13 5 0) 13 4 (nI (j + 1)) = y
    have y13 : ∀ k, k ≠ 3 → k ≠ 4 → k ≠ 5 → y.1 13 k = s.1 13 k := fun k a c e => by rw [← hy, ← o1.2.1 k a]; simp [s_p, c, e]
    have yo : ∀ q, q ≠ 13 → y.1 q = s.1 q := fun q hq => by rw [← hy, ← o1.1 q hq]; funext k; simp [s_p, hq]
    have yl : y.2 = s.2 := by rw [← hy]; exact o1.2.2
    have y3 : y.1 13 3 = nI j := by rw [← hy]; exact e5 _ _ _
    have y4 : y.1 13 4 = nI (j + 1) := by rw [← hy]; exact s_p_v _ _ _ _
    have yb : ∀ j, j < 900 → y.1 2 j = b j := fun j hj => by rw [yo 2 (by omega)]; exact hb j hj
    have yx : x_rd (y.1 2) 900 (nI j) = some (b j) := by rw [x_rd_nI (by omega) (by omega), yb j (by omega)]
    have st2 : ∀ r, x_R (x_ev g_M P d) 32 (60, [some (.ref 13)], [], mkH xs z) r ↔ x_R (x_ev g_M P d) 32 (95, [some (.ref 13)], [], mkH xs y) r := fun r => by
      rw [← hy]
      simp only [w_Reader_next_60, w_Reader_next_65, w_Reader_next_68, w_Reader_next_73, w_Reader_next_77, w_Reader_next_81, w_Reader_next_85, w_Reader_next_90, c_13, f_13_0, f_13_1, f_13_2, p_13_2, f_13_3, p_13_3, f_13_4, p_13_4, f_13_5, p_13_5, f_13_6, p_13_6, f_13_7, p_13_7, Option.some.injEq, exists_eq_left', exists_eq_left, Option.toList_some, Option.toList_none, List.cons_append, List.nil_append, true_and, and_true, Option.map_some, Option.map_none, g2, e1, e2, e4, hlt, if_true, nI_1]
    by_cases hl : isLt (b j) = true
    · obtain ⟨a1, a2⟩ := isLt_1 hl
      have o5 := oC_p y 13 5 1
      obtain ⟨u, k1, k2, k3⟩ := t_nx2 (P := P) (d := d) (xs := xs) (b := b) h9 (n - (j + 1)) (j + 1) (s_p y 13 5 1) (by omega) (fun i hi => by rw [o5.1 2 (by omega)]; exact yb i hi) (by rw [o5.2.1 2 (by omega), y13 2 (by omega) (by omega) (by omega)]; exact h2) (by rw [o5.2.1 4 (by omega)]; exact y4)
      refine ⟨u, ?_, ⟨fun q hq => by rw [k1.1 q hq, o5.1 q hq, yo q hq], by rw [k1.2.2, o5.2.2, yl]⟩, fun k a c e => by rw [k1.2.1 k c, o5.2.1 k e, y13 k a c e], by rw [k1.2.1 3 (by omega), o5.2.1 3 (by omega)]; exact y3, ?_, ?_⟩
      · rw [st, st2]
        simp only [w_Reader_next_95, w_Reader_next_99, w_Reader_next_103, w_Reader_next_104, w_Reader_next_109, w_Reader_next_113, w_Reader_next_117, w_Reader_next_118, w_Reader_next_123, c_13, f_13_0, f_13_1, f_13_2, p_13_2, f_13_3, p_13_3, f_13_4, p_13_4, f_13_5, p_13_5, f_13_6, p_13_6, f_13_7, p_13_7, e_2, i_2, Option.some.injEq, exists_eq_left', exists_eq_left, Option.toList_some, Option.toList_none, List.cons_append, List.nil_append, true_and, and_true, Option.map_some, Option.map_none, y3, yx, a1, a2, if_false]
        rw [k3, w_Reader_next_288]
      · rw [k2]; unfold enT; rw [if_pos hjn, if_pos hl]
      · rw [k1.2.1 5 (by omega), s_p_v]; unfold kdT; rw [if_pos hjn, if_pos hl]; rfl
    · have s180 : ∀ r, x_R (x_ev g_M P d) 32 (95, [some (.ref 13)], [], mkH xs y) r ↔ x_R (x_ev g_M P d) 32 (180, [some (.ref 13)], [], mkH xs y) r := fun r => by
        rcases isLt_0 hl with a1 | ⟨a1, a2⟩
        · simp only [w_Reader_next_95, w_Reader_next_99, w_Reader_next_103, w_Reader_next_104, c_13, f_13_0, f_13_1, f_13_2, p_13_2, f_13_3, p_13_3, f_13_4, p_13_4, f_13_5, p_13_5, f_13_6, p_13_6, f_13_7, p_13_7, e_2, i_2, Option.some.injEq, exists_eq_left', exists_eq_left, Option.toList_some, Option.toList_none, List.cons_append, List.nil_append, true_and, and_true, Option.map_some, Option.map_none, y3, yx, a1, if_true]
        · simp only [w_Reader_next_95, w_Reader_next_99, w_Reader_next_103, w_Reader_next_104, w_Reader_next_109, w_Reader_next_113, w_Reader_next_117, w_Reader_next_118, c_13, f_13_0, f_13_1, f_13_2, p_13_2, f_13_3, p_13_3, f_13_4, p_13_4, f_13_5, p_13_5, f_13_6, p_13_6, f_13_7, p_13_7, e_2, i_2, Option.some.injEq, exists_eq_left', exists_eq_left, Option.toList_some, Option.toList_none, List.cons_append, List.nil_append, true_and, and_true, Option.map_some, Option.map_none, y3, yx, a1, a2, if_false, if_true]
      by_cases hdg : isDg (b j) = true
      · obtain ⟨a1, a2⟩ := isDg_1 hdg
        have o5 := oC_p y 13 5 2
        obtain ⟨u, k1, k2, k3⟩ := t_nx3 (P := P) (d := d) (xs := xs) (b := b) h9 (n - (j + 1)) (j + 1) (s_p y 13 5 2) (by omega) (fun i hi => by rw [o5.1 2 (by omega)]; exact yb i hi) (by rw [o5.2.1 2 (by omega), y13 2 (by omega) (by omega) (by omega)]; exact h2) (by rw [o5.2.1 4 (by omega)]; exact y4)
        refine ⟨u, ?_, ⟨fun q hq => by rw [k1.1 q hq, o5.1 q hq, yo q hq], by rw [k1.2.2, o5.2.2, yl]⟩, fun k a c e => by rw [k1.2.1 k c, o5.2.1 k e, y13 k a c e], by rw [k1.2.1 3 (by omega), o5.2.1 3 (by omega)]; exact y3, ?_, ?_⟩
        · rw [st, st2, s180]
          simp only [w_Reader_next_180, w_Reader_next_184, w_Reader_next_188, w_Reader_next_189, w_Reader_next_194, w_Reader_next_198, w_Reader_next_202, w_Reader_next_203, w_Reader_next_208, c_13, f_13_0, f_13_1, f_13_2, p_13_2, f_13_3, p_13_3, f_13_4, p_13_4, f_13_5, p_13_5, f_13_6, p_13_6, f_13_7, p_13_7, e_2, i_2, Option.some.injEq, exists_eq_left', exists_eq_left, Option.toList_some, Option.toList_none, List.cons_append, List.nil_append, true_and, and_true, Option.map_some, Option.map_none, y3, yx, a1, a2, if_false]
          rw [k3, w_Reader_next_288]
        · rw [k2]; unfold enT; rw [if_pos hjn, if_neg hl, if_pos hdg]
        · rw [k1.2.1 5 (by omega), s_p_v]; unfold kdT; rw [if_pos hjn, if_neg hl, if_pos hdg]; rfl
      · have s265 : ∀ r, x_R (x_ev g_M P d) 32 (180, [some (.ref 13)], [], mkH xs y) r ↔ x_R (x_ev g_M P d) 32 (265, [some (.ref 13)], [], mkH xs y) r := fun r => by
          rcases isDg_0 hdg with a1 | ⟨a1, a2⟩
          · simp only [w_Reader_next_180, w_Reader_next_184, w_Reader_next_188, w_Reader_next_189, c_13, f_13_0, f_13_1, f_13_2, p_13_2, f_13_3, p_13_3, f_13_4, p_13_4, f_13_5, p_13_5, f_13_6, p_13_6, f_13_7, p_13_7, e_2, i_2, Option.some.injEq, exists_eq_left', exists_eq_left, Option.toList_some, Option.toList_none, List.cons_append, List.nil_append, true_and, and_true, Option.map_some, Option.map_none, y3, yx, a1, if_true]
          · simp only [w_Reader_next_180, w_Reader_next_184, w_Reader_next_188, w_Reader_next_189, w_Reader_next_194, w_Reader_next_198, w_Reader_next_202, w_Reader_next_203, c_13, f_13_0, f_13_1, f_13_2, p_13_2, f_13_3, p_13_3, f_13_4, p_13_4, f_13_5, p_13_5, f_13_6, p_13_6, f_13_7, p_13_7, e_2, i_2, Option.some.injEq, exists_eq_left', exists_eq_left, Option.toList_some, Option.toList_none, List.cons_append, List.nil_append, true_and, and_true, Option.map_some, Option.map_none, y3, yx, a1, a2, if_false, if_true]
        have fin : ∀ v : Int32, v = nI (kdT b n j) → oC 13 5 y (s_p y 13 5 v) → (∀ k, k ≠ 3 → k ≠ 4 → k ≠ 5 → (s_p y 13 5 v).1 13 k = s.1 13 k) ∧ (s_p y 13 5 v).1 13 3 = nI j ∧ (s_p y 13 5 v).1 13 4 = nI (enT b n j) ∧ (s_p y 13 5 v).1 13 5 = nI (kdT b n j) := fun v hv o => ⟨fun k a c e => by rw [o.2.1 k e, y13 k a c e], by rw [o.2.1 3 (by omega)]; exact y3, by rw [o.2.1 4 (by omega), y4]; unfold enT; rw [if_pos hjn, if_neg hl, if_neg hdg], by rw [s_p_v, hv]⟩
        by_cases h59 : b j = 59
        · have hk : (3 : Int32) = nI (kdT b n j) := by unfold kdT; rw [if_pos hjn, if_neg hl, if_neg hdg, if_pos h59]; rfl
          have o5 := oC_p y 13 5 3
          obtain ⟨f1, f2, f3, f4⟩ := fin 3 hk o5
          refine ⟨s_p y 13 5 3, ?_, ⟨fun q hq => by rw [o5.1 q hq, yo q hq], yl⟩, f1, f2, f3, f4⟩
          rw [st, st2, s180, s265]
          simp only [w_Reader_next_265, w_Reader_next_270, w_Reader_next_274, w_Reader_next_275, w_Reader_next_280, w_Reader_next_285, w_Reader_next_288, c_13, f_13_0, f_13_1, f_13_2, p_13_2, f_13_3, p_13_3, f_13_4, p_13_4, f_13_5, p_13_5, f_13_6, p_13_6, f_13_7, p_13_7, e_2, i_2, Option.some.injEq, exists_eq_left', exists_eq_left, Option.toList_some, Option.toList_none, List.cons_append, List.nil_append, true_and, and_true, Option.map_some, Option.map_none, y3, yx, h59, not_true_eq_false, if_false]
        · have hk : (4 : Int32) = nI (kdT b n j) := by unfold kdT; rw [if_pos hjn, if_neg hl, if_neg hdg, if_neg h59]; rfl
          have o5 := oC_p y 13 5 4
          obtain ⟨f1, f2, f3, f4⟩ := fin 4 hk o5
          refine ⟨s_p y 13 5 4, ?_, ⟨fun q hq => by rw [o5.1 q hq, yo q hq], yl⟩, f1, f2, f3, f4⟩
          rw [st, st2, s180, s265]
          simp only [w_Reader_next_265, w_Reader_next_270, w_Reader_next_274, w_Reader_next_275, w_Reader_next_284, w_Reader_next_285, w_Reader_next_288, c_13, f_13_0, f_13_1, f_13_2, p_13_2, f_13_3, p_13_3, f_13_4, p_13_4, f_13_5, p_13_5, f_13_6, p_13_6, f_13_7, p_13_7, e_2, i_2, Option.some.injEq, exists_eq_left', exists_eq_left, Option.toList_some, Option.toList_none, List.cons_append, List.nil_append, true_and, and_true, Option.map_some, Option.map_none, y3, yx, h59, not_false_eq_true, if_true]
  · have hlt : ¬ nI j < nI n := nI_nlt (by omega) (by omega)
    have o4 := oC_p z 13 4 (nI j)
    have o5 := oC_p (s_p z 13 4 (nI j)) 13 5 0
    refine ⟨s_p (s_p z 13 4 (nI j)) 13 5 0, ?_, ⟨fun q hq => by rw [o5.1 q hq, o4.1 q hq, o1.1 q hq], o1.2.2⟩, fun k a c e => by rw [o5.2.1 k e, o4.2.1 k c, o1.2.1 k a], e1 _ _, ?_, ?_⟩
    · rw [st]
      simp only [w_Reader_next_60, w_Reader_next_65, w_Reader_next_68, w_Reader_next_73, w_Reader_next_77, w_Reader_next_81, w_Reader_next_84, c_13, f_13_0, f_13_1, f_13_2, p_13_2, f_13_3, p_13_3, f_13_4, p_13_4, f_13_5, p_13_5, f_13_6, p_13_6, f_13_7, p_13_7, Option.some.injEq, exists_eq_left', exists_eq_left, Option.toList_some, Option.toList_none, List.cons_append, List.nil_append, true_and, and_true, Option.map_some, Option.map_none, g2, e1, e2, hlt, if_false]
    · rw [o5.2.1 4 (by omega), s_p_v]; unfold enT; rw [if_neg hjn]
    · rw [s_p_v, kdT_0 hjn]; rfl
theorem t_next (hd : 1 ≤ d) {s : xS} (ht : tpC s b n) {t : Tk} (hi : t.1 ≤ n) (h : tk13 s b n t) : ∃ s', x_ev g_M P d 32 [.ref 13] (mkH xs s) (none, mkH xs s') ∧ offX 13 s s' ∧ tk13 s' b n (nxT b n t.1, t.2) := by
  obtain ⟨a1, a2, a3, a4, a5, a6⟩ := h
  obtain ⟨s', q1, q2, q3, q4, q5, q6⟩ := t_next0 (P := P) (xs := xs) hd ht (enT_le (b := b) hi).2 a1 a3
  refine ⟨s', q1, q2, ?_, q4, q5, q6, ?_, ?_⟩
  · rw [q3 2 (by omega) (by omega) (by omega)]; exact a1
  · rw [q3 6 (by omega) (by omega) (by omega)]; exact a5
  · rw [q3 7 (by omega) (by omega) (by omega)]; exact a6
theorem t_fail (hd : 1 ≤ d) {s : xS} {t : Tk} (hf : fOk t.2) (h : tk13 s b n t) (c : Nat) : ∃ s', x_ev g_M P d 31 [.ref 13, .int (nI c)] (mkH xs s) (none, mkH xs s') ∧ offX 13 s s' ∧ tk13 s' b n (t.1, errF c t.1 t.2) := by
  obtain ⟨a1, a2, a3, a4, a5, a6⟩ := h
  obtain ⟨i, f⟩ := t
  cases f with
  | some e =>
    have h0 : ¬ fkN (some e) = 0 := fun z => by cases (fk_0 hf).mp z
    refine ⟨s, ?_, ⟨fun _ _ => rfl, rfl⟩, a1, a2, a3, a4, a5, a6⟩
    obtain ⟨d, rfl⟩ := x_1 (d := d) (by omega)
    rw [x_ev_in rfl (Nat.le_of_ble_eq_true rfl)]
    rw [show x_ent (x_nL g_M 31) [.ref 13, .int (nI c)] = [some (.ref 13), some (.int (nI c))] from rfl]
    simp only [w_Reader_fail_0, w_Reader_fail_4, w_Reader_fail_7, w_Reader_fail_12, w_Reader_fail_17, w_Reader_fail_20, c_13, f_13_0, f_13_1, f_13_2, p_13_2, f_13_3, p_13_3, f_13_4, p_13_4, f_13_5, p_13_5, f_13_6, p_13_6, f_13_7, p_13_7, Option.some.injEq, exists_eq_left', exists_eq_left, Option.toList_some, Option.toList_none, List.cons_append, List.nil_append, true_and, and_true, Option.map_some, Option.map_none, a5, h0, not_false_eq_true, if_true]
  | none =>
    have a5 : s.1 13 6 = 0 := a5
    have e3 : ∀ v, (s_p s 13 6 v).1 13 3 = nI i := fun v => by simp [s_p]; exact a2
    refine ⟨s_p (s_p s 13 6 (nI c)) 13 7 (nI i), ?_, ⟨fun q hq => by funext k; simp [s_p, hq], rfl⟩, ?_, ?_, ?_, ?_, ?_, ?_⟩
    · obtain ⟨d, rfl⟩ := x_1 (d := d) (by omega)
      rw [x_ev_in rfl (Nat.le_of_ble_eq_true rfl)]
      rw [show x_ent (x_nL g_M 31) [.ref 13, .int (nI c)] = [some (.ref 13), some (.int (nI c))] from rfl]
      simp only [w_Reader_fail_0, w_Reader_fail_4, w_Reader_fail_7, w_Reader_fail_12, w_Reader_fail_17, w_Reader_fail_20, c_13, f_13_0, f_13_1, f_13_2, p_13_2, f_13_3, p_13_3, f_13_4, p_13_4, f_13_5, p_13_5, f_13_6, p_13_6, f_13_7, p_13_7, Option.some.injEq, exists_eq_left', exists_eq_left, Option.toList_some, Option.toList_none, List.cons_append, List.nil_append, true_and, and_true, Option.map_some, Option.map_none, a5, e3, not_true_eq_false, if_false]
    · simp [s_p]; exact a1
    · simp [s_p]; exact a2
    · simp [s_p]; exact a3
    · simp [s_p]; exact a4
    · simp [s_p, errF, fkN]
    · simp [s_p, errF, fpN]
end RDR
