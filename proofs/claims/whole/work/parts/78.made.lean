/-! THE READER of the class: how it makes the TOWN (own work) -/
def mdC (s : xS) (T : Tw) : Prop := clsT s 14 T ∧ (∀ i, tP T ≤ i → bt (s.1 14 6) i = false) ∧ (∀ i, tM T ≤ i → bt (s.1 14 7) i = false) ∧ (∀ i, tM T ≤ i → bt (s.1 14 8) i = false) ∧ (∀ p, p < 6 → tP T ≤ p → s.1 16 p = 0) ∧ (∀ m, m < 8 → tM T ≤ m → s.1 18 m = 0) ∧ ∀ p, p < 6 → ∀ m, m < 8 → tP T ≤ p ∨ tM T ≤ m → s.1 19 (8 * p + m) = 0
def offD (s s' : xS) : Prop := (∀ q, q < 13 ∨ 19 < q → s'.1 q = s.1 q) ∧ s'.2 = s.2
theorem offD.rf {s : xS} : offD s s := ⟨fun _ _ => rfl, rfl⟩
theorem offD.tr {s s' s'' : xS} (h : offD s s') (h2 : offD s' s'') : offD s s'' := ⟨fun q a => (h2.1 q a).trans (h.1 q a), h2.2.trans h.2⟩
theorem offX.M {c : Nat} {s s' : xS} (h : offX c s s') (h1 : 13 ≤ c) (h2 : c ≤ 19) : offD s s' := ⟨fun q hq => h.1 q (by omega), h.2⟩
theorem s_pM (s : xS) (c k : Nat) (v : Int32) (h1 : 13 ≤ c) (h2 : c ≤ 19) : offD s (s_p s c k v) := ⟨fun q hq => (oC_p s c k v).1 q (by omega), rfl⟩
theorem mdC_13 {s s' : xS} {T : Tw} (h : offX 13 s s') (hm : mdC s T) : mdC s' T := by
  unfold mdC clsT at *
  rw [h.1 14 (by omega), h.1 15 (by omega), h.1 16 (by omega), h.1 17 (by omega), h.1 18 (by omega), h.1 19 (by omega)]
  exact hm
theorem tk13_o {s s' : xS} {b : Nat → Int32} {n : Nat} {t : Tk} (h : s'.1 13 = s.1 13) (ht : tk13 s b n t) : tk13 s' b n t := by
  unfold tk13 at *
  rw [h]
  exact ht
theorem g_15 (s : xS) : g_cell 15 s = xI 0 ((List.range 6).map (s.1 15)) := rfl
theorem g_16 (s : xS) : g_cell 16 s = xI 0 ((List.range 6).map (s.1 16)) := rfl
theorem g_17 (s : xS) : g_cell 17 s = xI 0 ((List.range 16).map (s.1 17)) := rfl
theorem g_18 (s : xS) : g_cell 18 s = xI 0 ((List.range 8).map (s.1 18)) := rfl
theorem g_19 (s : xS) : g_cell 19 s = xI 0 ((List.range 48).map (s.1 19)) := rfl
section MADE
variable {P : Nat → List Value → Option Value} {d : Nat} {xs : List Int32} {b : Nat → Int32} {n : Nat}
set_option maxHeartbeats 4000000 in
theorem t_clear (hd : 2 ≤ d) (s : xS) : ∃ s', x_ev g_M P d 81 [.ref 14] (mkH xs s) (none, mkH xs s') ∧ (∀ q, q < 14 ∨ 19 < q → s'.1 q = s.1 q) ∧ s'.2 = s.2 ∧ mdC s' t00 := by
  obtain ⟨d, rfl⟩ := x_1 (d := d) (by omega)
  generalize hz : s_p (s_p (s_p (s_p (s_p (s_p (s_p (s_p (s_p s 14 0 0) 14 1 0) 14 2 0) 14 3 0) 14 4 0) 14 5 0) 14 6 0) 14 7 0) 14 8 0 = z
  have z14 : ∀ k, k < 9 → z.1 14 k = 0 := fun k hk => by
    rw [← hz]
    rcases (show k = 0 ∨ k = 1 ∨ k = 2 ∨ k = 3 ∨ k = 4 ∨ k = 5 ∨ k = 6 ∨ k = 7 ∨ k = 8 by omega) with rfl | rfl | rfl | rfl | rfl | rfl | rfl | rfl | rfl <;> simp [s_p]
  have zo : ∀ q, q ≠ 14 → z.1 q = s.1 q := fun q hq => by rw [← hz]; funext k; simp [s_p, hq]
  have zl : z.2 = s.2 := by rw [← hz]; rfl
  obtain ⟨s1, a1, a2, a3, a4⟩ := x_fillI (P := P) (d := d) (xs := xs) (s := z) (by omega) (a := 15) (n := 6) (by omega) (by omega) (by omega) g_15 0
  obtain ⟨s2, b1, b2, b3, b4⟩ := x_fillI (P := P) (d := d) (xs := xs) (s := s1) (by omega) (a := 16) (n := 6) (by omega) (by omega) (by omega) g_16 0
  obtain ⟨s3, c1, c2, c3, c4⟩ := x_fillI (P := P) (d := d) (xs := xs) (s := s2) (by omega) (a := 17) (n := 16) (by omega) (by omega) (by omega) g_17 0
  obtain ⟨s4, d1, d2, d3, d4⟩ := x_fillI (P := P) (d := d) (xs := xs) (s := s3) (by omega) (a := 18) (n := 8) (by omega) (by omega) (by omega) g_18 0
  obtain ⟨s5, e1, e2, e3, e4⟩ := x_fillI (P := P) (d := d) (xs := xs) (s := s4) (by omega) (a := 19) (n := 48) (by omega) (by omega) (by omega) g_19 0
  have r14 : ∀ k, k < 9 → s5.1 14 k = 0 := fun k hk => by rw [e3 14 (by omega), d3 14 (by omega), c3 14 (by omega), b3 14 (by omega), a3 14 (by omega)]; exact z14 k hk
  have r16 : ∀ j, j < 6 → s5.1 16 j = 0 := fun j hj => by rw [e3 16 (by omega), d3 16 (by omega), c3 16 (by omega)]; exact b4 j hj
  have r18 : ∀ j, j < 8 → s5.1 18 j = 0 := fun j hj => by rw [e3 18 (by omega)]; exact d4 j hj
  refine ⟨s5, ?_, fun q hq => by rw [e3 q (by omega), d3 q (by omega), c3 q (by omega), b3 q (by omega), a3 q (by omega), zo q (by omega)], by rw [e2, d2, c2, b2, a2, zl], ?_⟩
  · rw [x_ev_in rfl (Nat.le_of_ble_eq_true rfl)]
    rw [show x_ent (x_nL g_M 81) [.ref 14] = [some (.ref 14)] from rfl]
    simp only [w_Town_clear_0, w_Town_clear_5, w_Town_clear_10, w_Town_clear_15, w_Town_clear_20, w_Town_clear_25, w_Town_clear_30, w_Town_clear_35, w_Town_clear_40, w_Town_clear_45, w_Town_clear_49, w_Town_clear_53, w_Town_clear_57, w_Town_clear_61, w_Town_clear_65, w_Town_clear_69, w_Town_clear_73, w_Town_clear_77, w_Town_clear_81, w_Town_clear_85, c_14, f_14_0, p_14_0, f_14_1, p_14_1, f_14_2, p_14_2, f_14_3, p_14_3, f_14_4, p_14_4, f_14_5, p_14_5, f_14_6, p_14_6, f_14_7, p_14_7, f_14_8, p_14_8, f_14_9, f_14_10, f_14_11, f_14_12, f_14_13, Option.some.injEq, exists_eq_left', exists_eq_left, Option.toList_some, Option.toList_none, List.cons_append, List.nil_append, true_and, and_true, Option.map_some, Option.map_none, hz, x_ev_iff a1, x_ev_iff b1, x_ev_iff c1, x_ev_iff d1, x_ev_iff e1]
  · refine ⟨⟨⟨r14 0 (by omega), r14 1 (by omega), r14 2 (by omega), r14 3 (by omega), r14 4 (by omega), r14 5 (by omega)⟩, fun p h => absurd h (Nat.not_lt_zero _), fun p h => absurd h (Nat.not_lt_zero _), fun p h => absurd h (Nat.not_lt_zero _), fun p h => absurd h (Nat.not_lt_zero _), fun p h => absurd h (Nat.not_lt_zero _), fun p h => absurd h (Nat.not_lt_zero _), fun p h => absurd h (Nat.not_lt_zero _), fun p h => absurd h (Nat.not_lt_zero _)⟩, fun i _ => by rw [r14 6 (by omega), b_0], fun i _ => by rw [r14 7 (by omega), b_0], fun i _ => by rw [r14 8 (by omega), b_0], fun p hp _ => r16 p hp, fun m hm _ => r18 m hm, fun p hp m hm _ => e4 (8 * p + m) (by omega)⟩
theorem t_addPerson (hd : 1 ≤ d) {s : xS} {Q : Nat} (h4 : s.1 14 4 = nI Q) (hQ : Q < 6) (c : Int32) (st : Bool) : x_ev g_M P d 83 [.ref 14, .int c, .int (b01 st)] (mkH xs s) (none, mkH xs (s_p (if st = true then s_p (s_p s 15 Q c) 14 6 (s.1 14 6 ||| on1 Q) else s_p s 15 Q c) 14 4 (nI (Q + 1)))) := by
  have hx : x_rd (s.1 15) 6 (nI Q) = some (s.1 15 Q) := x_rd_nI (by omega) (by omega)
  have e6 : ∀ v, (s_p s 15 Q v).1 14 6 = s.1 14 6 := fun v => by simp [s_p]
  have e4 : ∀ v, (s_p s 15 Q v).1 14 4 = nI Q := fun v => by simp [s_p, h4]
  have e4' : ∀ v w, (s_p (s_p s 15 Q v) 14 6 w).1 14 4 = nI Q := fun v w => by simp [s_p, h4]
  obtain ⟨d, rfl⟩ := x_1 (d := d) (by omega)
  rw [x_ev_in rfl (Nat.le_of_ble_eq_true rfl)]
  rw [show x_ent (x_nL g_M 83) [.ref 14, .int c, .int (b01 st)] = [some (.ref 14), some (.int c), some (.int (b01 st))] from rfl]
  cases st with
  | true =>
    simp only [w_Town_addPerson_0, w_Town_addPerson_4, w_Town_addPerson_8, w_Town_addPerson_10, w_Town_addPerson_14, w_Town_addPerson_19, w_Town_addPerson_24, w_Town_addPerson_29, w_Town_addPerson_34, w_Town_addPerson_39, c_14, f_14_0, p_14_0, f_14_1, p_14_1, f_14_2, p_14_2, f_14_3, p_14_3, f_14_4, p_14_4, f_14_5, p_14_5, f_14_6, p_14_6, f_14_7, p_14_7, f_14_8, p_14_8, f_14_9, f_14_10, f_14_11, f_14_12, f_14_13, e_15, i_15, Option.some.injEq, exists_eq_left', exists_eq_left, Option.toList_some, Option.toList_none, List.cons_append, List.nil_append, true_and, and_true, Option.map_some, Option.map_none, h4, hx, nI_clamp (show Q < 2 ^ 31 by omega), b01, if_true, show ¬ ((1 : Int32) = 0) by decide, if_false, e6, e4, e4', nI_1]
    rfl
  | false =>
    simp only [w_Town_addPerson_0, w_Town_addPerson_4, w_Town_addPerson_8, w_Town_addPerson_10, w_Town_addPerson_14, w_Town_addPerson_19, w_Town_addPerson_24, w_Town_addPerson_29, w_Town_addPerson_34, w_Town_addPerson_39, c_14, f_14_0, p_14_0, f_14_1, p_14_1, f_14_2, p_14_2, f_14_3, p_14_3, f_14_4, p_14_4, f_14_5, p_14_5, f_14_6, p_14_6, f_14_7, p_14_7, f_14_8, p_14_8, f_14_9, f_14_10, f_14_11, f_14_12, f_14_13, e_15, i_15, Option.some.injEq, exists_eq_left', exists_eq_left, Option.toList_some, Option.toList_none, List.cons_append, List.nil_append, true_and, and_true, Option.map_some, Option.map_none, h4, hx, nI_clamp (show Q < 2 ^ 31 by omega), b01, if_true, Bool.false_eq_true, if_false, e4, nI_1]
theorem t_setGain (hd : 1 ≤ d) {s : xS} {p M : Nat} (hp : p < 6) (hM : M < 8) (g : Int32) : x_ev g_M P d 92 [.ref 14, .int (nI p), .int (nI M), .int g] (mkH xs s) (none, mkH xs (s_p s 19 (8 * p + M) g)) := by
  have e : nI p * 8 + nI M = nI (8 * p + M) := by
    rw [show (8 : Int32) = nI 8 from rfl, pk_mul, nI_add, Nat.mul_comm]
  have hx : x_rd (s.1 19) 48 (nI (8 * p + M)) = some (s.1 19 (8 * p + M)) := x_rd_nI (by omega) (by omega)
  obtain ⟨d, rfl⟩ := x_1 (d := d) (by omega)
  rw [x_ev_in rfl (Nat.le_of_ble_eq_true rfl)]
  rw [show x_ent (x_nL g_M 92) [.ref 14, .int (nI p), .int (nI M), .int g] = [some (.ref 14), some (.int (nI p)), some (.int (nI M)), some (.int g)] from rfl]
  simp only [w_Town_setGain_0, w_Town_setGain_4, w_Town_setGain_12, c_14, f_14_0, p_14_0, f_14_1, p_14_1, f_14_2, p_14_2, f_14_3, p_14_3, f_14_4, p_14_4, f_14_5, p_14_5, f_14_6, p_14_6, f_14_7, p_14_7, f_14_8, p_14_8, f_14_9, f_14_10, f_14_11, f_14_12, f_14_13, e_19, i_19, Option.some.injEq, exists_eq_left', exists_eq_left, Option.toList_some, Option.toList_none, List.cons_append, List.nil_append, true_and, and_true, Option.map_some, Option.map_none, e, hx, nI_clamp (show 8 * p + M < 2 ^ 31 by omega)]
theorem t_setParty (hd : 2 ≤ d) {s : xS} {p k M : Nat} (h5 : s.1 14 5 = nI M) (hM : M < 8) (hp : p < 6) (hk : k < 2) (g : Int32) : x_ev g_M P d 84 [.ref 14, .int (nI k), .int (nI p), .int g] (mkH xs s) (none, mkH xs (s_p (s_p (s_p s 17 (2 * M + k) (nI p)) 16 p (s.1 16 p ||| on1 M)) 19 (8 * p + M) g)) := by
  obtain ⟨d, rfl⟩ := x_1 (d := d) (by omega)
  have e : 2 * nI M + nI k = nI (2 * M + k) := by
    rw [show (2 : Int32) = nI 2 from rfl, pk_mul, nI_add]
  have hx : x_rd (s.1 17) 16 (nI (2 * M + k)) = some (s.1 17 (2 * M + k)) := x_rd_nI (by omega) (by omega)
  have hx2 : ∀ v, x_rd ((s_p s 17 (2 * M + k) v).1 16) 6 (nI p) = some (s.1 16 p) := fun v => by rw [x_rd_nI (by omega) (by omega)]; simp [s_p]
  have e5 : ∀ v, (s_p s 17 (2 * M + k) v).1 14 5 = nI M := fun v => by simp [s_p, h5]
  have e5' : ∀ v w, (s_p (s_p s 17 (2 * M + k) v) 16 p w).1 14 5 = nI M := fun v w => by simp [s_p, h5]
  have q1 := fun z => t_setGain (P := P) (d := d) (xs := xs) (s := z) (by omega) hp hM g
  rw [x_ev_in rfl (Nat.le_of_ble_eq_true rfl)]
  rw [show x_ent (x_nL g_M 84) [.ref 14, .int (nI k), .int (nI p), .int g] = [some (.ref 14), some (.int (nI k)), some (.int (nI p)), some (.int g)] from rfl]
  simp only [w_Town_setParty_0, w_Town_setParty_4, w_Town_setParty_9, w_Town_setParty_14, w_Town_setParty_18, w_Town_setParty_21, w_Town_setParty_26, w_Town_setParty_29, w_Town_setParty_35, w_Town_setParty_39, c_14, f_14_0, p_14_0, f_14_1, p_14_1, f_14_2, p_14_2, f_14_3, p_14_3, f_14_4, p_14_4, f_14_5, p_14_5, f_14_6, p_14_6, f_14_7, p_14_7, f_14_8, p_14_8, f_14_9, f_14_10, f_14_11, f_14_12, f_14_13, e_16, i_16, e_17, i_17, Option.some.injEq, exists_eq_left', exists_eq_left, Option.toList_some, Option.toList_none, List.cons_append, List.nil_append, true_and, and_true, Option.map_some, Option.map_none, h5, e, hx, hx2, e5, e5', nI_clamp (show 2 * M + k < 2 ^ 31 by omega), nI_clamp (show p < 2 ^ 31 by omega), x_ev_iff (q1 _)]
  rfl
/-- the MATTERS that one is on -/
theorem t_onL (hd : 2 ≤ d) {M : Nat} (hM : M < 8) : ∀ (f c : Nat) (acc : Int32) (t : Tk) (z : xS) (o : Option Value), c + f = 901 → tpC z b n → tkOk n t → n < t.1 + f → tk13 z b n t → z.1 14 5 = nI M → z.1 18 M = acc → ∃ z', x_R (x_ev g_M P d) 26 (2, [some (.ref 13), some (.int (nI c)), o], [], mkH xs z) (none, mkH xs z') ∧ tk13 z' b n (onL b n M f acc t).2 ∧ tkOk n (onL b n M f acc t).2 ∧ z'.1 18 M = (onL b n M f acc t).1 ∧ (∀ q, q ≠ 13 → q ≠ 18 → z'.1 q = z.1 q) ∧ (∀ k, k ≠ M → z'.1 18 k = z.1 18 k) ∧ z'.2 = z.2 := by
  intro f
  induction f with
  | zero => intro c acc t z o _ _ h1 h2; have := h1.1; omega
  | succ f ih =>
    intro c acc t z o hc ht hok hf htk h5 h18
    obtain ⟨z1, q1, q2, q3⟩ := t_takeNumber (P := P) (d := d) (xs := xs) hd ht hok htk (nI M - 1) (-1)
    have hok1 := tkN_ok (b := b) (x := nI M - 1) (u := -1) ht.1 hok
    generalize hr : tkN b n (nI M - 1) (-1) t = r at *
    have z5 : z1.1 14 5 = nI M := by rw [q2.1 14 (by omega)]; exact h5
    have hx : x_rd (z1.1 18) 8 (nI M) = some acc := by rw [x_rd_nI (by omega) (by omega), q2.1 18 (by omega), h18]
    have o2 := oC_p z1 18 M (acc ||| shV r.1)
    generalize hy : s_p z1 18 M (acc ||| shV r.1) = y at *
    have yt : tk13 y b n r.2 := tk13_o (o2.1 13 (by omega)) q3
    have y18 : y.1 18 M = acc ||| shV r.1 := by rw [← hy]; exact s_p_v _ _ _ _
    have yo : ∀ q, q ≠ 13 → q ≠ 18 → y.1 q = z.1 q := fun q a c => by rw [o2.1 q c, q2.1 q a]
    have yk : ∀ k, k ≠ M → y.1 18 k = z.1 18 k := fun k hk => by rw [o2.2.1 k hk, q2.1 18 (by omega)]
    have yl : y.2 = z.2 := by rw [o2.2.2, q2.2]
    have a5 := yt.2.2.2.2.1
    have a4 := yt.2.2.2.1
    have hk4 := kdT_4 b n r.2.1
    have sv : ∀ v : Int32, (1 : Int32) <<< (v &&& 31) = shV v := fun v => rfl
    have st : ∀ r', x_R (x_ev g_M P d) 26 (2, [some (.ref 13), some (.int (nI c)), o], [], mkH xs z) r' ↔ x_R (x_ev g_M P d) 26 (38, [some (.ref 13), some (.int (nI c)), some (.int r.1)], [], mkH xs y) r' := fun r' => by
      simp only [w_Reader_takeMatters_2 (l1 := nI c), w_Reader_takeMatters_7, w_Reader_takeMatters_10, w_Reader_takeMatters_16, w_Reader_takeMatters_21, w_Reader_takeMatters_24, w_Reader_takeMatters_28, w_Reader_takeMatters_31, w_Reader_takeMatters_33, c_13, f_13_0, f_13_1, f_13_2, p_13_2, f_13_3, p_13_3, f_13_4, p_13_4, f_13_5, p_13_5, f_13_6, p_13_6, f_13_7, p_13_7, c_14, f_14_0, p_14_0, f_14_1, p_14_1, f_14_2, p_14_2, f_14_3, p_14_3, f_14_4, p_14_4, f_14_5, p_14_5, f_14_6, p_14_6, f_14_7, p_14_7, f_14_8, p_14_8, f_14_9, f_14_10, f_14_11, f_14_12, f_14_13, e_18, i_18, Option.some.injEq, exists_eq_left', exists_eq_left, Option.toList_some, Option.toList_none, List.cons_append, List.nil_append, true_and, and_true, Option.map_some, Option.map_none, h5, x_ev_iff q1, z5, hx, nI_clamp (show M < 2 ^ 31 by omega), sv, hy]
    rw [onL, hr]
    by_cases hcc : r.2.2 = none ∧ kdT b n r.2.1 = 2
    · rw [if_pos hcc]
      have hv := tkN_v (b := b) (n := n) (x := nI M - 1) (u := -1) (t := t) (by rw [hr]; exact hcc.1)
      have e2 := hv.2.2.1
      rw [hr] at e2
      have hlt : t.1 < n := (kdT_2 hv.2.1).1
      have h1 := enT_gt (b := b) hlt
      have h2 := skT_le (b := b) (enT_le (b := b) (Nat.le_of_lt hlt)).2
      have hnx : t.1 < nxT b n t.1 := by unfold nxT; omega
      have e21 : r.2.1 = nxT b n t.1 := by rw [e2]
      have hrn : r.2.1 < n := (kdT_2 hcc.2).1
      have n9 := ht.1
      have hcn : ¬ (900 : Int32) ≤ nI (c + 1) := by
        exact nI_ge (b := 900) (by omega) (by omega)
      obtain ⟨z', k1, k2, k3, k4, k5, k6, k7⟩ := ih (c + 1) (acc ||| shV r.1) r.2 y (some (.int r.1)) (by omega) (ht.off (yo 2 (by omega) (by omega))) hok1 (by omega) yt (by rw [yo 14 (by omega) (by omega)]; exact h5) y18
      refine ⟨z', ?_, k2, k3, k4, fun q a c => by rw [k5 q a c, yo q a c], fun k hk => by rw [k6 k hk, yk k hk], by rw [k7, yl]⟩
      rw [st]
      have f0 : fkN r.2.2 = 0 := by rw [hcc.1]; rfl
      have kk : nI (kdT b n r.2.1) = 2 := by rw [hcc.2]; rfl
      simp only [w_Reader_takeMatters_38, w_Reader_takeMatters_48, w_Reader_takeMatters_52, w_Reader_takeMatters_55, w_Reader_takeMatters_59, c_13, f_13_0, f_13_1, f_13_2, p_13_2, f_13_3, p_13_3, f_13_4, p_13_4, f_13_5, p_13_5, f_13_6, p_13_6, f_13_7, p_13_7, Option.some.injEq, exists_eq_left', exists_eq_left, Option.toList_some, Option.toList_none, List.cons_append, List.nil_append, true_and, and_true, Option.map_some, Option.map_none, hcn, if_false, a5, f0, not_true_eq_false, a4, kk, if_true, nI_1]
      exact k1
    · rw [if_neg hcc]
      refine ⟨y, ?_, yt, hok1, y18, yo, yk, yl⟩
      rw [st]
      by_cases h9 : (900 : Int32) ≤ nI c + 1
      · simp only [w_Reader_takeMatters_38, w_Reader_takeMatters_63, h9, if_true]
      · by_cases hn : r.2.2 = none
        · have f0 : fkN r.2.2 = 0 := by rw [hn]; rfl
          have kk : ¬ nI (kdT b n r.2.1) = 2 := fun w => hcc ⟨hn, (nI_eq (b := 2) (by omega) (by omega)).mp w⟩
          simp only [w_Reader_takeMatters_38, w_Reader_takeMatters_48, w_Reader_takeMatters_52, w_Reader_takeMatters_55, w_Reader_takeMatters_59, w_Reader_takeMatters_63, c_13, f_13_0, f_13_1, f_13_2, p_13_2, f_13_3, p_13_3, f_13_4, p_13_4, f_13_5, p_13_5, f_13_6, p_13_6, f_13_7, p_13_7, Option.some.injEq, exists_eq_left', exists_eq_left, Option.toList_some, Option.toList_none, List.cons_append, List.nil_append, true_and, and_true, Option.map_some, Option.map_none, h9, if_false, a5, f0, not_true_eq_false, a4, kk]
        · simp only [w_Reader_takeMatters_38, w_Reader_takeMatters_48, w_Reader_takeMatters_52, w_Reader_takeMatters_63, c_13, f_13_0, f_13_1, f_13_2, p_13_2, f_13_3, p_13_3, f_13_4, p_13_4, f_13_5, p_13_5, f_13_6, p_13_6, f_13_7, p_13_7, Option.some.injEq, exists_eq_left', exists_eq_left, Option.toList_some, Option.toList_none, List.cons_append, List.nil_append, true_and, and_true, Option.map_some, Option.map_none, h9, if_false, a5, fkN_s hok1.2 hn, not_false_eq_true, if_true]
theorem t_takeMatters (hd : 3 ≤ d) {M : Nat} (hM : M < 8) {z : xS} {t : Tk} (ht : tpC z b n) (hok : tkOk n t) (htk : tk13 z b n t) (h5 : z.1 14 5 = nI M) (h18 : z.1 18 M = 0) : ∃ z', x_ev g_M P d 26 [.ref 13] (mkH xs z) (none, mkH xs z') ∧ tk13 z' b n (onL b n M 901 0 t).2 ∧ tkOk n (onL b n M 901 0 t).2 ∧ z'.1 18 M = (onL b n M 901 0 t).1 ∧ (∀ q, q ≠ 13 → q ≠ 18 → z'.1 q = z.1 q) ∧ (∀ k, k ≠ M → z'.1 18 k = z.1 18 k) ∧ z'.2 = z.2 := by
  obtain ⟨d, rfl⟩ := x_1 (d := d) (by omega)
  obtain ⟨z', k1, k⟩ := t_onL (P := P) (d := d) (xs := xs) (by omega) hM 901 0 0 t z none (by omega) ht hok (by have := ht.1; omega) htk h5 h18
  refine ⟨z', ?_, k⟩
  rw [x_ev_in rfl (Nat.le_of_ble_eq_true rfl)]
  rw [show x_ent (x_nL g_M 26) [.ref 13] = [some (.ref 13), none, none] from rfl]
  rw [w_Reader_takeMatters_0]
  exact k1
theorem t_markHere (hd : 7 ≤ d) (hP : wdP P) {s : xS} (ht : tpC s b n) {t : Tk} (hi : t.1 ≤ n) (h : tk13 s b n t) {q : Option Value × xH} : x_ev g_M P d 25 [.ref 13] (mkH xs s) q ↔ q = (some (.int (if isW b n 10 t.1 = true then 1 else if isW b n 11 t.1 = true then 2 else if isW b n 12 t.1 = true then 4 else 0)), mkH xs s) := by
  obtain ⟨d, rfl⟩ := x_1 (d := d) (by omega)
  rw [x_ev_in rfl (Nat.le_of_ble_eq_true rfl)]
  rw [show x_ent (x_nL g_M 25) [.ref 13] = [some (.ref 13)] from rfl]
  have w10 := fun q => t_isWord (P := P) (d := d) (xs := xs) (q := q) (by omega) hP ht hi h (show 10 < 13 by omega)
  have w11 := fun q => t_isWord (P := P) (d := d) (xs := xs) (q := q) (by omega) hP ht hi h (show 11 < 13 by omega)
  have w12 := fun q => t_isWord (P := P) (d := d) (xs := xs) (q := q) (by omega) hP ht hi h (show 12 < 13 by omega)
  rw [show 1000000 + 10 = 1000010 from rfl] at w10
  rw [show 1000000 + 11 = 1000011 from rfl] at w11
  rw [show 1000000 + 12 = 1000012 from rfl] at w12
  by_cases h0 : isW b n 10 t.1 = true
  · simp only [w_Reader_markHere_0, w_Reader_markHere_6, w_Reader_markHere_9, w_Reader_markHere_11, w_Reader_markHere_17, w_Reader_markHere_20, w_Reader_markHere_22, w_Reader_markHere_28, w_Reader_markHere_31, w_Reader_markHere_35, w_Reader_markHere_36, c_13, f_13_0, f_13_1, f_13_2, p_13_2, f_13_3, p_13_3, f_13_4, p_13_4, f_13_5, p_13_5, f_13_6, p_13_6, f_13_7, p_13_7, Option.some.injEq, exists_eq_left', exists_eq_left, Option.toList_some, Option.toList_none, List.cons_append, List.nil_append, true_and, and_true, Option.map_some, Option.map_none, w10, h0, b01, if_true, show ¬ ((1 : Int32) = 0) by decide, if_false]
    exact eq_comm
  · by_cases h1 : isW b n 11 t.1 = true
    · simp only [w_Reader_markHere_0, w_Reader_markHere_6, w_Reader_markHere_9, w_Reader_markHere_11, w_Reader_markHere_17, w_Reader_markHere_20, w_Reader_markHere_22, w_Reader_markHere_28, w_Reader_markHere_31, w_Reader_markHere_35, w_Reader_markHere_36, c_13, f_13_0, f_13_1, f_13_2, p_13_2, f_13_3, p_13_3, f_13_4, p_13_4, f_13_5, p_13_5, f_13_6, p_13_6, f_13_7, p_13_7, Option.some.injEq, exists_eq_left', exists_eq_left, Option.toList_some, Option.toList_none, List.cons_append, List.nil_append, true_and, and_true, Option.map_some, Option.map_none, w10, w11, h0, h1, b01, if_true, show ¬ ((1 : Int32) = 0) by decide, if_false, Bool.false_eq_true]
      exact eq_comm
    · by_cases h2 : isW b n 12 t.1 = true
      · simp only [w_Reader_markHere_0, w_Reader_markHere_6, w_Reader_markHere_9, w_Reader_markHere_11, w_Reader_markHere_17, w_Reader_markHere_20, w_Reader_markHere_22, w_Reader_markHere_28, w_Reader_markHere_31, w_Reader_markHere_35, w_Reader_markHere_36, c_13, f_13_0, f_13_1, f_13_2, p_13_2, f_13_3, p_13_3, f_13_4, p_13_4, f_13_5, p_13_5, f_13_6, p_13_6, f_13_7, p_13_7, Option.some.injEq, exists_eq_left', exists_eq_left, Option.toList_some, Option.toList_none, List.cons_append, List.nil_append, true_and, and_true, Option.map_some, Option.map_none, w10, w11, w12, h0, h1, h2, b01, if_true, show ¬ ((1 : Int32) = 0) by decide, if_false, Bool.false_eq_true]
        exact eq_comm
      · simp only [w_Reader_markHere_0, w_Reader_markHere_6, w_Reader_markHere_9, w_Reader_markHere_11, w_Reader_markHere_17, w_Reader_markHere_20, w_Reader_markHere_22, w_Reader_markHere_28, w_Reader_markHere_31, w_Reader_markHere_35, w_Reader_markHere_36, c_13, f_13_0, f_13_1, f_13_2, p_13_2, f_13_3, p_13_3, f_13_4, p_13_4, f_13_5, p_13_5, f_13_6, p_13_6, f_13_7, p_13_7, Option.some.injEq, exists_eq_left', exists_eq_left, Option.toList_some, Option.toList_none, List.cons_append, List.nil_append, true_and, and_true, Option.map_some, Option.map_none, w10, w11, w12, h0, h1, h2, b01, if_true, if_false, Bool.false_eq_true]
        exact eq_comm
end MADE
