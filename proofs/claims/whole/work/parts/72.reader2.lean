/-! THE READER of the class: isWord, takeWord, takeNumber, takeGain (own work) -/
theorem x_ev_P {P : Nat → List Value → Option Value} {d k : Nat} {as : List Value} {v : Value} {h : xH} {q : Option Value × xH} (hd : 5 ≤ d) (hk : x_pr g_M k = true) (hp : P k as = some v) : x_ev g_M P d k as h q ↔ q = (some v, h) := by
  obtain ⟨d, rfl⟩ := x_1 (d := d) (by omega)
  rw [x_ev, if_pos hk]
  constructor
  · rintro ⟨-, v', h1, h2⟩
    rw [hp] at h1
    cases h1
    exact h2
  · intro h2
    exact ⟨by omega, v, hp, h2⟩
theorem wd_len : ∀ w, w < 13 → 0 < (wdL w).length ∧ (wdL w).length ≤ 8 := by decide
theorem vlT_b (b : Nat → Int32) (K : Nat) : ∀ k i v, v ≤ K → vlT b K k i v ≤ K := by
  intro k
  induction k with
  | zero => intro i v h; exact h
  | succ k ih => intro i v h; rw [vlT]; exact ih _ _ (Nat.min_le_right _ _)
section RDR2
variable {P : Nat → List Value → Option Value} {d : Nat} {xs : List Int32} {b : Nat → Int32} {n : Nat}
theorem t_isWord (hd : 6 ≤ d) (hP : wdP P) {s : xS} (ht : tpC s b n) {t : Tk} (hi : t.1 ≤ n) (h : tk13 s b n t) {w : Nat} (hw : w < 13) {q : Option Value × xH} : x_ev g_M P d 30 [.ref 13, .ref (1000000 + w)] (mkH xs s) q ↔ q = (some (.int (b01 (isW b n w t.1))), mkH xs s) := by
  obtain ⟨a1, a2, a3, a4, a5, a6⟩ := h
  obtain ⟨h9, hb⟩ := ht
  obtain ⟨p1, p2⟩ := hP w hw
  have hlim : x_lim ≤ 1000000 + w := Nat.le_add_right _ _
  have hen := enT_le (b := b) hi
  have hln := wd_len w hw
  have hk4 := kdT_4 b n t.1
  unfold isW
  obtain ⟨d, rfl⟩ := x_1 (d := d) (by omega)
  rw [x_ev_in rfl (Nat.le_of_ble_eq_true rfl)]
  rw [show x_ent (x_nL g_M 30) [.ref 13, .ref (1000000 + w)] = [some (.ref 13), some (.ref (1000000 + w)), none] from rfl]
  have c1 : ∀ (h : xH) (r : Option Value × xH), x_ev g_M P d 340 [.ref (1000000 + w)] h r ↔ r = (some (.int (nI (wdL w).length)), h) := fun h r => x_ev_P (by omega) rfl p1
  have hs : nI (enT b n t.1) - nI t.1 = nI (enT b n t.1 - t.1) := pk_sub hen.1
  by_cases h1 : kdT b n t.1 = 1
  · have k1 : nI (kdT b n t.1) = 1 := by rw [h1]; rfl
    by_cases h2 : enT b n t.1 - t.1 = (wdL w).length
    · rw [decide_eq_true h1, decide_eq_true h2, Bool.true_and, Bool.true_and]
      simp only [w_Reader_isWord_0, w_Reader_isWord_4, w_Reader_isWord_8, w_Reader_isWord_12, w_Reader_isWord_16 hlim, w_Reader_isWord_21, w_Reader_isWord_26, w_Reader_isWord_30, c_13, f_13_0, f_13_1, f_13_2, p_13_2, f_13_3, p_13_3, f_13_4, p_13_4, f_13_5, p_13_5, f_13_6, p_13_6, f_13_7, p_13_7, Option.some.injEq, exists_eq_left', exists_eq_left, Option.toList_some, Option.toList_none, List.cons_append, List.nil_append, true_and, and_true, Option.map_some, Option.map_none, a2, a3, a4, k1, not_true_eq_false, if_false, c1, hs, h2, if_true]
      have key := x_fstI (C := x_ev g_M P d) (k := 30) (r := q) (N := (wdL w).length) (H := mkH xs s) (f := fun j => !decide (b (t.1 + j) = nI (lo (wdL w) j))) (e := 1) (g := fun _ => 0) (F := fun j => (31, [some (.ref 13), some (.ref (1000000 + w)), some (.int (nI (t.1 + j)))], [], mkH xs s)) (fun j hj hf => by
        have hc : ¬ nI (enT b n t.1) ≤ nI (t.1 + j) := nI_ge (by omega) (by omega)
        have hx : x_rd (s.1 2) 900 (nI (t.1 + j)) = some (b (t.1 + j)) := by rw [x_rd_nI (by omega) (by omega), hb _ (by omega)]
        have hsj : nI (t.1 + j) - nI t.1 = nI j := by rw [pk_sub (by omega), Nat.add_sub_cancel_left]
        have c2 : ∀ (h : xH) (r : Option Value × xH), x_ev g_M P d 341 [.ref (1000000 + w), .int (nI j)] h r ↔ r = (some (.int (nI (lo (wdL w) j))), h) := fun h r => x_ev_P (by omega) rfl (p2 j hj)
        have he : b (t.1 + j) = nI (lo (wdL w) j) := by simpa using hf
        simp only [w_Reader_isWord_31 (l2 := nI (t.1 + j)), w_Reader_isWord_36, w_Reader_isWord_39, w_Reader_isWord_43, w_Reader_isWord_45, w_Reader_isWord_51 hlim, w_Reader_isWord_55, w_Reader_isWord_60, c_13, f_13_0, f_13_1, f_13_2, p_13_2, f_13_3, p_13_3, f_13_4, p_13_4, f_13_5, p_13_5, f_13_6, p_13_6, f_13_7, p_13_7, e_2, i_2, Option.some.injEq, exists_eq_left', exists_eq_left, Option.toList_some, Option.toList_none, List.cons_append, List.nil_append, true_and, and_true, Option.map_some, Option.map_none, a3, hc, if_false, hx, a2, hsj, c2, he, if_true, nI_1, Nat.add_assoc]) (fun j hj hf => by
        have hc : ¬ nI (enT b n t.1) ≤ nI (t.1 + j) := nI_ge (by omega) (by omega)
        have hx : x_rd (s.1 2) 900 (nI (t.1 + j)) = some (b (t.1 + j)) := by rw [x_rd_nI (by omega) (by omega), hb _ (by omega)]
        have hsj : nI (t.1 + j) - nI t.1 = nI j := by rw [pk_sub (by omega), Nat.add_sub_cancel_left]
        have c2 : ∀ (h : xH) (r : Option Value × xH), x_ev g_M P d 341 [.ref (1000000 + w), .int (nI j)] h r ↔ r = (some (.int (nI (lo (wdL w) j))), h) := fun h r => x_ev_P (by omega) rfl (p2 j hj)
        have he : ¬ b (t.1 + j) = nI (lo (wdL w) j) := by simpa using hf
        simp only [w_Reader_isWord_31 (l2 := nI (t.1 + j)), w_Reader_isWord_36, w_Reader_isWord_39, w_Reader_isWord_43, w_Reader_isWord_45, w_Reader_isWord_51 hlim, w_Reader_isWord_55, w_Reader_isWord_58, c_13, f_13_0, f_13_1, f_13_2, p_13_2, f_13_3, p_13_3, f_13_4, p_13_4, f_13_5, p_13_5, f_13_6, p_13_6, f_13_7, p_13_7, e_2, i_2, Option.some.injEq, exists_eq_left', exists_eq_left, Option.toList_some, Option.toList_none, List.cons_append, List.nil_append, true_and, and_true, Option.map_some, Option.map_none, a3, hc, if_false, hx, a2, hsj, c2, he, x_nb0]
        exact eq_comm) (by
        have hc : nI (enT b n t.1) ≤ nI (t.1 + (wdL w).length) := nI_le (by omega) (by omega)
        simp only [w_Reader_isWord_31 (l2 := nI (t.1 + (wdL w).length)), w_Reader_isWord_36, w_Reader_isWord_66, c_13, f_13_0, f_13_1, f_13_2, p_13_2, f_13_3, p_13_3, f_13_4, p_13_4, f_13_5, p_13_5, f_13_6, p_13_6, f_13_7, p_13_7, Option.some.injEq, exists_eq_left', exists_eq_left, Option.toList_some, Option.toList_none, List.cons_append, List.nil_append, true_and, and_true, Option.map_some, Option.map_none, a3, hc, if_true, x_nb1]
        exact eq_comm)
      refine key.trans ?_
      unfold b01
      cases frst (fun j => !decide (b (t.1 + j) = nI (lo (wdL w) j))) 0 (wdL w).length <;> exact Iff.rfl
    · have h2' : ¬ nI (enT b n t.1 - t.1) = nI (wdL w).length := fun z => h2 ((nI_eq (by omega) (by omega)).mp z)
      rw [decide_eq_true h1, decide_eq_false h2, Bool.true_and, Bool.false_and]
      simp only [w_Reader_isWord_0, w_Reader_isWord_4, w_Reader_isWord_8, w_Reader_isWord_12, w_Reader_isWord_16 hlim, w_Reader_isWord_21, w_Reader_isWord_24, c_13, f_13_0, f_13_1, f_13_2, p_13_2, f_13_3, p_13_3, f_13_4, p_13_4, f_13_5, p_13_5, f_13_6, p_13_6, f_13_7, p_13_7, Option.some.injEq, exists_eq_left', exists_eq_left, Option.toList_some, Option.toList_none, List.cons_append, List.nil_append, true_and, and_true, Option.map_some, Option.map_none, a2, a3, a4, k1, not_true_eq_false, if_false, c1, hs, h2', x_nb0, b01, Bool.false_eq_true]
      exact eq_comm
  · have k1 : ¬ nI (kdT b n t.1) = 1 := fun z => h1 ((nI_eq (b := 1) (by omega) (by omega)).mp z)
    rw [decide_eq_false h1, Bool.false_and]
    simp only [w_Reader_isWord_0, w_Reader_isWord_4, w_Reader_isWord_24, c_13, f_13_0, f_13_1, f_13_2, p_13_2, f_13_3, p_13_3, f_13_4, p_13_4, f_13_5, p_13_5, f_13_6, p_13_6, f_13_7, p_13_7, Option.some.injEq, exists_eq_left', exists_eq_left, Option.toList_some, Option.toList_none, List.cons_append, List.nil_append, true_and, and_true, Option.map_some, Option.map_none, a4, k1, not_false_eq_true, if_true, x_nb0, b01, Bool.false_eq_true, if_false]
    exact eq_comm
theorem fkN_s {f : Option (Nat × Nat)} (h : fOk f) (hn : f ≠ none) : ¬ fkN f = 0 := fun z => hn ((fk_0 h).mp z)
theorem t_takeWord (hd : 7 ≤ d) (hP : wdP P) {s : xS} (ht : tpC s b n) {t : Tk} (hi : tkOk n t) (h : tk13 s b n t) {w : Nat} (hw : w < 13) : ∃ s', x_ev g_M P d 28 [.ref 13, .ref (1000000 + w)] (mkH xs s) (none, mkH xs s') ∧ offX 13 s s' ∧ tk13 s' b n (tkW b n w t) := by
  obtain ⟨d, rfl⟩ := x_1 (d := d) (by omega)
  have a5 := h.2.2.2.2.1
  unfold tkW
  by_cases hf : t.2 = none
  · rw [if_pos hf]
    have a5 : s.1 13 6 = 0 := by rw [a5, hf]; rfl
    by_cases hw1 : isW b n w t.1 = true
    · obtain ⟨s', q1, q2, q3⟩ := t_next (P := P) (d := d) (xs := xs) (by omega) ht hi.1 h
      rw [if_pos hw1]
      refine ⟨s', ?_, q2, by rw [hf] at q3; exact q3⟩
      rw [x_ev_in rfl (Nat.le_of_ble_eq_true rfl)]
      rw [show x_ent (x_nL g_M 28) [.ref 13, .ref (1000000 + w)] = [some (.ref 13), some (.ref (1000000 + w))] from rfl]
      simp only [w_Reader_takeWord_0, w_Reader_takeWord_4, w_Reader_takeWord_7, w_Reader_takeWord_8, w_Reader_takeWord_13, w_Reader_takeWord_16, w_Reader_takeWord_20, w_Reader_takeWord_23, w_Reader_takeWord_28, c_13, f_13_0, f_13_1, f_13_2, p_13_2, f_13_3, p_13_3, f_13_4, p_13_4, f_13_5, p_13_5, f_13_6, p_13_6, f_13_7, p_13_7, Option.some.injEq, exists_eq_left', exists_eq_left, Option.toList_some, Option.toList_none, List.cons_append, List.nil_append, true_and, and_true, Option.map_some, Option.map_none, a5, if_true, t_isWord (d := d) (by omega) hP ht hi.1 h hw, hw1, b01, show ¬ ((1 : Int32) = 0) by decide, if_false, x_ev_iff q1]
    · obtain ⟨s', q1, q2, q3⟩ := t_fail (P := P) (d := d) (xs := xs) (by omega) hi.2 h 1
      rw [if_neg hw1]
      refine ⟨s', ?_, q2, by rw [hf] at q3; exact q3⟩
      rw [show nI 1 = 1 from rfl] at q1
      rw [x_ev_in rfl (Nat.le_of_ble_eq_true rfl)]
      rw [show x_ent (x_nL g_M 28) [.ref 13, .ref (1000000 + w)] = [some (.ref 13), some (.ref (1000000 + w))] from rfl]
      simp only [w_Reader_takeWord_0, w_Reader_takeWord_4, w_Reader_takeWord_7, w_Reader_takeWord_8, w_Reader_takeWord_13, w_Reader_takeWord_16, w_Reader_takeWord_20, w_Reader_takeWord_23, w_Reader_takeWord_28, c_13, f_13_0, f_13_1, f_13_2, p_13_2, f_13_3, p_13_3, f_13_4, p_13_4, f_13_5, p_13_5, f_13_6, p_13_6, f_13_7, p_13_7, Option.some.injEq, exists_eq_left', exists_eq_left, Option.toList_some, Option.toList_none, List.cons_append, List.nil_append, true_and, and_true, Option.map_some, Option.map_none, a5, if_true, t_isWord (d := d) (by omega) hP ht hi.1 h hw, hw1, b01, if_false, Bool.false_eq_true, x_ev_iff q1]
  · rw [if_neg hf]
    refine ⟨s, ?_, ⟨fun _ _ => rfl, rfl⟩, h⟩
    rw [x_ev_in rfl (Nat.le_of_ble_eq_true rfl)]
    rw [show x_ent (x_nL g_M 28) [.ref 13, .ref (1000000 + w)] = [some (.ref 13), some (.ref (1000000 + w))] from rfl]
    simp only [w_Reader_takeWord_0, w_Reader_takeWord_4, w_Reader_takeWord_7, w_Reader_takeWord_8, w_Reader_takeWord_13, w_Reader_takeWord_16, w_Reader_takeWord_20, w_Reader_takeWord_23, w_Reader_takeWord_28, c_13, f_13_0, f_13_1, f_13_2, p_13_2, f_13_3, p_13_3, f_13_4, p_13_4, f_13_5, p_13_5, f_13_6, p_13_6, f_13_7, p_13_7, Option.some.injEq, exists_eq_left', exists_eq_left, Option.toList_some, Option.toList_none, List.cons_append, List.nil_append, true_and, and_true, Option.map_some, Option.map_none, a5, fkN_s hi.2 hf, if_false]
theorem t_numL {s : xS} (ht : tpC s b n) {i : Nat} (h4 : s.1 13 4 = nI (enT b n i)) (he : enT b n i ≤ n) {x u : Int32} : ∀ (k j v : Nat), j + k = enT b n i → (∀ m, j ≤ m → m < enT b n i → isDg (b m) = true) → v ≤ 1000 → ∀ r, x_R (x_ev g_M P d) 29 (32, [some (.ref 13), some (.int x), some (.int u), some (.int (nI v)), some (.int (nI j))], [], mkH xs s) r ↔ x_R (x_ev g_M P d) 29 (69, [some (.ref 13), some (.int x), some (.int u), some (.int (nI (vlT b 1000 k j v))), some (.int (nI (enT b n i)))], [], mkH xs s) r := by
  obtain ⟨h9, hb⟩ := ht
  intro k
  induction k with
  | zero =>
    intro j v hj hdg hv r
    obtain rfl : j = enT b n i := by omega
    simp only [w_Reader_takeNumber_32 (l4 := nI (enT b n i)), w_Reader_takeNumber_38, c_13, f_13_0, f_13_1, f_13_2, p_13_2, f_13_3, p_13_3, f_13_4, p_13_4, f_13_5, p_13_5, f_13_6, p_13_6, f_13_7, p_13_7, Option.some.injEq, exists_eq_left', exists_eq_left, Option.toList_some, Option.toList_none, List.cons_append, List.nil_append, true_and, and_true, Option.map_some, Option.map_none, h4, show nI (enT b n i) ≤ nI (enT b n i) from Int32.le_refl _, if_true, vlT]
  | succ k ih =>
    intro j v hj hdg hv r
    have hc : ¬ nI (enT b n i) ≤ nI j := nI_ge (by omega) (by omega)
    have hx : x_rd (s.1 2) 900 (nI j) = some (b j) := by rw [x_rd_nI (by omega) (by omega), hb _ (by omega)]
    have hdj := hdg j (Nat.le_refl _) (by omega)
    have h10 := (dg_n hdj).2
    have hm : (if nI (10 * v + dgN (b j)) < 1000 then nI (10 * v + dgN (b j)) else 1000) = nI (min (10 * v + dgN (b j)) 1000) := nI_mn (K := 1000) (by omega) (by omega)
    rw [vlT, ← ih (j + 1) (min (10 * v + dgN (b j)) 1000) (by omega) (fun m h1 h2 => hdg m (by omega) h2) (Nat.min_le_right _ _) r]
    simp only [w_Reader_takeNumber_32 (l4 := nI j), w_Reader_takeNumber_38, w_Reader_takeNumber_41, w_Reader_takeNumber_52, w_Reader_takeNumber_55, c_13, f_13_0, f_13_1, f_13_2, p_13_2, f_13_3, p_13_3, f_13_4, p_13_4, f_13_5, p_13_5, f_13_6, p_13_6, f_13_7, p_13_7, e_2, i_2, Option.some.injEq, exists_eq_left', exists_eq_left, Option.toList_some, Option.toList_none, List.cons_append, List.nil_append, true_and, and_true, Option.map_some, Option.map_none, h4, hc, if_false, hx, dg_step hdj, hm, nI_1]
theorem t_takeNumber (hd : 2 ≤ d) {s : xS} (ht : tpC s b n) {t : Tk} (hi : tkOk n t) (h : tk13 s b n t) (x u : Int32) : ∃ s', x_ev g_M P d 29 [.ref 13, .int x, .int u] (mkH xs s) (some (.int (tkN b n x u t).1), mkH xs s') ∧ offX 13 s s' ∧ tk13 s' b n (tkN b n x u t).2 := by
  obtain ⟨d, rfl⟩ := x_1 (d := d) (by omega)
  have h0 := h
  obtain ⟨a1, a2, a3, a4, a5, a6⟩ := h
  have hk4 := kdT_4 b n t.1
  unfold tkN
  by_cases hf : t.2 = none
  · rw [if_pos hf]
    have a5 : s.1 13 6 = 0 := by rw [a5, hf]; rfl
    by_cases hk : kdT b n t.1 = 2
    · have k2 : nI (kdT b n t.1) = 2 := by rw [hk]; rfl
      have hen := enT_le (b := b) hi.1
      have hlp := fun r => t_numL (P := P) (d := d) (xs := xs) ht a3 hen.2 (x := x) (u := u) (enT b n t.1 - t.1) t.1 0 (by omega) (fun m h1 h2 => (kdT_2 hk).2 m h1 h2) (by omega) r
      rw [if_pos hk]
      have st : ∀ r, x_ev g_M P (d + 1) 29 [.ref 13, .int x, .int u] (mkH xs s) r ↔ x_R (x_ev g_M P d) 29 (69, [some (.ref 13), some (.int x), some (.int u), some (.int (nI (vT b n t.1))), some (.int (nI (enT b n t.1)))], [], mkH xs s) r := fun r => by
        rw [show vT b n t.1 = vlT b 1000 (enT b n t.1 - t.1) t.1 0 from rfl, ← hlp r]
        rw [x_ev_in rfl (Nat.le_of_ble_eq_true rfl)]
        rw [show x_ent (x_nL g_M 29) [.ref 13, .int x, .int u] = [some (.ref 13), some (.int x), some (.int u), none, none] from rfl]
        simp only [w_Reader_takeNumber_0, w_Reader_takeNumber_4, w_Reader_takeNumber_9, w_Reader_takeNumber_13, w_Reader_takeNumber_24, w_Reader_takeNumber_30, c_13, f_13_0, f_13_1, f_13_2, p_13_2, f_13_3, p_13_3, f_13_4, p_13_4, f_13_5, p_13_5, f_13_6, p_13_6, f_13_7, p_13_7, Option.some.injEq, exists_eq_left', exists_eq_left, Option.toList_some, Option.toList_none, List.cons_append, List.nil_append, true_and, and_true, Option.map_some, Option.map_none, a2, a4, a5, k2, if_true]
        exact Iff.rfl
      by_cases hc : x < nI (vT b n t.1) ∨ nI (vT b n t.1) = u
      · obtain ⟨s', q1, q2, q3⟩ := t_fail (P := P) (d := d) (xs := xs) (by omega) hi.2 h0 2
        rw [if_pos hc]
        refine ⟨s', ?_, q2, by rw [hf] at q3; exact q3⟩
        rw [st]
        rw [show nI 2 = 2 from rfl] at q1
        by_cases hc1 : x < nI (vT b n t.1)
        · simp only [w_Reader_takeNumber_69, w_Reader_takeNumber_79, w_Reader_takeNumber_84, c_13, f_13_0, f_13_1, f_13_2, p_13_2, f_13_3, p_13_3, f_13_4, p_13_4, f_13_5, p_13_5, f_13_6, p_13_6, f_13_7, p_13_7, Option.some.injEq, exists_eq_left', exists_eq_left, Option.toList_some, Option.toList_none, List.cons_append, List.nil_append, true_and, and_true, Option.map_some, Option.map_none, hc1, if_true, x_ev_iff q1]
        · have hc2 : nI (vT b n t.1) = u := by rcases hc with z | z; exact absurd z hc1; exact z
          simp only [w_Reader_takeNumber_69, w_Reader_takeNumber_74, w_Reader_takeNumber_79, w_Reader_takeNumber_84, c_13, f_13_0, f_13_1, f_13_2, p_13_2, f_13_3, p_13_3, f_13_4, p_13_4, f_13_5, p_13_5, f_13_6, p_13_6, f_13_7, p_13_7, Option.some.injEq, exists_eq_left', exists_eq_left, Option.toList_some, Option.toList_none, List.cons_append, List.nil_append, true_and, and_true, Option.map_some, Option.map_none, hc1, hc2, if_true, if_false, not_true_eq_false, x_ev_iff q1]
          rw [hc2] at hc1
          simp only [hc1, if_false]
      · obtain ⟨s', q1, q2, q3⟩ := t_next (P := P) (d := d) (xs := xs) (by omega) ht hi.1 h0
        rw [if_neg hc]
        refine ⟨s', ?_, q2, by rw [hf] at q3; exact q3⟩
        rw [st]
        have hc1 : ¬ x < nI (vT b n t.1) := fun z => hc (Or.inl z)
        have hc2 : ¬ nI (vT b n t.1) = u := fun z => hc (Or.inr z)
        simp only [w_Reader_takeNumber_69, w_Reader_takeNumber_74, w_Reader_takeNumber_86, w_Reader_takeNumber_90, c_13, f_13_0, f_13_1, f_13_2, p_13_2, f_13_3, p_13_3, f_13_4, p_13_4, f_13_5, p_13_5, f_13_6, p_13_6, f_13_7, p_13_7, Option.some.injEq, exists_eq_left', exists_eq_left, Option.toList_some, Option.toList_none, List.cons_append, List.nil_append, true_and, and_true, Option.map_some, Option.map_none, hc1, hc2, if_true, if_false, not_false_eq_true, x_ev_iff q1]
    · have k2 : ¬ nI (kdT b n t.1) = 2 := fun z => hk ((nI_eq (b := 2) (by omega) (by omega)).mp z)
      obtain ⟨s', q1, q2, q3⟩ := t_fail (P := P) (d := d) (xs := xs) (by omega) hi.2 h0 1
      rw [if_neg hk]
      refine ⟨s', ?_, q2, by rw [hf] at q3; exact q3⟩
      rw [show nI 1 = 1 from rfl] at q1
      rw [x_ev_in rfl (Nat.le_of_ble_eq_true rfl)]
      rw [show x_ent (x_nL g_M 29) [.ref 13, .int x, .int u] = [some (.ref 13), some (.int x), some (.int u), none, none] from rfl]
      simp only [w_Reader_takeNumber_0, w_Reader_takeNumber_4, w_Reader_takeNumber_9, w_Reader_takeNumber_13, w_Reader_takeNumber_17, w_Reader_takeNumber_22, c_13, f_13_0, f_13_1, f_13_2, p_13_2, f_13_3, p_13_3, f_13_4, p_13_4, f_13_5, p_13_5, f_13_6, p_13_6, f_13_7, p_13_7, Option.some.injEq, exists_eq_left', exists_eq_left, Option.toList_some, Option.toList_none, List.cons_append, List.nil_append, true_and, and_true, Option.map_some, Option.map_none, a4, a5, k2, if_true, if_false, x_ev_iff q1]
  · rw [if_neg hf]
    refine ⟨s, ?_, ⟨fun _ _ => rfl, rfl⟩, h0⟩
    rw [x_ev_in rfl (Nat.le_of_ble_eq_true rfl)]
    rw [show x_ent (x_nL g_M 29) [.ref 13, .int x, .int u] = [some (.ref 13), some (.int x), some (.int u), none, none] from rfl]
    simp only [w_Reader_takeNumber_0, w_Reader_takeNumber_4, w_Reader_takeNumber_7, c_13, f_13_0, f_13_1, f_13_2, p_13_2, f_13_3, p_13_3, f_13_4, p_13_4, f_13_5, p_13_5, f_13_6, p_13_6, f_13_7, p_13_7, Option.some.injEq, exists_eq_left', exists_eq_left, Option.toList_some, Option.toList_none, List.cons_append, List.nil_append, true_and, and_true, Option.map_some, Option.map_none, a5, fkN_s hi.2 hf, if_false]
end RDR2
