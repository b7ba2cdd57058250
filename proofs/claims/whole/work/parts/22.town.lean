/-! THE TOWN: what is told, as numbers, and how the class keeps it (own work) -/
/-- people, matters; a MATTER's parties and what each gains; what it is on; dry, jug; stubborn, cups; lines, level, spring, frost -/
abbrev Tw : Type := (Nat × Nat) × (Nat → Nat → Nat) × (Nat → Nat → Int32) × (Nat → Int32) × (Nat → Bool) × (Nat → Bool) × (Nat → Bool) × (Nat → Int32) × (Int32 × Int32 × Int32 × Int32)
abbrev tP (T : Tw) : Nat := T.1.1
abbrev tM (T : Tw) : Nat := T.1.2
abbrev tPa (T : Tw) : Nat → Nat → Nat := T.2.1
abbrev tGa (T : Tw) : Nat → Nat → Int32 := T.2.2.1
abbrev tOn (T : Tw) : Nat → Int32 := T.2.2.2.1
abbrev tDry (T : Tw) : Nat → Bool := T.2.2.2.2.1
abbrev tJug (T : Tw) : Nat → Bool := T.2.2.2.2.2.1
abbrev tSt (T : Tw) : Nat → Bool := T.2.2.2.2.2.2.1
abbrev tCu (T : Tw) : Nat → Int32 := T.2.2.2.2.2.2.2.1
abbrev tLi (T : Tw) : Int32 := T.2.2.2.2.2.2.2.2.1
abbrev tLe (T : Tw) : Int32 := T.2.2.2.2.2.2.2.2.2.1
abbrev tSp (T : Tw) : Int32 := T.2.2.2.2.2.2.2.2.2.2.1
abbrev tFr (T : Tw) : Int32 := T.2.2.2.2.2.2.2.2.2.2.2
def tGain (T : Tw) (p m : Nat) : Int32 := if tPa T m 0 = p then tGa T m 0 else if tPa T m 1 = p then tGa T m 1 else 0
def tIs (T : Tw) (p m : Nat) : Prop := tPa T m 0 = p ∨ tPa T m 1 = p
/-- a TOWN as it can be told -/
def tWf (T : Tw) : Prop := tP T ≤ 6 ∧ tM T ≤ 8 ∧ (∀ m, m < tM T → tPa T m 0 < tP T ∧ tPa T m 1 < tP T ∧ tPa T m 0 ≠ tPa T m 1) ∧ (∀ m, m < tM T → ∀ i, bt (tOn T m) i = true → i < m)
/-- a TOWN in the cells from a on -/
def clsT (s : xS) (a : Nat) (T : Tw) : Prop :=
  (s.1 a 0 = tLi T ∧ s.1 a 1 = tLe T ∧ s.1 a 2 = tSp T ∧ s.1 a 3 = tFr T ∧ s.1 a 4 = nI (tP T) ∧ s.1 a 5 = nI (tM T)) ∧
  (∀ p, p < tP T → bt (s.1 a 6) p = tSt T p) ∧ (∀ m, m < tM T → bt (s.1 a 7) m = tDry T m) ∧ (∀ m, m < tM T → bt (s.1 a 8) m = tJug T m) ∧
  (∀ p, p < tP T → s.1 (a + 1) p = tCu T p) ∧ (∀ p, p < tP T → ∀ m, bt (s.1 (a + 2) p) m = true ↔ (m < tM T ∧ tIs T p m)) ∧
  (∀ m, m < tM T → s.1 (a + 3) (2 * m) = nI (tPa T m 0) ∧ s.1 (a + 3) (2 * m + 1) = nI (tPa T m 1)) ∧ (∀ m, m < tM T → s.1 (a + 4) m = tOn T m) ∧
  (∀ p, p < tP T → ∀ m, m < tM T → s.1 (a + 5) (8 * p + m) = tGain T p m)
def tSum (T : Tw) (p : Nat) (set : Int32) : Int32 := sm (fun m => if bt set m = true then tGain T p m else 0) (tM T)
section TOWN
variable {P : Nat → List Value → Option Value} {d : Nat} {xs : List Int32} {s : xS} {T : Tw} {q : Option Value × xH}
theorem x_1 {d : Nat} (hd : 1 ≤ d) : ∃ e, d = e + 1 := ⟨d - 1, by omega⟩
theorem t_isTold (hd : 1 ≤ d) : x_ev g_M P d 85 [.ref 3] (mkH xs s) q ↔ q = (some (.int (if 0 < s.1 3 0 then 1 else 0)), mkH xs s) := by
  obtain ⟨d, rfl⟩ := x_1 hd
  rw [x_ev_in rfl (Nat.le_of_ble_eq_true rfl)]
  rw [show x_ent (x_nL g_M 85) [.ref 3] = [some (.ref 3)] from rfl]
  simp only [w_Town_isTold_0, w_Town_isTold_4, w_Town_isTold_7, w_Town_isTold_11, w_Town_isTold_12, c_3, f_3_0, p_3_0, f_3_1, p_3_1, f_3_2, p_3_2, f_3_3, p_3_3, f_3_4, p_3_4, f_3_5, p_3_5, f_3_6, p_3_6, f_3_7, p_3_7, f_3_8, p_3_8, f_3_9, f_3_10, f_3_11, f_3_12, f_3_13, Option.some.injEq, exists_eq_left', exists_eq_left, Option.toList_some, Option.toList_none, List.cons_append, List.nil_append, true_and, and_true, Option.map_some, Option.map_none, x_nb0, x_nb1]
  by_cases h : 0 < s.1 3 0
  · have h2 : ¬ s.1 3 0 ≤ 0 := Int32.not_le.mpr h
    simp only [h, h2, if_true, if_false]
    exact eq_comm
  · have h2 : s.1 3 0 ≤ 0 := Int32.not_lt.mp h
    simp only [h, h2, if_true, if_false]
    exact eq_comm
set_option maxHeartbeats 4000000 in
theorem t_sumOf (hd : 1 ≤ d) (hT : clsT s 3 T) (hW : tWf T) {p : Nat} (hp : p < tP T) (set : Int32) : x_ev g_M P d 93 [.ref 3, .int (nI p), .int set] (mkH xs s) q ↔ q = (some (.int (tSum T p set)), mkH xs s) := by
  obtain ⟨d, rfl⟩ := x_1 hd
  obtain ⟨⟨t0, t1, t2, t3, t4, t5⟩, t6, t7, t8, t9, t10, t11, t12, t13⟩ := hT
  obtain ⟨w1, w2, w3, w4⟩ := hW
  rw [x_ev_in rfl (Nat.le_of_ble_eq_true rfl)]
  rw [show x_ent (x_nL g_M 93) [.ref 3, .int (nI p), .int set] = [some (.ref 3), some (.int (nI p)), some (.int set), none, none] from rfl]
  rw [w_Town_sumOf_0]
  have key := x_up (C := x_ev g_M P d) (k := 93) (r := q) (N := tM T) (F := fun m => (5, [some (.ref 3), some (.int (nI p)), some (.int set), some (.int (sm (fun m => if bt set m = true then tGain T p m else 0) m)), some (.int (nI m))], [], mkH xs s)) (fun m hm => by
    have hc : ¬ nI (tM T) ≤ nI m := nI_ge hm (by omega)
    have hx : x_rd (s.1 8) 48 (nI p * 8 + nI m) = some (tGain T p m) := by
      rw [show (8 : Int32) = nI 8 from rfl, pk_mul, nI_add, show p * 8 + m = 8 * p + m by omega, x_rd_nI (by omega) (by omega), t13 p hp m hm]
    simp only [w_Town_sumOf_0, w_Town_sumOf_11, w_Town_sumOf_14, w_Town_sumOf_24, w_Town_sumOf_29, w_Town_sumOf_37, w_Town_sumOf_39, w_Town_sumOf_45, w_Town_sumOf_5 (l0 := 3) (l4 := nI m), c_3, f_3_0, p_3_0, f_3_1, p_3_1, f_3_2, p_3_2, f_3_3, p_3_3, f_3_4, p_3_4, f_3_5, p_3_5, f_3_6, p_3_6, f_3_7, p_3_7, f_3_8, p_3_8, f_3_9, f_3_10, f_3_11, f_3_12, f_3_13, e_8, i_8, Option.some.injEq, exists_eq_left', exists_eq_left, Option.toList_some, Option.toList_none, List.cons_append, List.nil_append, true_and, and_true, Option.map_some, Option.map_none, t5, hc, if_false, bit_1 (show m < 32 by omega), hx, nI_1]
    by_cases hb : bt set m = true
    · simp only [hb, not_true_eq_false, if_false, if_true, sm]
    · simp only [hb, not_false_eq_true, if_true, if_false, sm, Int32.add_zero, Bool.false_eq_true]) 0 (Nat.zero_le _)
  rw [show ((0 : Int32)) = nI 0 from rfl] 
  simp only [sm] at key
  rw [key]
  simp only [w_Town_sumOf_0, w_Town_sumOf_11, w_Town_sumOf_14, w_Town_sumOf_24, w_Town_sumOf_29, w_Town_sumOf_37, w_Town_sumOf_39, w_Town_sumOf_45, w_Town_sumOf_5 (l0 := 3) (l4 := nI (tM T)), c_3, f_3_0, p_3_0, f_3_1, p_3_1, f_3_2, p_3_2, f_3_3, p_3_3, f_3_4, p_3_4, f_3_5, p_3_5, f_3_6, p_3_6, f_3_7, p_3_7, f_3_8, p_3_8, f_3_9, f_3_10, f_3_11, f_3_12, f_3_13, e_8, i_8, Option.some.injEq, exists_eq_left', exists_eq_left, Option.toList_some, Option.toList_none, List.cons_append, List.nil_append, true_and, and_true, Option.map_some, Option.map_none, t5, show nI (tM T) ≤ nI (tM T) from Int32.le_refl _, if_true]
  exact eq_comm
end TOWN
