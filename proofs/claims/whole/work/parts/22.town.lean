/-! THE TOWN: what is told, as numbers, and how the class keeps it (own work) -/
/-- people, matters; a MATTER's parties and what each gains; what it is on; dry, jug; stubborn, cups; lines, level, spring, frost -/
abbrev Tw : Type := (Nat × Nat) × (Nat → Nat → Nat) × (Nat → Nat → Int32) × (Nat → Int32) × (Nat → Bool) × (Nat → Bool) × (Nat → Bool) × (Nat → Int32) × (Int32 × Int32 × Int32 × Int32)
abbrev tP (T : Tw) : Nat := T.1.1
abbrev tM (T : Tw) : Nat := T.1.2
abbrev tPa (T : Tw) : Nat → Nat → Nat := T.2.1
abbrev tGa (T : Tw) : Nat → Nat → Int32 := T.2.2.1
abbrev tOn (T : Tw) : Nat → Int32 := T.2.2.2.1
abbrev tDry (T : Tw) : Nat → Bool := T.2.2.2.2.1
abbrev tJug (T : Tw) : Nat → Bool := T.2.2.2.2.2.1
abbrev tSt (T : Tw) : Nat → Bool := T.2.2.2.2.2.2.1
abbrev tCu (T : Tw) : Nat → Int32 := T.2.2.2.2.2.2.2.1
abbrev tLi (T : Tw) : Int32 := T.2.2.2.2.2.2.2.2.1
abbrev tLe (T : Tw) : Int32 := T.2.2.2.2.2.2.2.2.2.1
abbrev tSp (T : Tw) : Int32 := T.2.2.2.2.2.2.2.2.2.2.1
abbrev tFr (T : Tw) : Int32 := T.2.2.2.2.2.2.2.2.2.2.2
def tGain (T : Tw) (p m : Nat) : Int32 := if tPa T m 0 = p then tGa T m 0 else if tPa T m 1 = p then tGa T m 1 else 0
def tIs (T : Tw) (p m : Nat) : Bool := decide (tPa T m 0 = p) || decide (tPa T m 1 = p)
/-- a TOWN as it can be told -/
def tWf (T : Tw) : Prop := tP T ≤ 6 ∧ tM T ≤ 8 ∧ (∀ m, m < tM T → tPa T m 0 < tP T ∧ tPa T m 1 < tP T ∧ tPa T m 0 ≠ tPa T m 1) ∧ (∀ m, m < tM T → ∀ i, bt (tOn T m) i = true → i < m)
/-- a TOWN in the cells from a on -/
def clsT (s : xS) (a : Nat) (T : Tw) : Prop :=
  (s.1 a 0 = tLi T ∧ s.1 a 1 = tLe T ∧ s.1 a 2 = tSp T ∧ s.1 a 3 = tFr T ∧ s.1 a 4 = nI (tP T) ∧ s.1 a 5 = nI (tM T)) ∧
  (∀ p, p < tP T → bt (s.1 a 6) p = tSt T p) ∧ (∀ m, m < tM T → bt (s.1 a 7) m = tDry T m) ∧ (∀ m, m < tM T → bt (s.1 a 8) m = tJug T m) ∧
  (∀ p, p < tP T → s.1 (a + 1) p = tCu T p) ∧ (∀ p, p < tP T → ∀ m, bt (s.1 (a + 2) p) m = true ↔ (m < tM T ∧ tIs T p m = true)) ∧
  (∀ m, m < tM T → s.1 (a + 3) (2 * m) = nI (tPa T m 0) ∧ s.1 (a + 3) (2 * m + 1) = nI (tPa T m 1)) ∧ (∀ m, m < tM T → s.1 (a + 4) m = tOn T m) ∧
  (∀ p, p < tP T → ∀ m, m < tM T → s.1 (a + 5) (8 * p + m) = tGain T p m)
def tSum (T : Tw) (p : Nat) (set : Int32) : Int32 := sm (fun m => if bt set m = true then tGain T p m else 0) (tM T)
/-- what falls with m in a set, up to the MATTERS below n -/
def tFallN (T : Tw) (set : Int32) (m : Nat) : Nat → Int32
  | 0 => if bt set m = true then on1 m else 0
  | n + 1 => if bt set n = true ∧ ¬ (tOn T n &&& tFallN T set m n) = 0 then tFallN T set m n ||| on1 n else tFallN T set m n
def tFall (T : Tw) (set : Int32) (m : Nat) : Int32 := tFallN T set m (tM T)
def tAgr (T : Tw) (p m : Nat) (swing : Int32) : Bool := tJug T m || (!tSt T p && decide (0 ≤ swing))
theorem x_if2 {c : Prop} [hc : Decidable c] {a b : Int32} {h : xH} {q : Option Value × xH} : (if c then (some (.int a), h) = q else (some (.int b), h) = q) ↔ (some (.int (if c then a else b)), h) = q := by
  by_cases h : c <;> simp [h]
theorem x_has {n : Nat} {x : Int32} (hn : n < 2 ^ 31) (h1 : ¬ x < 0) (h2 : ¬ nI n ≤ x) : ∃ p, p < n ∧ x = nI p := by
  obtain ⟨p, hp, rfl⟩ := nI_of h1
  exact ⟨p, by rw [nI_leI hn hp] at h2; omega, rfl⟩
section TOWN
variable {P : Nat → List Value → Option Value} {d : Nat} {xs : List Int32} {s : xS} {T : Tw} {q : Option Value × xH}
theorem x_1 {d : Nat} (hd : 1 ≤ d) : ∃ e, d = e + 1 := ⟨d - 1, by omega⟩
theorem t_isTold (hd : 1 ≤ d) (hT : clsT s 3 T) : x_ev g_M P d 85 [.ref 3] (mkH xs s) q ↔ q = (some (.int (if tLi T ≤ 0 then 0 else 1)), mkH xs s) := by
  obtain ⟨⟨t0, t1, t2, t3, t4, t5⟩, -⟩ := hT
  obtain ⟨d, rfl⟩ := x_1 (d := d) (by omega)
  rw [x_ev_in rfl (Nat.le_of_ble_eq_true rfl)]
  rw [show x_ent (x_nL g_M 85) [.ref 3] = [some (.ref 3)] from rfl]
  simp only [w_Town_isTold_0, w_Town_isTold_4, w_Town_isTold_7, w_Town_isTold_11, w_Town_isTold_12, c_3, f_3_0, p_3_0, f_3_1, p_3_1, f_3_2, p_3_2, f_3_3, p_3_3, f_3_4, p_3_4, f_3_5, p_3_5, f_3_6, p_3_6, f_3_7, p_3_7, f_3_8, p_3_8, f_3_9, f_3_10, f_3_11, f_3_12, f_3_13, Option.some.injEq, exists_eq_left', exists_eq_left, Option.toList_some, Option.toList_none, List.cons_append, List.nil_append, true_and, and_true, Option.map_some, Option.map_none, x_nb0, x_nb1, x_if2, t0]
  exact eq_comm
theorem t_hasPerson (hd : 1 ≤ d) (hT : clsT s 3 T) (x : Int32) : x_ev g_M P d 86 [.ref 3, .int x] (mkH xs s) q ↔ q = (some (.int (if x < 0 then 0 else if nI (tP T) ≤ x then 0 else 1)), mkH xs s) := by
  obtain ⟨⟨t0, t1, t2, t3, t4, t5⟩, -⟩ := hT
  obtain ⟨d, rfl⟩ := x_1 (d := d) (by omega)
  rw [x_ev_in rfl (Nat.le_of_ble_eq_true rfl)]
  rw [show x_ent (x_nL g_M 86) [.ref 3, .int x] = [some (.ref 3), some (.int x)] from rfl]
  simp only [w_Town_hasPerson_0, w_Town_hasPerson_4, w_Town_hasPerson_9, w_Town_hasPerson_12, w_Town_hasPerson_16, w_Town_hasPerson_17, c_3, f_3_0, p_3_0, f_3_1, p_3_1, f_3_2, p_3_2, f_3_3, p_3_3, f_3_4, p_3_4, f_3_5, p_3_5, f_3_6, p_3_6, f_3_7, p_3_7, f_3_8, p_3_8, f_3_9, f_3_10, f_3_11, f_3_12, f_3_13, Option.some.injEq, exists_eq_left', exists_eq_left, Option.toList_some, Option.toList_none, List.cons_append, List.nil_append, true_and, and_true, Option.map_some, Option.map_none, x_nb0, x_nb1, x_if2, t4]
  exact eq_comm
theorem t_hasMatter (hd : 1 ≤ d) (hT : clsT s 3 T) (x : Int32) : x_ev g_M P d 87 [.ref 3, .int x] (mkH xs s) q ↔ q = (some (.int (if x < 0 then 0 else if nI (tM T) ≤ x then 0 else 1)), mkH xs s) := by
  obtain ⟨⟨t0, t1, t2, t3, t4, t5⟩, -⟩ := hT
  obtain ⟨d, rfl⟩ := x_1 (d := d) (by omega)
  rw [x_ev_in rfl (Nat.le_of_ble_eq_true rfl)]
  rw [show x_ent (x_nL g_M 87) [.ref 3, .int x] = [some (.ref 3), some (.int x)] from rfl]
  simp only [w_Town_hasMatter_0, w_Town_hasMatter_4, w_Town_hasMatter_9, w_Town_hasMatter_12, w_Town_hasMatter_16, w_Town_hasMatter_17, c_3, f_3_0, p_3_0, f_3_1, p_3_1, f_3_2, p_3_2, f_3_3, p_3_3, f_3_4, p_3_4, f_3_5, p_3_5, f_3_6, p_3_6, f_3_7, p_3_7, f_3_8, p_3_8, f_3_9, f_3_10, f_3_11, f_3_12, f_3_13, Option.some.injEq, exists_eq_left', exists_eq_left, Option.toList_some, Option.toList_none, List.cons_append, List.nil_append, true_and, and_true, Option.map_some, Option.map_none, x_nb0, x_nb1, x_if2, t5]
  exact eq_comm
theorem t_partyOf (hd : 1 ≤ d) (hT : clsT s 3 T) (hW : tWf T) {m k : Nat} (hm : m < tM T) (hk : k < 2) : x_ev g_M P d 89 [.ref 3, .int (nI m), .int (nI k)] (mkH xs s) q ↔ q = (some (.int (nI (tPa T m k))), mkH xs s) := by
  obtain ⟨⟨t0, t1, t2, t3, t4, t5⟩, t6, t7, t8, t9, t10, t11, t12, t13⟩ := hT
  obtain ⟨w1, w2, w3, w4⟩ := hW
  obtain ⟨d, rfl⟩ := x_1 (d := d) (by omega)
  rw [x_ev_in rfl (Nat.le_of_ble_eq_true rfl)]
  rw [show x_ent (x_nL g_M 89) [.ref 3, .int (nI m), .int (nI k)] = [some (.ref 3), some (.int (nI m)), some (.int (nI k))] from rfl]
  have hx : x_rd (s.1 6) 16 (2 * nI m + nI k) = some (nI (tPa T m k)) := by
    rw [show (2 : Int32) = nI 2 from rfl, pk_mul, nI_add, x_rd_nI (by omega) (by omega)]
    rcases (show k = 0 ∨ k = 1 by omega) with rfl | rfl
    · rw [Nat.add_zero, (t11 m hm).1]
    · rw [(t11 m hm).2]
  simp only [w_Town_partyOf_0, w_Town_partyOf_4, w_Town_partyOf_10, c_3, f_3_0, p_3_0, f_3_1, p_3_1, f_3_2, p_3_2, f_3_3, p_3_3, f_3_4, p_3_4, f_3_5, p_3_5, f_3_6, p_3_6, f_3_7, p_3_7, f_3_8, p_3_8, f_3_9, f_3_10, f_3_11, f_3_12, f_3_13, e_6, i_6, Option.some.injEq, exists_eq_left', exists_eq_left, Option.toList_some, Option.toList_none, List.cons_append, List.nil_append, true_and, and_true, Option.map_some, Option.map_none, hx]
  exact eq_comm
theorem t_otherParty (hd : 1 ≤ d) (hT : clsT s 3 T) (hW : tWf T) {m p : Nat} (hm : m < tM T) (hp : p < tP T) : x_ev g_M P d 90 [.ref 3, .int (nI m), .int (nI p)] (mkH xs s) q ↔ q = (some (.int (nI (if tPa T m 0 = p then tPa T m 1 else tPa T m 0))), mkH xs s) := by
  obtain ⟨⟨t0, t1, t2, t3, t4, t5⟩, t6, t7, t8, t9, t10, t11, t12, t13⟩ := hT
  obtain ⟨w1, w2, w3, w4⟩ := hW
  obtain ⟨d, rfl⟩ := x_1 (d := d) (by omega)
  rw [x_ev_in rfl (Nat.le_of_ble_eq_true rfl)]
  rw [show x_ent (x_nL g_M 90) [.ref 3, .int (nI m), .int (nI p)] = [some (.ref 3), some (.int (nI m)), some (.int (nI p)), none] from rfl]
  have hx : x_rd (s.1 6) 16 (2 * nI m) = some (nI (tPa T m 0)) := by
    rw [show (2 : Int32) = nI 2 from rfl, pk_mul, x_rd_nI (by omega) (by omega), (t11 m hm).1]
  have hy : x_rd (s.1 6) 16 (2 * nI m + 1) = some (nI (tPa T m 1)) := by
    rw [show (2 : Int32) = nI 2 from rfl, pk_mul, nI_1, x_rd_nI (by omega) (by omega), (t11 m hm).2]
  have hc : nI (tPa T m 0) = nI p ↔ tPa T m 0 = p := nI_eq (by have := w3 m hm; omega) (by omega)
  simp only [w_Town_otherParty_0, w_Town_otherParty_4, w_Town_otherParty_8, w_Town_otherParty_14, w_Town_otherParty_18, w_Town_otherParty_24, w_Town_otherParty_27, w_Town_otherParty_28, c_3, f_3_0, p_3_0, f_3_1, p_3_1, f_3_2, p_3_2, f_3_3, p_3_3, f_3_4, p_3_4, f_3_5, p_3_5, f_3_6, p_3_6, f_3_7, p_3_7, f_3_8, p_3_8, f_3_9, f_3_10, f_3_11, f_3_12, f_3_13, e_6, i_6, Option.some.injEq, exists_eq_left', exists_eq_left, Option.toList_some, Option.toList_none, List.cons_append, List.nil_append, true_and, and_true, Option.map_some, Option.map_none, hx, hy, hc]
  by_cases h : tPa T m 0 = p
  · simp only [h, not_true_eq_false, if_false, if_true]
    exact eq_comm
  · simp only [h, not_false_eq_true, if_true, if_false]
    exact eq_comm
theorem t_gainOf (hd : 1 ≤ d) (hT : clsT s 3 T) (hW : tWf T) {m p : Nat} (hp : p < tP T) (hm : m < tM T) : x_ev g_M P d 91 [.ref 3, .int (nI p), .int (nI m)] (mkH xs s) q ↔ q = (some (.int (tGain T p m)), mkH xs s) := by
  obtain ⟨⟨t0, t1, t2, t3, t4, t5⟩, t6, t7, t8, t9, t10, t11, t12, t13⟩ := hT
  obtain ⟨w1, w2, w3, w4⟩ := hW
  obtain ⟨d, rfl⟩ := x_1 (d := d) (by omega)
  rw [x_ev_in rfl (Nat.le_of_ble_eq_true rfl)]
  rw [show x_ent (x_nL g_M 91) [.ref 3, .int (nI p), .int (nI m)] = [some (.ref 3), some (.int (nI p)), some (.int (nI m))] from rfl]
  have hx : x_rd (s.1 8) 48 (nI p * 8 + nI m) = some (tGain T p m) := by
    rw [show (8 : Int32) = nI 8 from rfl, pk_mul, nI_add, show p * 8 + m = 8 * p + m by omega, x_rd_nI (by omega) (by omega), t13 p hp m hm]
  simp only [w_Town_gainOf_0, w_Town_gainOf_4, w_Town_gainOf_11, c_3, f_3_0, p_3_0, f_3_1, p_3_1, f_3_2, p_3_2, f_3_3, p_3_3, f_3_4, p_3_4, f_3_5, p_3_5, f_3_6, p_3_6, f_3_7, p_3_7, f_3_8, p_3_8, f_3_9, f_3_10, f_3_11, f_3_12, f_3_13, e_8, i_8, Option.some.injEq, exists_eq_left', exists_eq_left, Option.toList_some, Option.toList_none, List.cons_append, List.nil_append, true_and, and_true, Option.map_some, Option.map_none, hx]
  exact eq_comm
set_option maxHeartbeats 4000000 in
theorem t_sumOf (hd : 1 ≤ d) (hT : clsT s 3 T) (hW : tWf T) {p : Nat} (hp : p < tP T) (set : Int32) : x_ev g_M P d 93 [.ref 3, .int (nI p), .int set] (mkH xs s) q ↔ q = (some (.int (tSum T p set)), mkH xs s) := by
  obtain ⟨⟨t0, t1, t2, t3, t4, t5⟩, t6, t7, t8, t9, t10, t11, t12, t13⟩ := hT
  obtain ⟨w1, w2, w3, w4⟩ := hW
  obtain ⟨d, rfl⟩ := x_1 (d := d) (by omega)
  rw [x_ev_in rfl (Nat.le_of_ble_eq_true rfl)]
  rw [show x_ent (x_nL g_M 93) [.ref 3, .int (nI p), .int set] = [some (.ref 3), some (.int (nI p)), some (.int set), none, none] from rfl]
  rw [w_Town_sumOf_0]
  have key := x_up (C := x_ev g_M P d) (k := 93) (r := q) (N := tM T) (F := fun m => (5, [some (.ref 3), some (.int (nI p)), some (.int set), some (.int (sm (fun m => if bt set m = true then tGain T p m else 0) m)), some (.int (nI m))], [], mkH xs s)) (fun m hm => by
    have hc : ¬ nI (tM T) ≤ nI m := nI_ge hm (by omega)
    have hx : x_rd (s.1 8) 48 (nI p * 8 + nI m) = some (tGain T p m) := by
      rw [show (8 : Int32) = nI 8 from rfl, pk_mul, nI_add, show p * 8 + m = 8 * p + m by omega, x_rd_nI (by omega) (by omega), t13 p hp m hm]
    simp only [w_Town_sumOf_0, w_Town_sumOf_11, w_Town_sumOf_14, w_Town_sumOf_24, w_Town_sumOf_29, w_Town_sumOf_37, w_Town_sumOf_39, w_Town_sumOf_45, w_Town_sumOf_5 (l0 := 3) (l4 := nI m), c_3, f_3_0, p_3_0, f_3_1, p_3_1, f_3_2, p_3_2, f_3_3, p_3_3, f_3_4, p_3_4, f_3_5, p_3_5, f_3_6, p_3_6, f_3_7, p_3_7, f_3_8, p_3_8, f_3_9, f_3_10, f_3_11, f_3_12, f_3_13, e_8, i_8, Option.some.injEq, exists_eq_left', exists_eq_left, Option.toList_some, Option.toList_none, List.cons_append, List.nil_append, true_and, and_true, Option.map_some, Option.map_none, t5, hc, if_false, bit_1 (show m < 32 by omega), hx, nI_1]
    by_cases hb : bt set m = true
    · simp only [hb, not_true_eq_false, if_false, if_true, sm]
    · simp only [hb, not_false_eq_true, if_true, if_false, sm, Int32.add_zero, Bool.false_eq_true]) 0 (Nat.zero_le _)
  refine key.trans ?_
  simp only [w_Town_sumOf_0, w_Town_sumOf_11, w_Town_sumOf_14, w_Town_sumOf_24, w_Town_sumOf_29, w_Town_sumOf_37, w_Town_sumOf_39, w_Town_sumOf_45, w_Town_sumOf_5 (l0 := 3) (l4 := nI (tM T)), c_3, f_3_0, p_3_0, f_3_1, p_3_1, f_3_2, p_3_2, f_3_3, p_3_3, f_3_4, p_3_4, f_3_5, p_3_5, f_3_6, p_3_6, f_3_7, p_3_7, f_3_8, p_3_8, f_3_9, f_3_10, f_3_11, f_3_12, f_3_13, e_8, i_8, Option.some.injEq, exists_eq_left', exists_eq_left, Option.toList_some, Option.toList_none, List.cons_append, List.nil_append, true_and, and_true, Option.map_some, Option.map_none, t5, show nI (tM T) ≤ nI (tM T) from Int32.le_refl _, if_true]
  exact eq_comm
theorem t_swingOf (hd : 2 ≤ d) (hT : clsT s 3 T) (hW : tWf T) {p : Nat} (hp : p < tP T) (set : Int32) : x_ev g_M P d 96 [.ref 3, .int (nI p), .int set] (mkH xs s) q ↔ q = (some (.int (-tSum T p set)), mkH xs s) := by
  obtain ⟨d, rfl⟩ := x_1 (d := d) (by omega)
  rw [x_ev_in rfl (Nat.le_of_ble_eq_true rfl)]
  rw [show x_ent (x_nL g_M 96) [.ref 3, .int (nI p), .int set] = [some (.ref 3), some (.int (nI p)), some (.int set)] from rfl]
  simp only [w_Town_swingOf_0, w_Town_swingOf_6, c_3, f_3_0, p_3_0, f_3_1, p_3_1, f_3_2, p_3_2, f_3_3, p_3_3, f_3_4, p_3_4, f_3_5, p_3_5, f_3_6, p_3_6, f_3_7, p_3_7, f_3_8, p_3_8, f_3_9, f_3_10, f_3_11, f_3_12, f_3_13, Option.some.injEq, exists_eq_left', exists_eq_left, Option.toList_some, Option.toList_none, List.cons_append, List.nil_append, true_and, and_true, Option.map_some, Option.map_none, t_sumOf (d := d) (by omega) hT hW hp]
  exact eq_comm
theorem tFallN_low (hW : tWf T) {set : Int32} {m : Nat} (hm : m < tM T) : ∀ n, n ≤ m + 1 → n ≤ tM T → tFallN T set m n = tFallN T set m 0 := by
  obtain ⟨w1, w2, w3, w4⟩ := hW
  intro n
  induction n with
  | zero => intro _ _; rfl
  | succ n ih =>
    intro h1 h2
    have e : tFallN T set m (n + 1) = if bt set n = true ∧ ¬ (tOn T n &&& tFallN T set m n) = 0 then tFallN T set m n ||| on1 n else tFallN T set m n := rfl
    rw [e, ih (by omega) (by omega), if_neg]
    rintro ⟨-, h3⟩
    apply h3
    rw [b_eq0]
    intro i hi
    rw [b_and, Bool.and_eq_false_iff]
    by_cases ho : bt (tOn T n) i = true
    · right
      have h4 := w4 n (by omega) i ho
      rw [tFallN]
      split
      · rw [b_on (by omega) hi]
        simp
        omega
      · exact b_0 i
    · left
      simpa using ho
set_option maxHeartbeats 4000000 in
theorem t_fallIn (hd : 1 ≤ d) (hT : clsT s 3 T) (hW : tWf T) {m : Nat} (hm : m < tM T) (set : Int32) : x_ev g_M P d 95 [.ref 3, .int set, .int (nI m)] (mkH xs s) q ↔ q = (some (.int (tFall T set m)), mkH xs s) := by
  have hlow := tFallN_low (set := set) hW hm (m + 1) (Nat.le_refl _) hm
  obtain ⟨⟨t0, t1, t2, t3, t4, t5⟩, t6, t7, t8, t9, t10, t11, t12, t13⟩ := hT
  obtain ⟨w1, w2, w3, w4⟩ := hW
  obtain ⟨d, rfl⟩ := x_1 (d := d) (by omega)
  rw [x_ev_in rfl (Nat.le_of_ble_eq_true rfl)]
  rw [show x_ent (x_nL g_M 95) [.ref 3, .int set, .int (nI m)] = [some (.ref 3), some (.int set), some (.int (nI m)), none, none] from rfl]
  have e0 : (set &&& ((1 : Int32) <<< (nI m &&& 31))) = tFallN T set m (m + 1) := by
    rw [hlow, tFallN]
    show set &&& on1 m = _
    apply b_ext
    intro i hi
    rw [b_and, b_on (by omega) hi]
    by_cases h : i = m
    · subst h
      cases hb : bt set i
      · simp [b_0]
      · simp [b_on (show i < 32 by omega) hi]
    · cases hb : bt set m
      · simp [b_0, h]
      · simp [b_on (show m < 32 by omega) hi, h]
  rw [w_Town_fallIn_0, e0, nI_1]
  have key := x_up (C := x_ev g_M P d) (k := 95) (r := q) (N := tM T) (F := fun n => (11, [some (.ref 3), some (.int set), some (.int (nI m)), some (.int (tFallN T set m n)), some (.int (nI n))], [], mkH xs s)) (fun n hn => by
    have hc : ¬ nI (tM T) ≤ nI n := nI_ge hn (by omega)
    have hx : x_rd (s.1 7) 8 (nI n) = some (tOn T n) := by rw [x_rd_nI (by omega) (by omega), t12 n hn]
    simp only [w_Town_fallIn_0, w_Town_fallIn_17, w_Town_fallIn_20, w_Town_fallIn_30, w_Town_fallIn_34, w_Town_fallIn_37, w_Town_fallIn_42, w_Town_fallIn_49, w_Town_fallIn_55, w_Town_fallIn_11 (l0 := 3) (l4 := nI n), c_3, f_3_0, p_3_0, f_3_1, p_3_1, f_3_2, p_3_2, f_3_3, p_3_3, f_3_4, p_3_4, f_3_5, p_3_5, f_3_6, p_3_6, f_3_7, p_3_7, f_3_8, p_3_8, f_3_9, f_3_10, f_3_11, f_3_12, f_3_13, e_7, i_7, Option.some.injEq, exists_eq_left', exists_eq_left, Option.toList_some, Option.toList_none, List.cons_append, List.nil_append, true_and, and_true, Option.map_some, Option.map_none, t5, hc, if_false, bit_1 (show n < 32 by omega), hx, nI_1]
    rw [tFallN]
    by_cases hb : bt set n = true
    · by_cases hf : (tOn T n &&& tFallN T set m n) = 0
      · simp only [hb, hf, not_true_eq_false, if_false, if_true, and_false]
      · simp only [hb, hf, not_true_eq_false, not_false_eq_true, if_false, if_true, and_self]
        rfl
    · simp only [hb, not_false_eq_true, if_true, if_false, false_and, Bool.false_eq_true]) (m + 1) hm
  refine key.trans ?_
  simp only [w_Town_fallIn_0, w_Town_fallIn_17, w_Town_fallIn_20, w_Town_fallIn_30, w_Town_fallIn_34, w_Town_fallIn_37, w_Town_fallIn_42, w_Town_fallIn_49, w_Town_fallIn_55, w_Town_fallIn_11 (l0 := 3) (l4 := nI (tM T)), c_3, f_3_0, p_3_0, f_3_1, p_3_1, f_3_2, p_3_2, f_3_3, p_3_3, f_3_4, p_3_4, f_3_5, p_3_5, f_3_6, p_3_6, f_3_7, p_3_7, f_3_8, p_3_8, f_3_9, f_3_10, f_3_11, f_3_12, f_3_13, e_7, i_7, Option.some.injEq, exists_eq_left', exists_eq_left, Option.toList_some, Option.toList_none, List.cons_append, List.nil_append, true_and, and_true, Option.map_some, Option.map_none, t5, show nI (tM T) ≤ nI (tM T) from Int32.le_refl _, if_true]
  exact eq_comm
theorem t_agrees (hd : 1 ≤ d) (hT : clsT s 3 T) (hW : tWf T) {m p : Nat} (hp : p < tP T) (hm : m < tM T) (w : Int32) : x_ev g_M P d 97 [.ref 3, .int (nI p), .int (nI m), .int w] (mkH xs s) q ↔ q = (some (.int (if tAgr T p m w = true then 1 else 0)), mkH xs s) := by
  obtain ⟨⟨t0, t1, t2, t3, t4, t5⟩, t6, t7, t8, t9, t10, t11, t12, t13⟩ := hT
  obtain ⟨w1, w2, w3, w4⟩ := hW
  obtain ⟨d, rfl⟩ := x_1 (d := d) (by omega)
  rw [x_ev_in rfl (Nat.le_of_ble_eq_true rfl)]
  rw [show x_ent (x_nL g_M 97) [.ref 3, .int (nI p), .int (nI m), .int w] = [some (.ref 3), some (.int (nI p)), some (.int (nI m)), some (.int w)] from rfl]
  simp only [w_Town_agrees_0, w_Town_agrees_4, w_Town_agrees_12, w_Town_agrees_16, w_Town_agrees_23, w_Town_agrees_27, w_Town_agrees_31, w_Town_agrees_32, c_3, f_3_0, p_3_0, f_3_1, p_3_1, f_3_2, p_3_2, f_3_3, p_3_3, f_3_4, p_3_4, f_3_5, p_3_5, f_3_6, p_3_6, f_3_7, p_3_7, f_3_8, p_3_8, f_3_9, f_3_10, f_3_11, f_3_12, f_3_13, Option.some.injEq, exists_eq_left', exists_eq_left, Option.toList_some, Option.toList_none, List.cons_append, List.nil_append, true_and, and_true, Option.map_some, Option.map_none, x_nb0, x_nb1, bit_1 (show m < 32 by omega), bit_0 (show p < 32 by omega), t8 m hm, t6 p hp, tAgr]
  have hle : 0 ≤ w ↔ ¬ w < 0 := Int32.not_lt.symm
  by_cases hj : tJug T m = true <;> by_cases hs : tSt T p = false <;> by_cases hw : w < 0 <;> simp [hj, hs, hw, hle, eq_comm (a := q)]
end TOWN
