/-! the two constructors, reckoned out; the world at the start (own work) -/
def s00 : xS := (fun c i => if c = 127 then -1 else if c = 13 ∧ i = 7 then -1 else if c = 110 ∧ i = 13 then -1 else 0, fun _ _ => 0)
def c_eq (a b : xC) : Bool := match a, b with
  | .inl (c, fs), .inl (c', fs') => decide (c = c') && decide (fs = fs')
  | .inr (.inl (c, fs)), .inr (.inl (c', fs')) => decide (c = c') && decide (fs = fs')
  | .inr (.inr (.inl fs)), .inr (.inr (.inl fs')) => decide (fs = fs')
  | .inr (.inr (.inr (c, fs))), .inr (.inr (.inr (c', fs'))) => decide (c = c') && decide (fs = fs')
  | _, _ => false
theorem c_eq_ok {a b : xC} (h : c_eq a b = true) : a = b := by
  unfold c_eq at h
  split at h
  · simp only [Bool.and_eq_true, decide_eq_true_eq] at h
    rw [h.1, h.2]
  · simp only [Bool.and_eq_true, decide_eq_true_eq] at h
    rw [h.1, h.2]
  · simp only [decide_eq_true_eq] at h
    rw [h]
  · simp only [Bool.and_eq_true, decide_eq_true_eq] at h
    rw [h.1, h.2]
  · cases h
def h_eq : xH → xH → Bool
  | [], [] => true
  | a :: as, b :: bs => c_eq a b && h_eq as bs
  | _, _ => false
theorem h_eq_ok : ∀ {a b : xH}, h_eq a b = true → a = b := by
  intro a
  induction a with
  | nil =>
    intro b h
    cases b with
    | nil => rfl
    | cons y ys => cases h
  | cons x xs ih =>
    intro b h
    cases b with
    | nil => cases h
    | cons y ys =>
      simp only [h_eq, Bool.and_eq_true] at h
      rw [c_eq_ok h.1, ih h.2]
def i_chk (o : Option (xF ⊕ (Option Value × xH))) (g : xF) : Bool := match o with
  | some (.inl f) => decide (f.1 = g.1) && (decide (f.2.1 = g.2.1) && (decide (f.2.2.1 = g.2.2.1) && h_eq f.2.2.2 g.2.2.2))
  | _ => false
theorem i_chk_ok {o : Option (xF ⊕ (Option Value × xH))} {g : xF} (h : i_chk o g = true) : o = some (.inl g) := by
  unfold i_chk at h
  split at h
  · rename_i f
    simp only [Bool.and_eq_true, decide_eq_true_eq] at h
    obtain ⟨a, b, c, d⟩ := f
    obtain ⟨h1, h2, h3, h4⟩ := h
    obtain rfl : a = g.1 := h1
    obtain rfl : b = g.2.1 := h2
    obtain rfl : c = g.2.2.1 := h3
    obtain rfl : d = g.2.2.2 := h_eq_ok h4
    rfl
  · cases h
theorem i_run : x_gy g_M 1300 16 24 344 (0, [some (.ref 0), none, none, none], [], [xDD]) = some (.inl (16, [some (.ref 0), some (.ref 1), some (.ref 110), none], [], (mkH [] s00).set 0 xDD)) := i_chk_ok (by decide +kernel)
theorem mk_x0 (xs ys : List Int32) (s : xS) : (mkH ys s).set 0 (xI 9 xs) = mkH xs s := by
  apply List.ext_getElem?
  intro k
  rw [List.getElem?_set]
  unfold mkH
  by_cases hk : 0 = k
  · subst hk
    simp
  · rw [if_neg hk]
    simp only [List.getElem?_map]
    cases hq : (List.range 131)[k]? with
    | none => rfl
    | some a =>
      have ha : a ≠ 0 := by
        have h1 := List.getElem?_eq_some_iff.mp hq
        obtain ⟨h2, h3⟩ := h1
        rw [List.getElem_range] at h3
        omega
      simp [ha]
theorem i_go {P : Nat → List Value → Option Value} {xs : List Int32} {r : Option Value × xH} (h : x_R (x_ev g_M P 24) 344 (16, [some (.ref 0), some (.ref 1), some (.ref 110), none], [], mkH xs s00) r) : x_R (x_ev g_M P 24) 344 (0, [some (.ref 0), none, none, none], [], [xI 9 xs]) r := by
  have h1 := (x_gy_ok (P := P) (xs := xs) _ _ _ _ _ _ i_run rfl).1 _ rfl r
  simp only [x_rF, List.set_set, mk_x0, List.set_cons_zero] at h1
  exact h1 h
def W00 : Wd := ((t00, [], aBegin t00), ((fun _ => 0), 0, 0, -1), (fun _ => none), (fun _ => none))
theorem i_ok : wOk W00 := ⟨tGd_ok t00_gd (by omega), by decide, rfl, by decide, fun _ => (show (-128 : Int32) ≤ 0 ∧ (0 : Int32) ≤ 127 by decide), fun _ _ z hz => (by cases hz), fun _ _ z hz => (by cases hz)⟩
theorem s00_1 {c i : Nat} (h1 : c ≠ 127) (h2 : ¬ (c = 13 ∧ i = 7)) (h3 : ¬ (c = 110 ∧ i = 13)) : s00.1 c i = 0 := by
  show (if c = 127 then (-1 : Int32) else if c = 13 ∧ i = 7 then -1 else if c = 110 ∧ i = 13 then -1 else 0) = 0
  rw [if_neg h1, if_neg h2, if_neg h3]
theorem i_cT (a : Nat) (h1 : a ≠ 127) (h2 : a ≠ 13) (h3 : a ≠ 110) : clsT s00 a t00 := by
  have z : ∀ i, s00.1 a i = 0 := fun i => s00_1 h1 (fun e => h2 e.1) (fun e => h3 e.1)
  refine ⟨⟨z 0, z 1, z 2, z 3, z 4, z 5⟩, ?_, ?_, ?_, ?_, ?_, ?_, ?_, ?_⟩
  · exact fun p hp => absurd hp (Nat.not_lt_zero _)
  · exact fun p hp => absurd hp (Nat.not_lt_zero _)
  · exact fun p hp => absurd hp (Nat.not_lt_zero _)
  · exact fun p hp => absurd hp (Nat.not_lt_zero _)
  · exact fun p hp => absurd hp (Nat.not_lt_zero _)
  · exact fun p hp => absurd hp (Nat.not_lt_zero _)
  · exact fun p hp => absurd hp (Nat.not_lt_zero _)
  · exact fun p hp => absurd hp (Nat.not_lt_zero _)
theorem i_cW : cW s00 W00 := by
  refine ⟨⟨i_cT 3 (by decide) (by decide) (by decide), ⟨rfl, rfl, rfl, rfl, ?_, ?_⟩, rfl, ?_⟩, ⟨rfl, ?_, rfl, rfl⟩, ?_, ?_⟩
  · exact fun p hp => absurd hp (Nat.not_lt_zero _)
  · exact fun p hp => absurd hp (Nat.not_lt_zero _)
  · exact fun p hp => absurd hp (Nat.not_lt_zero _)
  · exact fun i _ => s00_1 (by decide) (fun e => by have := e.1; omega) (fun e => by have := e.1; omega)
  · intro i hi
    show s00.1 (77 + 2 * i) 0 = 0
    exact s00_1 (by omega) (by omega) (by omega)
  · intro k hk
    show s00.1 (86 + 8 * k) 0 = 0
    exact s00_1 (by omega) (by omega) (by omega)
theorem i_rW : rW s00 W00 := by
  refine ⟨⟨⟨⟨rfl, rfl, rfl, rfl, rfl, rfl⟩, ?_, ?_⟩, rfl, ?_, by decide⟩, ⟨rfl, ?_, rfl, rfl⟩, ?_, ?_⟩
  · exact fun p hp => absurd hp (Nat.not_lt_zero _)
  · exact fun p hp => absurd hp (Nat.not_lt_zero _)
  · exact fun p hp => absurd hp (Nat.not_lt_zero _)
  · exact fun i _ => s00_1 (by decide) (fun e => by have := e.1; omega) (fun e => by have := e.1; omega)
  · intro i hi
    rfl
  · intro k hk
    show s00.1 113 k = 0
    exact s00_1 (by omega) (by omega) (by omega)
/-- the law on a script: it answers 1 -/
theorem i_law {P : Nat → List Value → Option Value} (hP : wdP P) (xs : List Int32) (hL : xs.length ≤ 3072) : ∃ s', x_R (x_ev g_M P 24) 344 (0, [some (.ref 0), none, none, none], [], [xI 9 xs]) (some (.int 1), mkH xs s') := by
  obtain ⟨s', h⟩ := law_loop (P := P) (xs := xs) (d := 24) (by omega) hP hL xs.length 0 s00 W00 (by omega) (by omega) i_ok i_cW i_rW
  exact ⟨s', i_go (w_Law_law_16.mpr h)⟩
theorem i_lay : ∀ f ∈ g_lay, ∀ i l, x_one (f i l) ≤ 1600 := List.forall_mem_cons.mpr ⟨fun i l => by simp [x_one], List.forall_mem_cons.mpr ⟨fun i l => by simp [x_one], List.forall_mem_cons.mpr ⟨fun i l => by simp [x_one], List.forall_mem_cons.mpr ⟨fun i l => by simp [x_one], List.forall_mem_cons.mpr ⟨fun i l => by simp [x_one], List.forall_mem_cons.mpr ⟨fun i l => by simp [x_one], List.forall_mem_cons.mpr ⟨fun i l => by simp [x_one], List.forall_mem_cons.mpr ⟨fun i l => by simp [x_one], List.forall_mem_cons.mpr ⟨fun i l => by simp [x_one], List.forall_mem_cons.mpr ⟨fun i l => by simp [x_one], List.forall_mem_cons.mpr ⟨fun i l => by simp [x_one], List.forall_mem_cons.mpr ⟨fun i l => by simp [x_one], List.forall_mem_cons.mpr ⟨fun i l => by simp [x_one], List.forall_mem_cons.mpr ⟨fun i l => by simp [x_one], List.forall_mem_cons.mpr ⟨fun i l => by simp [x_one], List.forall_mem_cons.mpr ⟨fun i l => by simp [x_one], List.forall_mem_cons.mpr ⟨fun i l => by simp [x_one], List.forall_mem_cons.mpr ⟨fun i l => by simp [x_one], List.forall_mem_cons.mpr ⟨fun i l => by simp [x_one], List.forall_mem_cons.mpr ⟨fun i l => by simp [x_one], List.forall_mem_cons.mpr ⟨fun i l => by simp [x_one], List.forall_mem_cons.mpr ⟨fun i l => by simp [x_one], List.forall_mem_cons.mpr ⟨fun i l => by simp [x_one], List.forall_mem_cons.mpr ⟨fun i l => by simp [x_one], List.forall_mem_cons.mpr ⟨fun i l => by simp [x_one], List.forall_mem_cons.mpr ⟨fun i l => by simp [x_one], List.forall_mem_cons.mpr ⟨fun i l => by simp [x_one], List.forall_mem_cons.mpr ⟨fun i l => by simp [x_one], List.forall_mem_cons.mpr ⟨fun i l => by simp [x_one], List.forall_mem_cons.mpr ⟨fun i l => by simp [x_one], List.forall_mem_cons.mpr ⟨fun i l => by simp [x_one], List.forall_mem_cons.mpr ⟨fun i l => by simp [x_one], List.forall_mem_cons.mpr ⟨fun i l => by simp [x_one], List.forall_mem_cons.mpr ⟨fun i l => by simp [x_one], List.forall_mem_cons.mpr ⟨fun i l => by simp [x_one], List.forall_mem_cons.mpr ⟨fun i l => by simp [x_one], List.forall_mem_cons.mpr ⟨fun i l => by simp [x_one], List.forall_mem_cons.mpr ⟨fun i l => by simp [x_one], List.forall_mem_cons.mpr ⟨fun i l => by simp [x_one], List.forall_mem_cons.mpr ⟨fun i l => by simp [x_one], List.forall_mem_cons.mpr ⟨fun i l => by simp [x_one], List.forall_mem_cons.mpr ⟨fun i l => by simp [x_one], List.forall_mem_cons.mpr ⟨fun i l => by simp [x_one], List.forall_mem_cons.mpr ⟨fun i l => by simp [x_one], List.forall_mem_cons.mpr ⟨fun i l => by simp [x_one], List.forall_mem_cons.mpr ⟨fun i l => by simp [x_one], List.forall_mem_cons.mpr ⟨fun i l => by simp [x_one], List.forall_mem_cons.mpr ⟨fun i l => by simp [x_one], List.forall_mem_cons.mpr ⟨fun i l => by simp [x_one], List.forall_mem_cons.mpr ⟨fun i l => by simp [x_one], List.forall_mem_cons.mpr ⟨fun i l => by simp [x_one], List.forall_mem_cons.mpr ⟨fun i l => by simp [x_one], List.forall_mem_cons.mpr ⟨fun i l => by simp [x_one], List.forall_mem_cons.mpr ⟨fun i l => by simp [x_one], List.forall_mem_cons.mpr ⟨fun i l => by simp [x_one], List.forall_mem_cons.mpr ⟨fun i l => by simp [x_one], List.forall_mem_cons.mpr ⟨fun i l => by simp [x_one], List.forall_mem_cons.mpr ⟨fun i l => by simp [x_one], List.forall_mem_cons.mpr ⟨fun i l => by simp [x_one], List.forall_mem_cons.mpr ⟨fun i l => by simp [x_one], List.forall_mem_cons.mpr ⟨fun i l => by simp [x_one], List.forall_mem_cons.mpr ⟨fun i l => by simp [x_one], List.forall_mem_cons.mpr ⟨fun i l => by simp [x_one], List.forall_mem_cons.mpr ⟨fun i l => by simp [x_one], List.forall_mem_cons.mpr ⟨fun i l => by simp [x_one], List.forall_mem_cons.mpr ⟨fun i l => by simp [x_one], List.forall_mem_cons.mpr ⟨fun i l => by simp [x_one], List.forall_mem_cons.mpr ⟨fun i l => by simp [x_one], List.forall_mem_cons.mpr ⟨fun i l => by simp [x_one], List.forall_mem_cons.mpr ⟨fun i l => by simp [x_one], List.forall_mem_cons.mpr ⟨fun i l => by simp [x_one], List.forall_mem_cons.mpr ⟨fun i l => by simp [x_one], List.forall_mem_cons.mpr ⟨fun i l => by simp [x_one], List.forall_mem_cons.mpr ⟨fun i l => by simp [x_one], List.forall_mem_cons.mpr ⟨fun i l => by simp [x_one], List.forall_mem_cons.mpr ⟨fun i l => by simp [x_one], List.forall_mem_cons.mpr ⟨fun i l => by simp [x_one], List.forall_mem_cons.mpr ⟨fun i l => by simp [x_one], List.forall_mem_cons.mpr ⟨fun i l => by simp [x_one], List.forall_mem_cons.mpr ⟨fun i l => by simp [x_one], List.forall_mem_cons.mpr ⟨fun i l => by simp [x_one], List.forall_mem_cons.mpr ⟨fun i l => by simp [x_one], List.forall_mem_cons.mpr ⟨fun i l => by simp [x_one], List.forall_mem_cons.mpr ⟨fun i l => by simp [x_one], List.forall_mem_cons.mpr ⟨fun i l => by simp [x_one], List.forall_mem_cons.mpr ⟨fun i l => by simp [x_one], List.forall_mem_cons.mpr ⟨fun i l => by simp [x_one], List.forall_mem_cons.mpr ⟨fun i l => by simp [x_one], List.forall_mem_cons.mpr ⟨fun i l => by simp [x_one], List.forall_mem_cons.mpr ⟨fun i l => by simp [x_one], List.forall_mem_cons.mpr ⟨fun i l => by simp [x_one], List.forall_mem_cons.mpr ⟨fun i l => by simp [x_one], List.forall_mem_cons.mpr ⟨fun i l => by simp [x_one], List.forall_mem_cons.mpr ⟨fun i l => by simp [x_one], List.forall_mem_cons.mpr ⟨fun i l => by simp [x_one], List.forall_mem_cons.mpr ⟨fun i l => by simp [x_one], List.forall_mem_cons.mpr ⟨fun i l => by simp [x_one], List.forall_mem_cons.mpr ⟨fun i l => by simp [x_one], List.forall_mem_cons.mpr ⟨fun i l => by simp [x_one], List.forall_mem_cons.mpr ⟨fun i l => by simp [x_one], List.forall_mem_cons.mpr ⟨fun i l => by simp [x_one], List.forall_mem_cons.mpr ⟨fun i l => by simp [x_one], List.forall_mem_cons.mpr ⟨fun i l => by simp [x_one], List.forall_mem_cons.mpr ⟨fun i l => by simp [x_one], List.forall_mem_cons.mpr ⟨fun i l => by simp [x_one], List.forall_mem_cons.mpr ⟨fun i l => by simp [x_one], List.forall_mem_cons.mpr ⟨fun i l => by simp [x_one], List.forall_mem_cons.mpr ⟨fun i l => by simp [x_one], List.forall_mem_cons.mpr ⟨fun i l => by simp [x_one], List.forall_mem_cons.mpr ⟨fun i l => by simp [x_one], List.forall_mem_cons.mpr ⟨fun i l => by simp [x_one], List.forall_mem_cons.mpr ⟨fun i l => by simp [x_one], List.forall_mem_cons.mpr ⟨fun i l => by simp [x_one], List.forall_mem_cons.mpr ⟨fun i l => by simp [x_one], List.forall_mem_cons.mpr ⟨fun i l => by simp [x_one], List.forall_mem_cons.mpr ⟨fun i l => by simp [x_one], List.forall_mem_cons.mpr ⟨fun i l => by simp [x_one], List.forall_mem_cons.mpr ⟨fun i l => by simp [x_one], List.forall_mem_cons.mpr ⟨fun i l => by simp [x_one], List.forall_mem_cons.mpr ⟨fun i l => by simp [x_one], List.forall_mem_cons.mpr ⟨fun i l => by simp [x_one], List.forall_mem_cons.mpr ⟨fun i l => by simp [x_one], List.forall_mem_cons.mpr ⟨fun i l => by simp [x_one], List.forall_mem_cons.mpr ⟨fun i l => by simp [x_one], List.forall_mem_cons.mpr ⟨fun i l => by simp [x_one], List.forall_mem_cons.mpr ⟨fun i l => by simp [x_one], List.forall_mem_cons.mpr ⟨fun i l => by simp [x_one], List.forall_mem_cons.mpr ⟨fun i l => by simp [x_one], List.forall_mem_cons.mpr ⟨fun i l => by simp [x_one], List.forall_mem_cons.mpr ⟨fun i l => by simp [x_one], List.forall_mem_cons.mpr ⟨fun i l => by simp [x_one], fun _ h => absurd h List.not_mem_nil⟩⟩⟩⟩⟩⟩⟩⟩⟩⟩⟩⟩⟩⟩⟩⟩⟩⟩⟩⟩⟩⟩⟩⟩⟩⟩⟩⟩⟩⟩⟩⟩⟩⟩⟩⟩⟩⟩⟩⟩⟩⟩⟩⟩⟩⟩⟩⟩⟩⟩⟩⟩⟩⟩⟩⟩⟩⟩⟩⟩⟩⟩⟩⟩⟩⟩⟩⟩⟩⟩⟩⟩⟩⟩⟩⟩⟩⟩⟩⟩⟩⟩⟩⟩⟩⟩⟩⟩⟩⟩⟩⟩⟩⟩⟩⟩⟩⟩⟩⟩⟩⟩⟩⟩⟩⟩⟩⟩⟩⟩⟩⟩⟩⟩⟩⟩⟩⟩⟩⟩⟩⟩⟩⟩⟩⟩⟩⟩⟩⟩⟩
theorem i_cell (a : Nat) (s : xS) : x_one (g_cell a s) ≤ 1600 := by
  unfold g_cell
  rw [List.getD_eq_getElem?_getD]
  cases hq : g_lay[a]? with
  | none => simp [x_one]
  | some f => exact i_lay f (List.mem_of_getElem? hq) _ _
theorem i_sum {α : Type} (f : α → Nat) (K : Nat) : ∀ l : List α, (∀ x ∈ l, f x ≤ K) → (l.map f).sum ≤ l.length * K := by
  intro l
  induction l with
  | nil => intro _; simp
  | cons a l ih =>
    intro h
    have h1 := h a List.mem_cons_self
    have h2 := ih (fun x hx => h x (List.mem_cons_of_mem _ hx))
    rw [List.map_cons, List.sum_cons, List.length_cons, Nat.add_mul]
    omega
theorem i_sz (xs : List Int32) (s : xS) : x_sz (mkH xs s) ≤ 131 * (xs.length + 1600) := by
  unfold x_sz mkH
  rw [List.map_map]
  have := i_sum (x_one ∘ fun a => if a = 0 then xI 9 xs else g_cell a s) (xs.length + 1600) (List.range 131) (fun a _ => by
    show x_one (if a = 0 then xI 9 xs else g_cell a s) ≤ _
    split
    · show xs.length ≤ _
      omega
    · have := i_cell a s
      omega)
  rw [List.length_range] at this
  exact this
theorem i_hl (xs : List Int32) (s : xS) : (mkH xs s).length = 131 := by
  unfold mkH
  rw [List.length_map, List.length_range]
theorem zx_wdP : wdP zx_P := by
  have h1 : ∀ w, w < 13 → zx_b w = wdL w := by
    intro w hw
    rcases (show w = 0 ∨ w = 1 ∨ w = 2 ∨ w = 3 ∨ w = 4 ∨ w = 5 ∨ w = 6 ∨ w = 7 ∨ w = 8 ∨ w = 9 ∨ w = 10 ∨ w = 11 ∨ w = 12 by omega) with rfl | rfl | rfl | rfl | rfl | rfl | rfl | rfl | rfl | rfl | rfl | rfl | rfl <;> rfl
  intro w hw
  have e1 : 1000000 + w - x_lim = w := Nat.add_sub_cancel_left x_lim w
  have e2 : x_lim ≤ 1000000 + w := Nat.le_add_right _ _
  have e3 : 1000000 + w < x_lim + 13 := Nat.add_lt_add_left hw _
  refine ⟨?_, fun j hj => ?_⟩
  · unfold zx_P
    simp only [e1, e2, e3, and_self, if_true, h1 w hw]
  · have h9 : (wdL w).length < 9 := by
      rw [← h1 w hw]
      exact (zx_ch w hw).1
    have e4 : (nI j).toNatClampNeg = j := nI_clamp (by omega)
    have e5 : ¬ nI j < 0 := nI_pos (by omega)
    unfold zx_P
    simp only [e1, e2, e3, e4, e5, h1 w hw, hj, not_false_eq_true, and_self, if_true]
