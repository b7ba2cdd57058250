/-! THE READER: tokens on the TAPE (own work) -/
def isSp (x : Int32) : Bool := decide (x = 32) || decide (x = 10)
def isLt (x : Int32) : Bool := decide (97 ≤ x) && decide (x ≤ 122)
def isDg (x : Int32) : Bool := decide (48 ≤ x) && decide (x ≤ 57)
/-- how far a run of such goes on -/
def rn (p : Int32 → Bool) (b : Nat → Int32) : Nat → Nat → Nat
  | 0, i => i
  | k + 1, i => if p (b i) = true then rn p b k (i + 1) else i
theorem rn_le (p : Int32 → Bool) (b : Nat → Int32) : ∀ k i, i ≤ rn p b k i ∧ rn p b k i ≤ i + k := by
  intro k
  induction k with
  | zero => intro i; rw [rn]; omega
  | succ k ih =>
    intro i
    rw [rn]
    split
    · have := ih (i + 1); omega
    · omega
theorem rn_all (p : Int32 → Bool) (b : Nat → Int32) : ∀ k i j, i ≤ j → j < rn p b k i → p (b j) = true := by
  intro k
  induction k with
  | zero => intro i j h1 h2; rw [rn] at h2; omega
  | succ k ih =>
    intro i j h1 h2
    rw [rn] at h2
    by_cases h : p (b i) = true
    · rw [if_pos h] at h2
      by_cases h3 : j = i
      · rw [h3]; exact h
      · exact ih (i + 1) j (by omega) h2
    · rw [if_neg h] at h2; omega
def kdT (b : Nat → Int32) (n i : Nat) : Nat := if i < n then (if isLt (b i) = true then 1 else if isDg (b i) = true then 2 else if b i = 59 then 3 else 4) else 0
def enT (b : Nat → Int32) (n i : Nat) : Nat := if i < n then (if isLt (b i) = true then rn isLt b (n - (i + 1)) (i + 1) else if isDg (b i) = true then rn isDg b (n - (i + 1)) (i + 1) else i + 1) else i
def skT (b : Nat → Int32) (n i : Nat) : Nat := rn isSp b (n - i) i
def nxT (b : Nat → Int32) (n i : Nat) : Nat := skT b n (enT b n i)
theorem skT_le {b : Nat → Int32} {n i : Nat} (h : i ≤ n) : i ≤ skT b n i ∧ skT b n i ≤ n := by
  have := rn_le isSp b (n - i) i
  unfold skT
  omega
theorem enT_le {b : Nat → Int32} {n i : Nat} (h : i ≤ n) : i ≤ enT b n i ∧ enT b n i ≤ n := by
  unfold enT
  have h1 := rn_le isLt b (n - (i + 1)) (i + 1)
  have h2 := rn_le isDg b (n - (i + 1)) (i + 1)
  split
  · split
    · omega
    · split <;> omega
  · omega
theorem enT_gt {b : Nat → Int32} {n i : Nat} (h : i < n) : i < enT b n i := by
  unfold enT
  have h1 := rn_le isLt b (n - (i + 1)) (i + 1)
  have h2 := rn_le isDg b (n - (i + 1)) (i + 1)
  rw [if_pos h]
  split
  · omega
  · split <;> omega
theorem nxT_le {b : Nat → Int32} {n i : Nat} (h : i ≤ n) : i ≤ nxT b n i ∧ nxT b n i ≤ n := by
  have h1 := enT_le (b := b) h
  have h2 := skT_le (b := b) h1.2
  unfold nxT
  omega
theorem kdT_0 {b : Nat → Int32} {n i : Nat} (h : ¬ i < n) : kdT b n i = 0 := by unfold kdT; rw [if_neg h]
theorem kdT_i {b : Nat → Int32} {n i : Nat} (h : kdT b n i ≠ 0) : i < n := by
  unfold kdT at h
  by_cases hi : i < n
  · exact hi
  · rw [if_neg hi] at h; exact absurd rfl h
theorem kdT_4 (b : Nat → Int32) (n i : Nat) : kdT b n i ≤ 4 := by
  unfold kdT
  split
  · split
    · omega
    · split
      · omega
      · split <;> omega
  · omega
theorem kdT_2 {b : Nat → Int32} {n i : Nat} (h : kdT b n i = 2) : i < n ∧ ∀ j, i ≤ j → j < enT b n i → isDg (b j) = true := by
  have hi : i < n := kdT_i (b := b) (by rw [h]; decide)
  refine ⟨hi, fun j h1 h2 => ?_⟩
  unfold kdT at h
  rw [if_pos hi] at h
  by_cases hl : isLt (b i) = true
  · rw [if_pos hl] at h; omega
  · rw [if_neg hl] at h
    by_cases hd : isDg (b i) = true
    · unfold enT at h2
      rw [if_pos hi, if_neg hl, if_pos hd] at h2
      by_cases h3 : j = i
      · rw [h3]; exact hd
      · exact rn_all isDg b _ _ j (by omega) h2
    · rw [if_neg hd] at h
      split at h <;> omega
def dgN (x : Int32) : Nat := (x.toInt - 48).toNat
theorem dg_n {x : Int32} (h : isDg x = true) : x = nI (48 + dgN x) ∧ dgN x < 10 := by
  unfold isDg at h
  rw [Bool.and_eq_true, decide_eq_true_eq, decide_eq_true_eq, Int32.le_iff_toInt_le, Int32.le_iff_toInt_le] at h
  have e1 : (48 : Int32).toInt = 48 := rfl
  have e2 : (57 : Int32).toInt = 57 := rfl
  rw [e1, e2] at h
  have hd : dgN x < 10 := by unfold dgN; omega
  refine ⟨?_, hd⟩
  apply Int32.toInt_inj.mp
  rw [nI_toInt (by omega)]
  unfold dgN
  omega
/-- the number that stands there, counted up to a bound -/
def vlT (b : Nat → Int32) (K : Nat) : Nat → Nat → Nat → Nat
  | 0, _, v => v
  | k + 1, i, v => vlT b K k (i + 1) (min (10 * v + dgN (b i)) K)
theorem vl_cap (b : Nat → Int32) : ∀ k i w, (∀ j, i ≤ j → j < i + k → isDg (b j) = true) → w ≤ 99999 → vlT b 1000 k i (min w 1000) = min (vlT b 99999 k i w) 1000 ∧ vlT b 99999 k i w ≤ 99999 := by
  intro k
  induction k with
  | zero => intro i w _ h; exact ⟨rfl, h⟩
  | succ k ih =>
    intro i w hd h
    have h9 := (dg_n (hd i (by omega) (by omega))).2
    have := ih (i + 1) (min (10 * w + dgN (b i)) 99999) (fun j a c => hd j (by omega) (by omega)) (by omega)
    rw [vlT, vlT]
    have e : min (10 * min w 1000 + dgN (b i)) 1000 = min (min (10 * w + dgN (b i)) 99999) 1000 := by omega
    rw [e]
    exact this
def vT (b : Nat → Int32) (n i : Nat) : Nat := vlT b 1000 (enT b n i - i) i 0
def vR (b : Nat → Int32) (n i : Nat) : Nat := vlT b 99999 (enT b n i - i) i 0
theorem vT_R {b : Nat → Int32} {n i : Nat} (h : kdT b n i = 2) : vT b n i = min (vR b n i) 1000 ∧ vR b n i ≤ 99999 := by
  have h2 := kdT_2 h
  have h3 := enT_gt (b := b) h2.1
  exact vl_cap b (enT b n i - i) i 0 (fun j a c => h2.2 j a (by omega)) (by omega)
theorem nI_mn {a K : Nat} (ha : a < 2 ^ 31) (hK : K < 2 ^ 31) : (if nI a < nI K then nI a else nI K) = nI (min a K) := by
  by_cases h : a < K
  · rw [if_pos (nI_lt h hK), Nat.min_eq_left (by omega)]
  · rw [if_neg (nI_nlt (by omega) ha), Nat.min_eq_right (by omega)]
theorem dg_step {x : Int32} (h : isDg x = true) (v : Nat) : (10 * nI v + x) - 48 = nI (10 * v + dgN x) := by
  rw [show (10 : Int32) = nI 10 from rfl]
  rw [pk_mul]
  have e := (dg_n h).1
  rw [e]
  have e2 : dgN (nI (48 + dgN x)) = dgN x := by rw [← e]
  rw [e2, nI_add, show (48 : Int32) = nI 48 from rfl, pk_sub (by omega)]
  congr 1
  omega
/-- the texts that are asked for, by number -/
def wdL : Nat → List Nat
  | 0 => [119, 101, 108, 108]
  | 1 => [108, 101, 118, 101, 108]
  | 2 => [115, 112, 114, 105, 110, 103]
  | 3 => [102, 114, 111, 115, 116]
  | 4 => [112, 101, 114, 115, 111, 110]
  | 5 => [99, 117, 112, 115]
  | 6 => [115, 116, 117, 98, 98, 111, 114, 110]
  | 7 => [109, 97, 116, 116, 101, 114]
  | 8 => [108, 111, 115, 101, 115]
  | 9 => [103, 97, 105, 110, 115]
  | 10 => [111, 110]
  | 11 => [100, 114, 121]
  | 12 => [106, 117, 103]
  | _ => []
/-- what String.length and charAt answer for those texts -/
def wdP (P : Nat → List Value → Option Value) : Prop := ∀ w, w < 13 → P 340 [.ref (1000000 + w)] = some (.int (nI (wdL w).length)) ∧ ∀ j, j < (wdL w).length → P 341 [.ref (1000000 + w), .int (nI j)] = some (.int (nI (lo (wdL w) j)))
def isW (b : Nat → Int32) (n w i : Nat) : Bool := decide (kdT b n i = 1) && (decide (enT b n i - i = (wdL w).length) && (frst (fun j => !decide (b (i + j) = nI (lo (wdL w) j))) 0 (wdL w).length).isNone)
/-- where the token stands, and the FAULT -/
abbrev Tk : Type := Nat × Option (Nat × Nat)
def fkN : Option (Nat × Nat) → Int32
  | none => 0
  | some e => nI e.1
def fpN : Option (Nat × Nat) → Int32
  | none => -1
  | some e => nI e.2
def fOk (f : Option (Nat × Nat)) : Prop := ∀ e, f = some e → 0 < e.1 ∧ e.1 < 4 ∧ e.2 ≤ 900
theorem fk_0 {f : Option (Nat × Nat)} (h : fOk f) : fkN f = 0 ↔ f = none := by
  cases f with
  | none => exact ⟨fun _ => rfl, fun _ => rfl⟩
  | some e =>
    have := h e rfl
    exact ⟨fun z => absurd z (nI_ne0 this.1 (by omega)), fun z => by cases z⟩
def errF (c i : Nat) : Option (Nat × Nat) → Option (Nat × Nat)
  | none => some (c, i)
  | some e => some e
def tkW (b : Nat → Int32) (n w : Nat) (t : Tk) : Tk := if t.2 = none then (if isW b n w t.1 = true then (nxT b n t.1, none) else (t.1, some (1, t.1))) else t
def tkN (b : Nat → Int32) (n : Nat) (h u : Int32) (t : Tk) : Int32 × Tk := if t.2 = none then (if kdT b n t.1 = 2 then (if h < nI (vT b n t.1) ∨ nI (vT b n t.1) = u then (0, t.1, some (2, t.1)) else (nI (vT b n t.1), nxT b n t.1, none)) else (0, t.1, some (1, t.1))) else (0, t)
def tkOk (n : Nat) (t : Tk) : Prop := t.1 ≤ n ∧ fOk t.2
theorem fOk_n : fOk none := fun e h => by cases h
theorem fOk_s {c i : Nat} (h1 : 0 < c) (h2 : c < 4) (h3 : i ≤ 900) : fOk (some (c, i)) := fun e h => by cases h; exact ⟨h1, h2, h3⟩
theorem tkW_ok {b : Nat → Int32} {n w : Nat} {t : Tk} (hn : n ≤ 900) (h : tkOk n t) : tkOk n (tkW b n w t) := by
  unfold tkW
  split
  · split
    · exact ⟨(nxT_le h.1).2, fOk_n⟩
    · exact ⟨h.1, fOk_s (by omega) (by omega) (by have := h.1; show t.1 ≤ 900; omega)⟩
  · exact h
theorem tkN_ok {b : Nat → Int32} {n : Nat} {x u : Int32} {t : Tk} (hn : n ≤ 900) (h : tkOk n t) : tkOk n (tkN b n x u t).2 := by
  have h9 : t.1 ≤ 900 := by have := h.1; omega
  unfold tkN
  split
  · split
    · split
      · exact ⟨h.1, fOk_s (by omega) (by omega) h9⟩
      · exact ⟨(nxT_le h.1).2, fOk_n⟩
    · exact ⟨h.1, fOk_s (by omega) (by omega) h9⟩
  · exact h
/-- one place of one cell differs -/
def oC (c K : Nat) (s s' : xS) : Prop := (∀ q, q ≠ c → s'.1 q = s.1 q) ∧ (∀ k, k ≠ K → s'.1 c k = s.1 c k) ∧ s'.2 = s.2
theorem oC.rf {c K : Nat} {s : xS} : oC c K s s := ⟨fun _ _ => rfl, fun _ _ => rfl, rfl⟩
theorem oC.tr {c K : Nat} {s s' s'' : xS} (h : oC c K s s') (h2 : oC c K s' s'') : oC c K s s'' := ⟨fun q a => (h2.1 q a).trans (h.1 q a), fun k a => (h2.2.1 k a).trans (h.2.1 k a), h2.2.2.trans h.2.2⟩
theorem oC_p (s : xS) (c K : Nat) (v : Int32) : oC c K s (s_p s c K v) := ⟨fun q a => by funext k; simp [s_p, a], fun k a => by simp [s_p, a], rfl⟩
theorem s_p_v (s : xS) (c K : Nat) (v : Int32) : (s_p s c K v).1 c K = v := by simp [s_p]
def tpC (s : xS) (b : Nat → Int32) (n : Nat) : Prop := n ≤ 900 ∧ ∀ i, i < 900 → s.1 2 i = b i
section TOKC
variable {P : Nat → List Value → Option Value} {d : Nat} {xs : List Int32} {b : Nat → Int32} {n : Nat}
theorem isSp_1 {x : Int32} (h : isSp x = true) : x = 32 ∨ x = 10 := by
  unfold isSp at h
  simpa using h
theorem t_nx1 (h9 : n ≤ 900) : ∀ (k i : Nat) (z : xS), i + k = n → (∀ j, j < 900 → z.1 2 j = b j) → z.1 13 2 = nI n → z.1 13 3 = nI i → ∃ z', oC 13 3 z z' ∧ z'.1 13 3 = nI (rn isSp b k i) ∧ ∀ r, x_R (x_ev g_M P d) 32 (8, [some (.ref 13)], [], mkH xs z) r ↔ x_R (x_ev g_M P d) 32 (60, [some (.ref 13)], [], mkH xs z') r := by
  intro k
  induction k with
  | zero =>
    intro i z hi hb h2 h3
    have hle : nI n ≤ nI i := nI_le (by omega) (by omega)
    refine ⟨z, oC.rf, h3, fun r => ?_⟩
    simp only [w_Reader_next_8, w_Reader_next_12, w_Reader_next_16, c_13, f_13_0, f_13_1, f_13_2, p_13_2, f_13_3, p_13_3, f_13_4, p_13_4, f_13_5, p_13_5, f_13_6, p_13_6, f_13_7, p_13_7, Option.some.injEq, exists_eq_left', exists_eq_left, Option.toList_some, Option.toList_none, List.cons_append, List.nil_append, true_and, and_true, Option.map_some, Option.map_none, h2, h3, hle, if_true]
  | succ k ih =>
    intro i z hi hb h2 h3
    have hle : ¬ nI n ≤ nI i := nI_ge (by omega) (by omega)
    have hx : x_rd (z.1 2) 900 (nI i) = some (b i) := by rw [x_rd_nI (by omega) (by omega), hb i (by omega)]
    by_cases hs : isSp (b i) = true
    · have o1 := oC_p z 13 3 (nI (i + 1))
      obtain ⟨z', g1, g2, g3⟩ := ih (i + 1) (s_p z 13 3 (nI (i + 1))) (by omega) (fun j hj => by rw [o1.1 2 (by omega)]; exact hb j hj) (by rw [o1.2.1 2 (by omega)]; exact h2) (s_p_v _ _ _ _)
      refine ⟨z', o1.tr g1, by rw [rn, if_pos hs]; exact g2, fun r => ?_⟩
      rw [← g3 r]
      rcases isSp_1 hs with h | h
      · simp only [w_Reader_next_8 (l0 := 13) (h := mkH xs z), w_Reader_next_12, w_Reader_next_16, w_Reader_next_19, w_Reader_next_23, w_Reader_next_27, w_Reader_next_28, w_Reader_next_47, w_Reader_next_52, w_Reader_next_57, c_13, f_13_0, f_13_1, f_13_2, p_13_2, f_13_3, p_13_3, f_13_4, p_13_4, f_13_5, p_13_5, f_13_6, p_13_6, f_13_7, p_13_7, e_2, i_2, Option.some.injEq, exists_eq_left', exists_eq_left, Option.toList_some, Option.toList_none, List.cons_append, List.nil_append, true_and, and_true, Option.map_some, Option.map_none, h2, h3, hle, if_false, hx, h, if_true, nI_1]
      · simp only [w_Reader_next_8 (l0 := 13) (h := mkH xs z), w_Reader_next_12, w_Reader_next_16, w_Reader_next_19, w_Reader_next_23, w_Reader_next_27, w_Reader_next_28, w_Reader_next_33, w_Reader_next_37, w_Reader_next_41, w_Reader_next_42, w_Reader_next_47, w_Reader_next_52, w_Reader_next_57, c_13, f_13_0, f_13_1, f_13_2, p_13_2, f_13_3, p_13_3, f_13_4, p_13_4, f_13_5, p_13_5, f_13_6, p_13_6, f_13_7, p_13_7, e_2, i_2, Option.some.injEq, exists_eq_left', exists_eq_left, Option.toList_some, Option.toList_none, List.cons_append, List.nil_append, true_and, and_true, Option.map_some, Option.map_none, h2, h3, hle, if_false, hx, h, show ¬ ((10 : Int32) = 32) by decide, not_true_eq_false, nI_1]
    · refine ⟨z, oC.rf, by rw [rn, if_neg hs]; exact h3, fun r => ?_⟩
      have n1 : ¬ b i = 32 := fun h => hs (by rw [h]; decide)
      have n2 : ¬ b i = 10 := fun h => hs (by rw [h]; decide)
      simp only [w_Reader_next_8 (l0 := 13) (h := mkH xs z), w_Reader_next_12, w_Reader_next_16, w_Reader_next_19, w_Reader_next_23, w_Reader_next_27, w_Reader_next_28, w_Reader_next_33, w_Reader_next_37, w_Reader_next_41, w_Reader_next_42, c_13, f_13_0, f_13_1, f_13_2, p_13_2, f_13_3, p_13_3, f_13_4, p_13_4, f_13_5, p_13_5, f_13_6, p_13_6, f_13_7, p_13_7, e_2, i_2, Option.some.injEq, exists_eq_left', exists_eq_left, Option.toList_some, Option.toList_none, List.cons_append, List.nil_append, true_and, and_true, Option.map_some, Option.map_none, h2, h3, hle, if_false, hx, n1, n2, not_false_eq_true, if_true]
theorem isLt_1 {x : Int32} (h : isLt x = true) : ¬ x < 97 ∧ ¬ 122 < x := by
  unfold isLt at h
  rw [Bool.and_eq_true, decide_eq_true_eq, decide_eq_true_eq] at h
  exact ⟨Int32.not_lt.mpr h.1, Int32.not_lt.mpr h.2⟩
theorem isLt_0 {x : Int32} (h : ¬ isLt x = true) : x < 97 ∨ (¬ x < 97 ∧ 122 < x) := by
  by_cases h1 : x < 97
  · exact Or.inl h1
  · refine Or.inr ⟨h1, ?_⟩
    apply Int32.not_le.mp
    intro h2
    apply h
    unfold isLt
    rw [Bool.and_eq_true, decide_eq_true_eq, decide_eq_true_eq]
    exact ⟨Int32.not_lt.mp h1, h2⟩
theorem isDg_1 {x : Int32} (h : isDg x = true) : ¬ x < 48 ∧ ¬ 57 < x := by
  unfold isDg at h
  rw [Bool.and_eq_true, decide_eq_true_eq, decide_eq_true_eq] at h
  exact ⟨Int32.not_lt.mpr h.1, Int32.not_lt.mpr h.2⟩
theorem isDg_0 {x : Int32} (h : ¬ isDg x = true) : x < 48 ∨ (¬ x < 48 ∧ 57 < x) := by
  by_cases h1 : x < 48
  · exact Or.inl h1
  · refine Or.inr ⟨h1, ?_⟩
    apply Int32.not_le.mp
    intro h2
    apply h
    unfold isDg
    rw [Bool.and_eq_true, decide_eq_true_eq, decide_eq_true_eq]
    exact ⟨Int32.not_lt.mp h1, h2⟩
theorem t_nx2 (h9 : n ≤ 900) : ∀ (k i : Nat) (z : xS), i + k = n → (∀ j, j < 900 → z.1 2 j = b j) → z.1 13 2 = nI n → z.1 13 4 = nI i → ∃ z', oC 13 4 z z' ∧ z'.1 13 4 = nI (rn isLt b k i) ∧ ∀ r, x_R (x_ev g_M P d) 32 (128, [some (.ref 13)], [], mkH xs z) r ↔ x_R (x_ev g_M P d) 32 (288, [some (.ref 13)], [], mkH xs z') r := by
  intro k
  induction k with
  | zero =>
    intro i z hi hb h2 h3
    have hle : nI n ≤ nI i := nI_le (by omega) (by omega)
    refine ⟨z, oC.rf, h3, fun r => ?_⟩
    simp only [w_Reader_next_128, w_Reader_next_132, w_Reader_next_136, c_13, f_13_0, f_13_1, f_13_2, p_13_2, f_13_3, p_13_3, f_13_4, p_13_4, f_13_5, p_13_5, f_13_6, p_13_6, f_13_7, p_13_7, Option.some.injEq, exists_eq_left', exists_eq_left, Option.toList_some, Option.toList_none, List.cons_append, List.nil_append, true_and, and_true, Option.map_some, Option.map_none, h2, h3, hle, if_true]
  | succ k ih =>
    intro i z hi hb h2 h3
    have hle : ¬ nI n ≤ nI i := nI_ge (by omega) (by omega)
    have hx : x_rd (z.1 2) 900 (nI i) = some (b i) := by rw [x_rd_nI (by omega) (by omega), hb i (by omega)]
    by_cases hs : isLt (b i) = true
    · have o1 := oC_p z 13 4 (nI (i + 1))
      obtain ⟨z', g1, g2, g3⟩ := ih (i + 1) (s_p z 13 4 (nI (i + 1))) (by omega) (fun j hj => by rw [o1.1 2 (by omega)]; exact hb j hj) (by rw [o1.2.1 2 (by omega)]; exact h2) (s_p_v _ _ _ _)
      refine ⟨z', o1.tr g1, by rw [rn, if_pos hs]; exact g2, fun r => ?_⟩
      rw [← g3 r]
      obtain ⟨a1, a2⟩ := isLt_1 hs
      simp only [w_Reader_next_128 (l0 := 13) (h := mkH xs z), w_Reader_next_132, w_Reader_next_136, w_Reader_next_139, w_Reader_next_143, w_Reader_next_147, w_Reader_next_148, w_Reader_next_153, w_Reader_next_157, w_Reader_next_161, w_Reader_next_162, w_Reader_next_167, w_Reader_next_172, w_Reader_next_177, c_13, f_13_0, f_13_1, f_13_2, p_13_2, f_13_3, p_13_3, f_13_4, p_13_4, f_13_5, p_13_5, f_13_6, p_13_6, f_13_7, p_13_7, e_2, i_2, Option.some.injEq, exists_eq_left', exists_eq_left, Option.toList_some, Option.toList_none, List.cons_append, List.nil_append, true_and, and_true, Option.map_some, Option.map_none, h2, h3, hle, if_false, hx, a1, a2, nI_1]
    · refine ⟨z, oC.rf, by rw [rn, if_neg hs]; exact h3, fun r => ?_⟩
      rcases isLt_0 hs with a1 | ⟨a1, a2⟩
      · simp only [w_Reader_next_128 (l0 := 13) (h := mkH xs z), w_Reader_next_132, w_Reader_next_136, w_Reader_next_139, w_Reader_next_143, w_Reader_next_147, w_Reader_next_148, c_13, f_13_0, f_13_1, f_13_2, p_13_2, f_13_3, p_13_3, f_13_4, p_13_4, f_13_5, p_13_5, f_13_6, p_13_6, f_13_7, p_13_7, e_2, i_2, Option.some.injEq, exists_eq_left', exists_eq_left, Option.toList_some, Option.toList_none, List.cons_append, List.nil_append, true_and, and_true, Option.map_some, Option.map_none, h2, h3, hle, if_false, hx, a1, if_true]
      · simp only [w_Reader_next_128 (l0 := 13) (h := mkH xs z), w_Reader_next_132, w_Reader_next_136, w_Reader_next_139, w_Reader_next_143, w_Reader_next_147, w_Reader_next_148, w_Reader_next_153, w_Reader_next_157, w_Reader_next_161, w_Reader_next_162, c_13, f_13_0, f_13_1, f_13_2, p_13_2, f_13_3, p_13_3, f_13_4, p_13_4, f_13_5, p_13_5, f_13_6, p_13_6, f_13_7, p_13_7, e_2, i_2, Option.some.injEq, exists_eq_left', exists_eq_left, Option.toList_some, Option.toList_none, List.cons_append, List.nil_append, true_and, and_true, Option.map_some, Option.map_none, h2, h3, hle, if_false, hx, a1, a2, if_true]
theorem t_nx3 (h9 : n ≤ 900) : ∀ (k i : Nat) (z : xS), i + k = n → (∀ j, j < 900 → z.1 2 j = b j) → z.1 13 2 = nI n → z.1 13 4 = nI i → ∃ z', oC 13 4 z z' ∧ z'.1 13 4 = nI (rn isDg b k i) ∧ ∀ r, x_R (x_ev g_M P d) 32 (213, [some (.ref 13)], [], mkH xs z) r ↔ x_R (x_ev g_M P d) 32 (288, [some (.ref 13)], [], mkH xs z') r := by
  intro k
  induction k with
  | zero =>
    intro i z hi hb h2 h3
    have hle : nI n ≤ nI i := nI_le (by omega) (by omega)
    refine ⟨z, oC.rf, h3, fun r => ?_⟩
    simp only [w_Reader_next_213, w_Reader_next_217, w_Reader_next_221, c_13, f_13_0, f_13_1, f_13_2, p_13_2, f_13_3, p_13_3, f_13_4, p_13_4, f_13_5, p_13_5, f_13_6, p_13_6, f_13_7, p_13_7, Option.some.injEq, exists_eq_left', exists_eq_left, Option.toList_some, Option.toList_none, List.cons_append, List.nil_append, true_and, and_true, Option.map_some, Option.map_none, h2, h3, hle, if_true]
  | succ k ih =>
    intro i z hi hb h2 h3
    have hle : ¬ nI n ≤ nI i := nI_ge (by omega) (by omega)
    have hx : x_rd (z.1 2) 900 (nI i) = some (b i) := by rw [x_rd_nI (by omega) (by omega), hb i (by omega)]
    by_cases hs : isDg (b i) = true
    · have o1 := oC_p z 13 4 (nI (i + 1))
      obtain ⟨z', g1, g2, g3⟩ := ih (i + 1) (s_p z 13 4 (nI (i + 1))) (by omega) (fun j hj => by rw [o1.1 2 (by omega)]; exact hb j hj) (by rw [o1.2.1 2 (by omega)]; exact h2) (s_p_v _ _ _ _)
      refine ⟨z', o1.tr g1, by rw [rn, if_pos hs]; exact g2, fun r => ?_⟩
      rw [← g3 r]
      obtain ⟨a1, a2⟩ := isDg_1 hs
      simp only [w_Reader_next_213 (l0 := 13) (h := mkH xs z), w_Reader_next_217, w_Reader_next_221, w_Reader_next_224, w_Reader_next_228, w_Reader_next_232, w_Reader_next_233, w_Reader_next_238, w_Reader_next_242, w_Reader_next_246, w_Reader_next_247, w_Reader_next_252, w_Reader_next_257, w_Reader_next_262, c_13, f_13_0, f_13_1, f_13_2, p_13_2, f_13_3, p_13_3, f_13_4, p_13_4, f_13_5, p_13_5, f_13_6, p_13_6, f_13_7, p_13_7, e_2, i_2, Option.some.injEq, exists_eq_left', exists_eq_left, Option.toList_some, Option.toList_none, List.cons_append, List.nil_append, true_and, and_true, Option.map_some, Option.map_none, h2, h3, hle, if_false, hx, a1, a2, nI_1]
    · refine ⟨z, oC.rf, by rw [rn, if_neg hs]; exact h3, fun r => ?_⟩
      rcases isDg_0 hs with a1 | ⟨a1, a2⟩
      · simp only [w_Reader_next_213 (l0 := 13) (h := mkH xs z), w_Reader_next_217, w_Reader_next_221, w_Reader_next_224, w_Reader_next_228, w_Reader_next_232, w_Reader_next_233, c_13, f_13_0, f_13_1, f_13_2, p_13_2, f_13_3, p_13_3, f_13_4, p_13_4, f_13_5, p_13_5, f_13_6, p_13_6, f_13_7, p_13_7, e_2, i_2, Option.some.injEq, exists_eq_left', exists_eq_left, Option.toList_some, Option.toList_none, List.cons_append, List.nil_append, true_and, and_true, Option.map_some, Option.map_none, h2, h3, hle, if_false, hx, a1, if_true]
      · simp only [w_Reader_next_213 (l0 := 13) (h := mkH xs z), w_Reader_next_217, w_Reader_next_221, w_Reader_next_224, w_Reader_next_228, w_Reader_next_232, w_Reader_next_233, w_Reader_next_238, w_Reader_next_242, w_Reader_next_246, w_Reader_next_247, c_13, f_13_0, f_13_1, f_13_2, p_13_2, f_13_3, p_13_3, f_13_4, p_13_4, f_13_5, p_13_5, f_13_6, p_13_6, f_13_7, p_13_7, e_2, i_2, Option.some.injEq, exists_eq_left', exists_eq_left, Option.toList_some, Option.toList_none, List.cons_append, List.nil_append, true_and, and_true, Option.map_some, Option.map_none, h2, h3, hle, if_false, hx, a1, a2, if_true]
end TOKC
