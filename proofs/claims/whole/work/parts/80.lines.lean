/-! THE READER of the class: LINES (own work) -/
theorem r3_n {b : Nat → Int32} {n : Nat} {T : Tw} {t : Tk} (hW : tWf T) (h : (r3M b n T t).2.2 = none) : (r0M b n T t).2.2 = none ∧ (r1M b n T t).2.2 = none ∧ (r2M b n T t).2.2 = none ∧ (∃ j, j < tP T ∧ (r0M b n T t).1 = nI j) ∧ ∃ j, j < tP T ∧ (r2M b n T t).1 = nI j ∧ nI j ≠ (r0M b n T t).1 := by
  have w1 := hW.1
  have hg : ∀ u : Tk, (tkG b n u).2.2 = none → u.2 = none := fun u hu => by
    unfold tkG at hu
    by_cases hc : (decide (u.2 = none) && isW b n 8 u.1) = true
    · rw [Bool.and_eq_true, decide_eq_true_eq] at hc; exact hc.1
    · rw [if_neg hc] at hu; exact (tkW_v (tkN_v hu).1).1
  have n2 : (r2M b n T t).2.2 = none := hg _ h
  have n1 : (r1M b n T t).2.2 = none := (tkN_v n2).1
  have n0 : (r0M b n T t).2.2 = none := hg _ n1
  obtain ⟨-, -, -, j0, a4, a5, a6, -⟩ := tkN_v n0
  obtain ⟨-, -, -, j2, c4, c5, c6, c7⟩ := tkN_v (show (tkN b n (nI (tP T) - 1) (r0M b n T t).1 (r1M b n T t).2).2.2 = none from n2)
  exact ⟨n0, n1, n2, ⟨j0, nI_pm (by omega) a5 a6, a4⟩, j2, nI_pm (by omega) c5 c6, c4, c7⟩
theorem md_P {s s' : xS} {T : Tw} {c : Int32} {st : Bool} (hW : tWf T) (h6 : tP T < 6) (hm : mdC s T) (h4 : s'.1 14 4 = nI (tP T + 1)) (h14 : ∀ k, k ≠ 4 → k ≠ 6 → s'.1 14 k = s.1 14 k) (hs : s'.1 14 6 = if st = true then s.1 14 6 ||| on1 (tP T) else s.1 14 6) (h15 : s'.1 15 (tP T) = c) (h15' : ∀ k, k ≠ tP T → s'.1 15 k = s.1 15 k) (h16 : s'.1 16 = s.1 16) (h17 : s'.1 17 = s.1 17) (h18 : s'.1 18 = s.1 18) (h19 : s'.1 19 = s.1 19) : mdC s' (tAddP T c st) := by
  obtain ⟨⟨⟨t0, t1, t2, t3, t4, t5⟩, t6, t7, t8, t9, t10, t11, t12, t13⟩, u1, u2, u3, u4, u5, u6⟩ := hm
  have w2 := hW.2.1
  have sb : ∀ i, i < 32 → bt (s'.1 14 6) i = if i = tP T then (if st = true then true else bt (s.1 14 6) i) else bt (s.1 14 6) i := fun i hi => by
    rw [hs]
    cases st with
    | false => simp
    | true =>
      simp only [if_true]
      rw [b_or, b_on (by omega) hi]
      by_cases h : i = tP T
      · simp [h]
      · simp [h]
  refine ⟨⟨⟨by rw [h14 0 (by omega) (by omega)]; exact t0, by rw [h14 1 (by omega) (by omega)]; exact t1, by rw [h14 2 (by omega) (by omega)]; exact t2, by rw [h14 3 (by omega) (by omega)]; exact t3, h4, by rw [h14 5 (by omega) (by omega)]; exact t5⟩, fun p hp => ?_, fun m hmm => by rw [h14 7 (by omega) (by omega)]; exact t7 m hmm, fun m hmm => by rw [h14 8 (by omega) (by omega)]; exact t8 m hmm, fun p hp => ?_, fun p hp m => ?_, fun m hmm => by rw [h17]; exact t11 m hmm, fun m hmm => by rw [h18]; exact t12 m hmm, fun p hp m hmm => ?_⟩, fun i hi => ?_, fun i hi => by rw [h14 7 (by omega) (by omega)]; exact u2 i hi, fun i hi => by rw [h14 8 (by omega) (by omega)]; exact u3 i hi, fun p hp hq => ?_, fun m hmm hq => by rw [h18]; exact u5 m hmm hq, fun p hp m hmm hq => ?_⟩
  · have hp : p < tP T + 1 := hp
    show bt (s'.1 14 6) p = (if p = tP T then st else tSt T p)
    rw [sb p (by omega)]
    by_cases h : p = tP T
    · rw [if_pos h, if_pos h]
      cases st with
      | true => rfl
      | false => rw [if_neg (by decide)]; exact u1 p (by omega)
    · rw [if_neg h, if_neg h]; exact t6 p (by omega)
  · have hp : p < tP T + 1 := hp
    show s'.1 15 p = (if p = tP T then c else tCu T p)
    by_cases h : p = tP T
    · rw [if_pos h, h]; exact h15
    · rw [if_neg h, h15' p h]; exact t9 p (by omega)
  · have hp : p < tP T + 1 := hp
    show bt (s'.1 16 p) m = true ↔ (m < tM T ∧ tIs T p m = true)
    rw [h16]
    by_cases h : p = tP T
    · rw [u4 p (by omega) (by omega), b_0]
      refine ⟨fun z => (by cases z), fun z => ?_⟩
      have w3 := hW.2.2.1 m z.1
      have z2 := z.2
      unfold tIs at z2
      rw [Bool.or_eq_true, decide_eq_true_eq, decide_eq_true_eq] at z2
      omega
    · exact t10 p (by omega) m
  · have hp : p < tP T + 1 := hp
    show s'.1 19 (8 * p + m) = tGain T p m
    have hmm : m < tM T := hmm
    rw [h19]
    by_cases h : p = tP T
    · rw [u6 p (by omega) m (by omega) (Or.inl (by omega))]
      have w3 := hW.2.2.1 m hmm
      unfold tGain
      rw [if_neg (by omega), if_neg (by omega)]
    · exact t13 p (by omega) m hmm
  · have hi : tP T + 1 ≤ i := hi
    by_cases h32 : i < 32
    · rw [sb i h32, if_neg (by omega)]; exact u1 i (by omega)
    · exact bt_hi (by omega)
  · have hq : tP T + 1 ≤ p := hq
    rw [h16]; exact u4 p hp (by omega)
  · have hq : tP T + 1 ≤ p ∨ tM T ≤ m := hq
    rw [h19]; exact u6 p hp m hmm (by omega)
theorem bit_up {old v : Int32} {M : Nat} (hM : M < 8) (x : Bool) (hv : v = if x = true then old ||| on1 M else old) (ho : ∀ i, M ≤ i → bt old i = false) : (∀ (f : Nat → Bool), (∀ m, m < M → bt old m = f m) → ∀ m, m < M + 1 → bt v m = if m = M then x else f m) ∧ ∀ i, M + 1 ≤ i → bt v i = false := by
  have sb : ∀ i, i < 32 → bt v i = if i = M then x else bt old i := fun i hi => by
    rw [hv]
    cases x with
    | false =>
      by_cases h : i = M
      · rw [if_pos h, if_neg (by decide)]; exact ho i (by omega)
      · rw [if_neg h]; rfl
    | true =>
      simp only [if_true]
      rw [b_or, b_on (by omega) hi]
      by_cases h : i = M
      · simp [h]
      · simp [h]
  refine ⟨fun f hf m hm => ?_, fun i hi => ?_⟩
  · rw [sb m (by omega)]
    by_cases h : m = M
    · rw [if_pos h, if_pos h]
    · rw [if_neg h, if_neg h]; exact hf m (by omega)
  · by_cases h32 : i < 32
    · rw [sb i h32, if_neg (by omega)]; exact ho i (by omega)
    · exact bt_hi (by omega)
set_option maxHeartbeats 4000000 in
theorem md_M {s s' : xS} {T : Tw} {p0 p1 : Nat} {g0 g1 : Int32} {x : Int32 × Bool × Bool} (hW : tWf T) (h8 : tM T < 8) (hp0 : p0 < tP T) (hp1 : p1 < tP T) (hne : p0 ≠ p1) (hm : mdC s T) (h5 : s'.1 14 5 = nI (tM T + 1)) (h14 : ∀ k, k ≠ 5 → k ≠ 7 → k ≠ 8 → s'.1 14 k = s.1 14 k) (h7 : s'.1 14 7 = if x.2.1 = true then s.1 14 7 ||| on1 (tM T) else s.1 14 7) (h8' : s'.1 14 8 = if x.2.2 = true then s.1 14 8 ||| on1 (tM T) else s.1 14 8) (h15 : s'.1 15 = s.1 15) (h16 : ∀ q, s'.1 16 q = if q = p1 then s.1 16 q ||| on1 (tM T) else if q = p0 then s.1 16 q ||| on1 (tM T) else s.1 16 q) (h17 : ∀ q, s'.1 17 q = if q = 2 * tM T + 1 then nI p1 else if q = 2 * tM T then nI p0 else s.1 17 q) (h18 : ∀ q, s'.1 18 q = if q = tM T then x.1 else s.1 18 q) (h19 : ∀ q, s'.1 19 q = if q = 8 * p1 + tM T then g1 else if q = 8 * p0 + tM T then g0 else s.1 19 q) : mdC s' (tAddM T (nI p0) g0 (nI p1) g1 x) := by
  obtain ⟨⟨⟨t0, t1, t2, t3, t4, t5⟩, t6, t7, t8, t9, t10, t11, t12, t13⟩, u1, u2, u3, u4, u5, u6⟩ := hm
  have w1 := hW.1
  have w2 := hW.2.1
  obtain ⟨b7, b7'⟩ := bit_up h8 x.2.1 h7 u2
  obtain ⟨b8, b8'⟩ := bit_up h8 x.2.2 h8' u3
  have ep : ∀ m k, tPa (tAddM T (nI p0) g0 (nI p1) g1 x) m k = if m = tM T then (if k = 0 then p0 else p1) else tPa T m k := fun m k => by
    show (if m = tM T then (if k = 0 then (nI p0).toNatClampNeg else (nI p1).toNatClampNeg) else tPa T m k) = _
    rw [nI_clamp (by omega), nI_clamp (by omega)]
  refine ⟨⟨⟨by rw [h14 0 (by omega) (by omega) (by omega)]; exact t0, by rw [h14 1 (by omega) (by omega) (by omega)]; exact t1, by rw [h14 2 (by omega) (by omega) (by omega)]; exact t2, by rw [h14 3 (by omega) (by omega) (by omega)]; exact t3, by rw [h14 4 (by omega) (by omega) (by omega)]; exact t4, h5⟩, fun p hp => by rw [h14 6 (by omega) (by omega) (by omega)]; exact t6 p hp, b7 (tDry T) t7, b8 (tJug T) t8, fun p hp => by rw [h15]; exact t9 p hp, fun p hp m => ?_, fun m hmm => ?_, fun m hmm => ?_, fun p hp m hmm => ?_⟩, fun i hi => by rw [h14 6 (by omega) (by omega) (by omega)]; exact u1 i hi, b7', b8', fun p hp hq => ?_, fun m hmm hq => ?_, fun p hp m hmm hq => ?_⟩
  · have hp : p < tP T := hp
    show bt (s'.1 16 p) m = true ↔ (m < tM T + 1 ∧ (decide (tPa (tAddM T (nI p0) g0 (nI p1) g1 x) m 0 = p) || decide (tPa (tAddM T (nI p0) g0 (nI p1) g1 x) m 1 = p)) = true)
    rw [ep, ep, h16 p]
    by_cases h32 : m < 32
    · have ob : bt (s.1 16 p ||| on1 (tM T)) m = (bt (s.1 16 p) m || decide (m = tM T)) := by rw [b_or, b_on (by omega) h32]
      have t10' := t10 p hp m
      unfold tIs at t10'
      by_cases hmm : m = tM T
      · have o0 : bt (s.1 16 p) m = false := by
          cases hb : bt (s.1 16 p) m with
          | false => rfl
          | true => have := (t10'.mp hb).1; omega
        simp only [hmm, if_true, show ¬ ((1 : Nat) = 0) by omega, if_false]
        rw [hmm] at ob o0
        by_cases a1 : p = p1
        · rw [if_pos a1, ob]
          simp [a1]
        · rw [if_neg a1]
          by_cases a0 : p = p0
          · rw [if_pos a0, ob]
            simp [a0]
          · rw [if_neg a0, o0]
            have n0 : ¬ p0 = p := fun z => a0 z.symm
            have n1 : ¬ p1 = p := fun z => a1 z.symm
            simp [n0, n1]
      · have ob' : bt (s.1 16 p ||| on1 (tM T)) m = bt (s.1 16 p) m := by rw [ob]; simp [hmm]
        simp only [hmm, if_false]
        have e : (if p = p1 then s.1 16 p ||| on1 (tM T) else if p = p0 then s.1 16 p ||| on1 (tM T) else s.1 16 p) = s.1 16 p ∨ (if p = p1 then s.1 16 p ||| on1 (tM T) else if p = p0 then s.1 16 p ||| on1 (tM T) else s.1 16 p) = s.1 16 p ||| on1 (tM T) := by
          split
          · exact Or.inr rfl
          · split
            · exact Or.inr rfl
            · exact Or.inl rfl
        have e2 : bt (if p = p1 then s.1 16 p ||| on1 (tM T) else if p = p0 then s.1 16 p ||| on1 (tM T) else s.1 16 p) m = bt (s.1 16 p) m := by
          rcases e with e | e
          · rw [e]
          · rw [e, ob']
        rw [e2, t10']
        constructor
        · intro z; exact ⟨by omega, z.2⟩
        · intro z; exact ⟨by omega, z.2⟩
    · rw [bt_hi (by omega)]
      constructor
      · intro z; cases z
      · intro z; omega
  · have hmm : m < tM T + 1 := hmm
    rw [ep, ep]
    have e1 : s'.1 (14 + 3) (2 * m) = if 2 * m = 2 * tM T + 1 then nI p1 else if 2 * m = 2 * tM T then nI p0 else s.1 17 (2 * m) := h17 (2 * m)
    have e2 : s'.1 (14 + 3) (2 * m + 1) = if 2 * m + 1 = 2 * tM T + 1 then nI p1 else if 2 * m + 1 = 2 * tM T then nI p0 else s.1 17 (2 * m + 1) := h17 (2 * m + 1)
    rw [e1, e2]
    by_cases h : m = tM T
    · have a1 : ¬ 2 * m = 2 * tM T + 1 := by omega
      have a2 : 2 * m = 2 * tM T := by omega
      have a3 : 2 * m + 1 = 2 * tM T + 1 := by omega
      rw [if_neg a1, if_pos a2, if_pos a3, if_pos h, if_pos h]
      exact ⟨rfl, rfl⟩
    · have a1 : ¬ 2 * m = 2 * tM T + 1 := by omega
      have a2 : ¬ 2 * m = 2 * tM T := by omega
      have a3 : ¬ 2 * m + 1 = 2 * tM T + 1 := by omega
      have a4 : ¬ 2 * m + 1 = 2 * tM T := by omega
      rw [if_neg a1, if_neg a2, if_neg a3, if_neg a4, if_neg h, if_neg h]
      exact t11 m (by omega)
  · have hmm : m < tM T + 1 := hmm
    show s'.1 18 m = (if m = tM T then x.1 else tOn T m)
    rw [h18]
    by_cases h : m = tM T
    · rw [if_pos h, if_pos h]
    · rw [if_neg h, if_neg h]; exact t12 m (by omega)
  · have hp : p < tP T := hp
    have hmm : m < tM T + 1 := hmm
    show s'.1 19 (8 * p + m) = (if tPa (tAddM T (nI p0) g0 (nI p1) g1 x) m 0 = p then (if m = tM T then (if 0 = 0 then g0 else g1) else tGa T m 0) else if tPa (tAddM T (nI p0) g0 (nI p1) g1 x) m 1 = p then (if m = tM T then (if 1 = 0 then g0 else g1) else tGa T m 1) else 0)
    rw [ep, ep, h19]
    by_cases h : m = tM T
    · simp only [h, if_true, show ¬ ((1 : Nat) = 0) by omega, if_false]
      by_cases a0 : p = p0
      · have c1 : ¬ 8 * p + tM T = 8 * p1 + tM T := by omega
        rw [if_neg c1, if_pos (by omega), if_pos a0.symm]
      · by_cases a1 : p = p1
        · rw [if_pos (by omega), if_neg (fun z => a0 z.symm), if_pos a1.symm]
        · rw [if_neg (by omega), if_neg (by omega), if_neg (fun z => a0 z.symm), if_neg (fun z => a1 z.symm)]
          exact u6 p (by omega) (tM T) (by omega) (Or.inr (Nat.le_refl _))
    · simp only [h, if_false]
      rw [if_neg (by omega), if_neg (by omega)]
      exact t13 p hp m (by omega)
  · have hq : tP T ≤ p := hq
    rw [h16, if_neg (by omega), if_neg (by omega)]
    exact u4 p hp hq
  · have hq : tM T + 1 ≤ m := hq
    rw [h18, if_neg (by omega)]
    exact u5 m hmm (by omega)
  · have hq : tP T ≤ p ∨ tM T + 1 ≤ m := hq
    rw [h19, if_neg (by omega), if_neg (by omega)]
    exact u6 p hp m hmm (by omega)
theorem md_W {s s' : xS} {T : Tw} {le sp fr : Int32} (hm : mdC s T) (h14 : ∀ k, k ≠ 1 → k ≠ 2 → k ≠ 3 → s'.1 14 k = s.1 14 k) (h1 : s'.1 14 1 = le) (h2 : s'.1 14 2 = sp) (h3 : s'.1 14 3 = fr) (ho : ∀ q, 14 < q → s'.1 q = s.1 q) : mdC s' (tWell T le sp fr) := by
  unfold mdC clsT at *
  rw [ho (14 + 1) (by omega), ho (14 + 2) (by omega), ho (14 + 3) (by omega), ho (14 + 4) (by omega), ho (14 + 5) (by omega), h14 0 (by omega) (by omega) (by omega), h14 4 (by omega) (by omega) (by omega), h14 5 (by omega) (by omega) (by omega), h14 6 (by omega) (by omega) (by omega), h14 7 (by omega) (by omega) (by omega), h14 8 (by omega) (by omega) (by omega)]
  obtain ⟨⟨⟨t0, t1, t2, t3, t4, t5⟩, t⟩, u⟩ := hm
  exact ⟨⟨⟨t0, h1, h2, h3, t4, t5⟩, t⟩, u⟩
theorem md_I {s : xS} {T : Tw} (hm : mdC s T) : mdC (s_p s 14 0 (s.1 14 0 + 1)) (tInc T) := by
  have o := oC_p s 14 0 (s.1 14 0 + 1)
  unfold mdC clsT at *
  rw [o.1 (14 + 1) (by omega), o.1 (14 + 2) (by omega), o.1 (14 + 3) (by omega), o.1 (14 + 4) (by omega), o.1 (14 + 5) (by omega), s_p_v, o.2.1 1 (by omega), o.2.1 2 (by omega), o.2.1 3 (by omega), o.2.1 4 (by omega), o.2.1 5 (by omega), o.2.1 6 (by omega), o.2.1 7 (by omega), o.2.1 8 (by omega)]
  obtain ⟨⟨⟨t0, t1, t2, t3, t4, t5⟩, t⟩, u⟩ := hm
  exact ⟨⟨⟨by rw [t0]; rfl, t1, t2, t3, t4, t5⟩, t⟩, u⟩
