/-! WHAT IS TOLD is a TOWN (own work) -/
def tGd (T : Tw) (c : Nat) : Prop := tLi T = nI c ∧ tWf T ∧ (0 ≤ tLe T ∧ tLe T ≤ 99) ∧ (0 ≤ tSp T ∧ tSp T ≤ 9) ∧ (0 ≤ tFr T ∧ tFr T ≤ 100) ∧ (∀ p, p < tP T → 0 ≤ tCu T p ∧ tCu T p ≤ 9) ∧ (∀ m, m < tM T → ∀ k, k < 2 → -99 ≤ tGa T m k ∧ tGa T m k ≤ 99) ∧ (c = 0 → tP T = 0 ∧ tM T = 0)
theorem tGd_ok {T : Tw} {c : Nat} (h : tGd T c) (hc : c ≤ 900) : tOk T := by
  obtain ⟨h0, h1, h2, h3, h4, h5, h6, h7⟩ := h
  refine ⟨h1, h2, h3, h4, h5, h6, fun hp => ?_, ?_⟩
  · rw [h0]
    have : 0 < c := by
      rcases Nat.eq_zero_or_pos c with z | z
      · have := (h7 z).1; omega
      · exact z
    exact nI_lt (a := 0) this (by omega)
  · rw [h0]
    exact i_rng (h := 900) hc (by omega)
theorem t00_gd : tGd t00 0 := ⟨rfl, ⟨by decide, by decide, fun m h => absurd h (Nat.not_lt_zero _), fun m h => absurd h (Nat.not_lt_zero _)⟩, by decide, by decide, by decide, fun m h => absurd h (Nat.not_lt_zero _), fun m h => absurd h (Nat.not_lt_zero _), fun _ => ⟨rfl, rfl⟩⟩
section TOLD3
variable {b : Nat → Int32} {n : Nat}
theorem nx2 {i j : Nat} (h : i ≤ j) (hj : j ≤ n) : i ≤ nxT b n j ∧ nxT b n j ≤ n := by
  have := nxT_le (b := b) hj
  omega
theorem num_p {x u : Int32} {t : Tk} {w : Nat} (h : (tkN b n x u (tkW b n w t)).2.2 = none) (ht : t.1 ≤ n) : t.2 = none ∧ t.1 ≤ (tkN b n x u (tkW b n w t)).2.1 ∧ (tkN b n x u (tkW b n w t)).2.1 ≤ n := by
  obtain ⟨a1, a2, a3, -⟩ := tkN_v h
  obtain ⟨c1, c2, c3⟩ := tkW_v a1
  refine ⟨c1, ?_⟩
  rw [a3, c3]
  have h1 := nx2 (b := b) (Nat.le_refl _) ht
  exact nx2 h1.1 h1.2
theorem num_r {h : Nat} (hh : h < 2 ^ 31) {u : Int32} {t : Tk} (hn : (tkN b n (nI h) u t).2.2 = none) : 0 ≤ (tkN b n (nI h) u t).1 ∧ (tkN b n (nI h) u t).1 ≤ nI h := by
  obtain ⟨-, -, -, j, a4, a5, a6, -⟩ := tkN_v hn
  rw [a4]
  exact i_rng (nI_99 hh a5 a6) hh
theorem rdW_v {T : Tw} {c : Nat} {t : Tk} (h : (rdW b n T t).1.2 = none) (ht : t.1 ≤ n) (hT : tGd T c) : tGd (rdW b n T t).2 c ∧ t.1 ≤ (rdW b n T t).1.1 ∧ (rdW b n T t).1.1 ≤ n := by
  have h : (r3W b n t).2.2 = none := h
  have n3 : (r2W b n t).2.2 = none := (tkW_v (tkN_v h).1).1
  have n2 : (r1W b n t).2.2 = none := (tkW_v (tkN_v n3).1).1
  have n1 : (tkW b n 0 t).2 = none := (tkW_v (tkN_v n2).1).1
  have c1 := (tkW_v n1).2.2
  have p0 := nx2 (b := b) (Nat.le_refl _) ht
  have p1 := num_p (show (tkN b n 99 (-1) (tkW b n 1 (tkW b n 0 t))).2.2 = none from n2) (by rw [c1]; exact p0.2)
  have p2 := num_p (show (tkN b n 9 (-1) (tkW b n 2 (r1W b n t).2)).2.2 = none from n3) p1.2.2
  have p3 := num_p (show (tkN b n 100 (-1) (tkW b n 3 (r2W b n t).2)).2.2 = none from h) p2.2.2
  have p1 := p1.2
  rw [c1] at p1
  have q1 : nxT b n t.1 ≤ (r1W b n t).2.1 := by have := p1.1; unfold r1W; rw [c1]; exact this
  have q2 : (r1W b n t).2.1 ≤ (r2W b n t).2.1 := p2.2.1
  have q3 : (r2W b n t).2.1 ≤ (r3W b n t).2.1 := p3.2.1
  obtain ⟨h0, h1, h2, h3, h4, h5, h6, h7⟩ := hT
  refine ⟨⟨h0, h1, num_r (h := 99) (by omega) n2, num_r (h := 9) (by omega) n3, num_r (h := 100) (by omega) h, h5, h6, h7⟩, ?_, p3.2.2⟩
  show t.1 ≤ (r3W b n t).2.1
  omega
theorem rdP_v {T : Tw} {c : Nat} {t : Tk} (h : (rdP b n T t).1.2 = none) (ht : t.1 ≤ n) (hT : tGd T c) (hc : 0 < c) (h6 : tP T < 6) : tGd (rdP b n T t).2 c ∧ t.1 ≤ (rdP b n T t).1.1 ∧ (rdP b n T t).1.1 ≤ n := by
  have h : (tkT b n 6 (r1P b n t).2).2.2 = none := h
  have n1 : (r1P b n t).2.2 = none := by
    unfold tkT at h
    split at h
    · exact h
    · exact h
  have p1 := num_p (show (tkN b n 9 (-1) (tkW b n 5 t)).2.2 = none from n1) ht
  have p2 : (r1P b n t).2.1 ≤ (tkT b n 6 (r1P b n t).2).2.1 ∧ (tkT b n 6 (r1P b n t).2).2.1 ≤ n := by
    unfold tkT
    split
    · exact nx2 (Nat.le_refl _) p1.2.2
    · exact ⟨Nat.le_refl _, p1.2.2⟩
  have q1 : t.1 ≤ (r1P b n t).2.1 := p1.2.1
  obtain ⟨h0, ⟨w1, w2, w3, w4⟩, h2, h3, h4, h5, h6', h7⟩ := hT
  refine ⟨⟨h0, ⟨by show tP T + 1 ≤ 6; omega, w2, fun m hm => ?_, w4⟩, h2, h3, h4, fun p hp => ?_, h6', fun z => by omega⟩, ?_, p2.2⟩
  · have := w3 m hm
    exact ⟨Nat.lt_succ_of_lt this.1, Nat.lt_succ_of_lt this.2.1, this.2.2⟩
  · show 0 ≤ (if p = tP T then (r1P b n t).1 else tCu T p) ∧ (if p = tP T then (r1P b n t).1 else tCu T p) ≤ 9
    by_cases hp2 : p = tP T
    · rw [if_pos hp2]; exact num_r (h := 9) (by omega) n1
    · rw [if_neg hp2]
      have hp' : p < tP T + 1 := hp
      exact h5 p (by omega)
  · show t.1 ≤ (tkT b n 6 (r1P b n t).2).2.1
    omega
theorem rdM_n {T : Tw} {t : Tk} (h : (rdM b n T t).1.2 = none) (ht : t.1 ≤ n) (hT : tWf T) : (r0M b n T t).2.2 = none ∧ (r1M b n T t).2.2 = none ∧ (r2M b n T t).2.2 = none ∧ (r3M b n T t).2.2 = none ∧ t.1 ≤ (rdM b n T t).1.1 ∧ (rdM b n T t).1.1 ≤ n ∧ (∀ i, bt (r4M b n T t).2.1 i = true → i < tM T) ∧ (∃ j, j < tP T ∧ (r0M b n T t).1 = nI j) ∧ (∃ j, j < tP T ∧ (r2M b n T t).1 = nI j ∧ nI j ≠ (r0M b n T t).1) ∧ (-99 ≤ (r1M b n T t).1 ∧ (r1M b n T t).1 ≤ 99) ∧ (-99 ≤ (r3M b n T t).1 ∧ (r3M b n T t).1 ≤ 99) := by
  have h : (r4M b n T t).1.2 = none := h
  have nob : ∀ f (x : Tk × Int32 × Bool × Bool), (mkL b n (tM T) f x).1.2 = none → x.1.2 = none := fun f x hx => by
    cases f with
    | zero => exact hx
    | succ f =>
      rw [mkL] at hx
      by_cases h0 : x.1.2 = none ∧ kdT b n x.1.1 ≠ 3
      · exact h0.1
      · rw [if_neg h0] at hx; exact hx
  have n3 : (r3M b n T t).2.2 = none := nob _ _ h
  have w1 := hT.1
  have hg : ∀ u : Tk, (tkG b n u).2.2 = none → u.2 = none := fun u hu => by
    unfold tkG at hu
    by_cases hc : (decide (u.2 = none) && isW b n 8 u.1) = true
    · rw [Bool.and_eq_true, decide_eq_true_eq] at hc; exact hc.1
    · rw [if_neg hc] at hu; exact (tkW_v (tkN_v hu).1).1
  have n2 : (r2M b n T t).2.2 = none := hg _ n3
  have n1 : (r1M b n T t).2.2 = none := (tkN_v n2).1
  have n0 : (r0M b n T t).2.2 = none := hg _ n1
  obtain ⟨a1, a2, a3, j0, a4, a5, a6, a7⟩ := tkN_v n0
  have p0 : t.1 ≤ (r0M b n T t).2.1 ∧ (r0M b n T t).2.1 ≤ n := by
    show t.1 ≤ (tkN b n (nI (tP T) - 1) (-1) t).2.1 ∧ (tkN b n (nI (tP T) - 1) (-1) t).2.1 ≤ n
    rw [a3]; exact nx2 (Nat.le_refl _) ht
  have g1 := tkG_v (show (tkG b n (r0M b n T t).2).2.2 = none from n1) p0.2
  have ok1 : (r1M b n T t).2.1 ≤ n := by
    have : ∀ u : Tk, (tkG b n u).2.2 = none → u.1 ≤ n → (tkG b n u).2.1 ≤ n := fun u hu hun => by
      unfold tkG at hu ⊢
      by_cases hc : (decide (u.2 = none) && isW b n 8 u.1) = true
      · rw [if_pos hc] at hu ⊢
        have := (tkN_v hu).2.2.1
        show (tkN b n 99 (-1) (nxT b n u.1, u.2)).2.1 ≤ n
        rw [this]
        exact (nx2 (Nat.le_refl _) (nx2 (Nat.le_refl _) hun).2).2
      · rw [if_neg hc] at hu ⊢
        exact (num_p hu hun).2.2
    exact this _ n1 p0.2
  obtain ⟨c1, c2, c3, j2, c4, c5, c6, c7⟩ := tkN_v (show (tkN b n (nI (tP T) - 1) (r0M b n T t).1 (r1M b n T t).2).2.2 = none from n2)
  have p2 : (r1M b n T t).2.1 ≤ (r2M b n T t).2.1 ∧ (r2M b n T t).2.1 ≤ n := by
    show _ ≤ (tkN b n (nI (tP T) - 1) (r0M b n T t).1 (r1M b n T t).2).2.1 ∧ (tkN b n (nI (tP T) - 1) (r0M b n T t).1 (r1M b n T t).2).2.1 ≤ n
    rw [c3]; exact nx2 (Nat.le_refl _) ok1
  have g3 := tkG_v (show (tkG b n (r2M b n T t).2).2.2 = none from n3) p2.2
  have ok3 : (r3M b n T t).2.1 ≤ n := by
    have : ∀ u : Tk, (tkG b n u).2.2 = none → u.1 ≤ n → (tkG b n u).2.1 ≤ n := fun u hu hun => by
      unfold tkG at hu ⊢
      by_cases hc : (decide (u.2 = none) && isW b n 8 u.1) = true
      · rw [if_pos hc] at hu ⊢
        have := (tkN_v hu).2.2.1
        show (tkN b n 99 (-1) (nxT b n u.1, u.2)).2.1 ≤ n
        rw [this]
        exact (nx2 (Nat.le_refl _) (nx2 (Nat.le_refl _) hun).2).2
      · rw [if_neg hc] at hu ⊢
        exact (num_p hu hun).2.2
    exact this _ n3 p2.2
  obtain ⟨-, m1, m2, m3⟩ := mkL_v hT.2.1 4 ((r3M b n T t).2, 0, false, false) h ok3 (fun i hi => by rw [b_0] at hi; cases hi)
  refine ⟨n0, n1, n2, n3, ?_, m3, m1, ⟨j0, nI_pm (by omega) a5 a6, a4⟩, ⟨j2, nI_pm (by omega) c5 c6, c4, c7⟩, g1.2.1, g3.2.1⟩
  have z1 : (r0M b n T t).2.1 ≤ (r1M b n T t).2.1 := g1.2.2
  have z3 : (r2M b n T t).2.1 ≤ (r3M b n T t).2.1 := g3.2.2
  have z4 : (r3M b n T t).2.1 ≤ (rdM b n T t).1.1 := m2
  omega
theorem rdM_v {T : Tw} {c : Nat} {t : Tk} (h : (rdM b n T t).1.2 = none) (ht : t.1 ≤ n) (hT : tGd T c) (hc : 0 < c) (h8 : tM T < 8) : tGd (rdM b n T t).2 c ∧ t.1 ≤ (rdM b n T t).1.1 ∧ (rdM b n T t).1.1 ≤ n := by
  obtain ⟨n0, n1, n2, n3, q1, q2, q3, ⟨j0, q4, q5⟩, ⟨j2, q6, q7, q8⟩, q9, q10⟩ := rdM_n h ht hT.2.1
  obtain ⟨h0, ⟨w1, w2, w3, w4⟩, h2, h3, h4, h5, h6, h7⟩ := hT
  refine ⟨⟨h0, ⟨w1, by show tM T + 1 ≤ 8; omega, fun m hm => ?_, fun m hm i hi => ?_⟩, h2, h3, h4, h5, fun m hm k hk => ?_, fun z => by omega⟩, q1, q2⟩
  · have hm : m < tM T + 1 := hm
    show (if m = tM T then (if 0 = 0 then (r0M b n T t).1.toNatClampNeg else (r2M b n T t).1.toNatClampNeg) else tPa T m 0) < tP T ∧ (if m = tM T then (if 1 = 0 then (r0M b n T t).1.toNatClampNeg else (r2M b n T t).1.toNatClampNeg) else tPa T m 1) < tP T ∧ (if m = tM T then (if 0 = 0 then (r0M b n T t).1.toNatClampNeg else (r2M b n T t).1.toNatClampNeg) else tPa T m 0) ≠ (if m = tM T then (if 1 = 0 then (r0M b n T t).1.toNatClampNeg else (r2M b n T t).1.toNatClampNeg) else tPa T m 1)
    by_cases hm2 : m = tM T
    · simp only [hm2, if_true, show ¬ ((1 : Nat) = 0) by omega, if_false]
      rw [q5] at q8
      rw [q5, q7, nI_clamp (by omega), nI_clamp (by omega)]
      refine ⟨q4, q6, fun z => q8 (by rw [z])⟩
    · simp only [hm2, if_false]
      exact w3 m (by omega)
  · have hm : m < tM T + 1 := hm
    have hi : bt (if m = tM T then (r4M b n T t).2.1 else tOn T m) i = true := hi
    by_cases hm2 : m = tM T
    · rw [if_pos hm2] at hi; rw [hm2]; exact q3 i hi
    · rw [if_neg hm2] at hi; exact w4 m (by omega) i hi
  · have hm : m < tM T + 1 := hm
    show -99 ≤ (if m = tM T then (if k = 0 then (r1M b n T t).1 else (r3M b n T t).1) else tGa T m k) ∧ (if m = tM T then (if k = 0 then (r1M b n T t).1 else (r3M b n T t).1) else tGa T m k) ≤ 99
    by_cases hm2 : m = tM T
    · rw [if_pos hm2]
      by_cases hk2 : k = 0
      · rw [if_pos hk2]; exact q9
      · rw [if_neg hk2]; exact q10
    · rw [if_neg hm2]; exact h6 m (by omega) k hk
theorem rdB_v {T : Tw} {c : Nat} {t : Tk} (h : (rdB b n T t).1.2 = none) (ht : t.1 ≤ n) (hc : c < 2 ^ 31) (hT : tGd T c) : tGd (rdB b n T t).2 c ∧ t.1 ≤ (rdB b n T t).1.1 ∧ (rdB b n T t).1.1 ≤ n := by
  have h0 := hT.1
  unfold rdB at h ⊢
  by_cases hl : tLi T = 0
  · rw [if_pos hl] at h ⊢
    exact rdW_v h ht hT
  · rw [if_neg hl] at h ⊢
    have hc0 : 0 < c := by
      rcases Nat.eq_zero_or_pos c with z | z
      · rw [h0, z] at hl; exact absurd rfl hl
      · exact z
    have p := nx2 (b := b) (Nat.le_refl _) ht
    unfold rdN at h ⊢
    by_cases w4 : isW b n 4 t.1 = true
    · rw [if_pos w4] at h ⊢
      by_cases h6 : tP T < 6
      · rw [if_pos h6] at h ⊢
        obtain ⟨a1, a2, a3⟩ := rdP_v h p.2 hT hc0 h6
        exact ⟨a1, Nat.le_trans p.1 a2, a3⟩
      · rw [if_neg h6] at h; cases h
    · rw [if_neg w4] at h ⊢
      by_cases w7 : isW b n 7 t.1 = true
      · rw [if_pos w7] at h ⊢
        by_cases h8 : tM T < 8
        · rw [if_pos h8] at h ⊢
          obtain ⟨a1, a2, a3⟩ := rdM_v h p.2 hT hc0 h8
          exact ⟨a1, Nat.le_trans p.1 a2, a3⟩
        · rw [if_neg h8] at h; cases h
      · rw [if_neg w7] at h; cases h
theorem rdL_v {T : Tw} {c : Nat} {t : Tk} (h : (rdL b n T t).1.2 = none) (ht : t.1 ≤ n) (hc : c < 2 ^ 31) (hT : tGd T c) : tGd (rdL b n T t).2 (c + 1) ∧ t.1 < (rdL b n T t).1.1 ∧ (rdL b n T t).1.1 ≤ n := by
  have h : (lnE b n (rdB b n T t).1).2 = none := h
  have hb : (rdB b n T t).1.2 = none := by
    unfold lnE at h
    by_cases z : (rdB b n T t).1.2 = none
    · exact z
    · rw [if_neg z] at h; exact h
  obtain ⟨a1, a2, a3⟩ := rdB_v hb ht hc hT
  have hk : kdT b n (rdB b n T t).1.1 = 3 := by
    unfold lnE at h
    rw [if_pos hb] at h
    by_cases z : kdT b n (rdB b n T t).1.1 = 3
    · exact z
    · rw [if_neg z] at h; cases h
  have e : lnE b n (rdB b n T t).1 = (nxT b n (rdB b n T t).1.1, none) := by unfold lnE; rw [if_pos hb, if_pos hk]
  have hlt : (rdB b n T t).1.1 < n := kdT_i (b := b) (by rw [hk]; decide)
  have h1 := enT_gt (b := b) hlt
  have h2 := skT_le (b := b) (enT_le (b := b) a3).2
  obtain ⟨g0, g1, g2, g3, g4, g5, g6, g7⟩ := a1
  refine ⟨⟨?_, g1, g2, g3, g4, g5, g6, fun z => by omega⟩, ?_⟩
  · show tLi (rdB b n T t).2 + 1 = nI (c + 1)
    rw [g0, nI_1]
  · show t.1 < (lnE b n (rdB b n T t).1).1 ∧ (lnE b n (rdB b n T t).1).1 ≤ n
    rw [e]
    show t.1 < skT b n (enT b n (rdB b n T t).1.1) ∧ skT b n (enT b n (rdB b n T t).1.1) ≤ n
    omega
end TOLD3
