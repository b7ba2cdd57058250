/-! WHAT IS TOLD: the TOWN that a TAPE tells, line by line (own work) -/
def shV (v : Int32) : Int32 := (1 : Int32) <<< (v &&& 31)
def tWell (T : Tw) (le sp fr : Int32) : Tw := (T.1, T.2.1, T.2.2.1, T.2.2.2.1, T.2.2.2.2.1, T.2.2.2.2.2.1, T.2.2.2.2.2.2.1, T.2.2.2.2.2.2.2.1, (tLi T, le, sp, fr))
def tInc (T : Tw) : Tw := (T.1, T.2.1, T.2.2.1, T.2.2.2.1, T.2.2.2.2.1, T.2.2.2.2.2.1, T.2.2.2.2.2.2.1, T.2.2.2.2.2.2.2.1, (tLi T + 1, T.2.2.2.2.2.2.2.2.2))
def tAddP (T : Tw) (c : Int32) (st : Bool) : Tw := ((tP T + 1, tM T), T.2.1, T.2.2.1, T.2.2.2.1, T.2.2.2.2.1, T.2.2.2.2.2.1, (fun p => if p = tP T then st else tSt T p), (fun p => if p = tP T then c else tCu T p), T.2.2.2.2.2.2.2.2)
def tAddM (T : Tw) (p0 g0 p1 g1 : Int32) (x : Int32 × Bool × Bool) : Tw := ((tP T, tM T + 1), (fun m k => if m = tM T then (if k = 0 then p0.toNatClampNeg else p1.toNatClampNeg) else tPa T m k), (fun m k => if m = tM T then (if k = 0 then g0 else g1) else tGa T m k), (fun m => if m = tM T then x.1 else tOn T m), (fun m => if m = tM T then x.2.1 else tDry T m), (fun m => if m = tM T then x.2.2 else tJug T m), T.2.2.2.2.2.2)
def t00 : Tw := ((0, 0), (fun _ _ => 0), (fun _ _ => 0), (fun _ => 0), (fun _ => false), (fun _ => false), (fun _ => false), (fun _ => 0), (0, 0, 0, 0))
section TOLD
variable (b : Nat → Int32) (n : Nat)
def onL (M : Nat) : Nat → Int32 → Tk → Int32 × Tk
  | 0, acc, t => (acc, t)
  | f + 1, acc, t => if (tkN b n (nI M - 1) (-1) t).2.2 = none ∧ kdT b n (tkN b n (nI M - 1) (-1) t).2.1 = 2 then onL M f (acc ||| shV (tkN b n (nI M - 1) (-1) t).1) (tkN b n (nI M - 1) (-1) t).2 else (acc ||| shV (tkN b n (nI M - 1) (-1) t).1, (tkN b n (nI M - 1) (-1) t).2)
def mkL (M : Nat) : Nat → Tk × Int32 × Bool × Bool → Tk × Int32 × Bool × Bool
  | 0, x => x
  | f + 1, x => if x.1.2 = none ∧ kdT b n x.1.1 ≠ 3 then
      (if isW b n 10 x.1.1 = true ∧ x.2.1 = 0 then mkL M f ((onL b n M 901 0 (nxT b n x.1.1, none)).2, (onL b n M 901 0 (nxT b n x.1.1, none)).1, x.2.2)
      else if isW b n 11 x.1.1 = true ∧ x.2.2.1 = false then mkL M f ((nxT b n x.1.1, none), x.2.1, true, x.2.2.2)
      else if isW b n 12 x.1.1 = true ∧ x.2.2.2 = false then mkL M f ((nxT b n x.1.1, none), x.2.1, x.2.2.1, true)
      else ((x.1.1, some (1, x.1.1)), x.2)) else x
def r0M (T : Tw) (t : Tk) : Int32 × Tk := tkN b n (nI (tP T) - 1) (-1) t
def r1M (T : Tw) (t : Tk) : Int32 × Tk := tkG b n (r0M b n T t).2
def r2M (T : Tw) (t : Tk) : Int32 × Tk := tkN b n (nI (tP T) - 1) (r0M b n T t).1 (r1M b n T t).2
def r3M (T : Tw) (t : Tk) : Int32 × Tk := tkG b n (r2M b n T t).2
def r4M (T : Tw) (t : Tk) : Tk × Int32 × Bool × Bool := mkL b n (tM T) 4 ((r3M b n T t).2, 0, false, false)
def rdM (T : Tw) (t : Tk) : Tk × Tw := ((r4M b n T t).1, tAddM T (r0M b n T t).1 (r1M b n T t).1 (r2M b n T t).1 (r3M b n T t).1 (r4M b n T t).2)
def r1P (t : Tk) : Int32 × Tk := tkN b n 9 (-1) (tkW b n 5 t)
def rdP (T : Tw) (t : Tk) : Tk × Tw := ((tkT b n 6 (r1P b n t).2).2, tAddP T (r1P b n t).1 (tkT b n 6 (r1P b n t).2).1)
def r1W (t : Tk) : Int32 × Tk := tkN b n 99 (-1) (tkW b n 1 (tkW b n 0 t))
def r2W (t : Tk) : Int32 × Tk := tkN b n 9 (-1) (tkW b n 2 (r1W b n t).2)
def r3W (t : Tk) : Int32 × Tk := tkN b n 100 (-1) (tkW b n 3 (r2W b n t).2)
def rdW (T : Tw) (t : Tk) : Tk × Tw := ((r3W b n t).2, tWell T (r1W b n t).1 (r2W b n t).1 (r3W b n t).1)
def rdN (T : Tw) (t : Tk) : Tk × Tw := if isW b n 4 t.1 = true then (if tP T < 6 then rdP b n T (nxT b n t.1, t.2) else ((t.1, some (3, t.1)), T)) else if isW b n 7 t.1 = true then (if tM T < 8 then rdM b n T (nxT b n t.1, t.2) else ((t.1, some (3, t.1)), T)) else ((t.1, some (1, t.1)), T)
def lnE (t : Tk) : Tk := if t.2 = none then (if kdT b n t.1 = 3 then (nxT b n t.1, none) else (t.1, some (1, t.1))) else t
def rdB (T : Tw) (t : Tk) : Tk × Tw := if tLi T = 0 then rdW b n T t else rdN b n T t
def rdL (T : Tw) (t : Tk) : Tk × Tw := (lnE b n (rdB b n T t).1, tInc (rdB b n T t).2)
def rdT : Nat → Tk × Tw → Tk × Tw
  | 0, x => x
  | f + 1, x => if x.1.2 = none ∧ kdT b n x.1.1 ≠ 0 then rdT f (rdL b n x.2 x.1) else x
end TOLD
section TOLD2
variable {b : Nat → Int32} {n : Nat}
theorem tkN_v {x u : Int32} {t : Tk} (h : (tkN b n x u t).2.2 = none) : t.2 = none ∧ kdT b n t.1 = 2 ∧ (tkN b n x u t).2 = (nxT b n t.1, none) ∧ ∃ j, (tkN b n x u t).1 = nI j ∧ j ≤ 1000 ∧ ¬ x < nI j ∧ nI j ≠ u := by
  unfold tkN at h ⊢
  by_cases h1 : t.2 = none
  · rw [if_pos h1] at h ⊢
    by_cases h2 : kdT b n t.1 = 2
    · rw [if_pos h2] at h ⊢
      by_cases h3 : x < nI (vT b n t.1) ∨ nI (vT b n t.1) = u
      · rw [if_pos h3] at h; cases h
      · rw [if_neg h3]
        refine ⟨h1, h2, rfl, vT b n t.1, rfl, vlT_b b 1000 _ _ _ (by omega), fun z => h3 (Or.inl z), fun z => h3 (Or.inr z)⟩
    · rw [if_neg h2] at h; cases h
  · rw [if_neg h1] at h; exact absurd h h1
theorem tkW_v {w : Nat} {t : Tk} (h : (tkW b n w t).2 = none) : t.2 = none ∧ isW b n w t.1 = true ∧ tkW b n w t = (nxT b n t.1, none) := by
  unfold tkW at h ⊢
  by_cases h1 : t.2 = none
  · rw [if_pos h1] at h ⊢
    by_cases h2 : isW b n w t.1 = true
    · rw [if_pos h2]; exact ⟨h1, h2, rfl⟩
    · rw [if_neg h2] at h; cases h
  · rw [if_neg h1] at h; exact absurd h h1
theorem tkT_v {w : Nat} {t : Tk} (h : (tkT b n w t).2.2 = none) : t.2 = none ∧ t.1 ≤ n → t.1 ≤ (tkT b n w t).2.1 := by
  intro h2
  unfold tkT
  split
  · exact (nxT_le h2.2).1
  · exact Nat.le_refl _
theorem nI_99 {h j : Nat} (hh : h < 2 ^ 31) (hj : j ≤ 1000) (z : ¬ nI h < nI j) : j ≤ h := by
  rw [nI_ltI hh (by omega)] at z
  omega
theorem i_rng {j h : Nat} (hj : j ≤ h) (hh : h < 2 ^ 31) : 0 ≤ nI j ∧ nI j ≤ nI h := ⟨nI_pos' (by omega), nI_le hj hh⟩
theorem nI_neg {j : Nat} (hj : j ≤ 99) : -99 ≤ -nI j ∧ -nI j ≤ 99 := by
  have : ∀ j, j ≤ 99 → -99 ≤ -nI j ∧ -nI j ≤ 99 := by decide
  exact this j hj
theorem tkG_v {t : Tk} (h : (tkG b n t).2.2 = none) (ht : t.1 ≤ n) : t.2 = none ∧ (-99 ≤ (tkG b n t).1 ∧ (tkG b n t).1 ≤ 99) ∧ t.1 ≤ (tkG b n t).2.1 := by
  unfold tkG at h ⊢
  by_cases hc : (decide (t.2 = none) && isW b n 8 t.1) = true
  · rw [if_pos hc] at h ⊢
    have h1 := hc
    rw [Bool.and_eq_true, decide_eq_true_eq] at h1
    obtain ⟨a1, a2, a3, j, a4, a5, a6, a7⟩ := tkN_v h
    have hj : j ≤ 99 := nI_99 (h := 99) (by omega) a5 a6
    refine ⟨h1.1, ?_, ?_⟩
    · show -99 ≤ -(tkN b n 99 (-1) (nxT b n t.1, t.2)).1 ∧ -(tkN b n 99 (-1) (nxT b n t.1, t.2)).1 ≤ 99
      rw [a4]; exact nI_neg hj
    · show t.1 ≤ (tkN b n 99 (-1) (nxT b n t.1, t.2)).2.1
      rw [a3]
      have h1 := nxT_le (b := b) ht
      have h2 := nxT_le (b := b) h1.2
      show t.1 ≤ nxT b n (nxT b n t.1)
      omega
  · rw [if_neg hc] at h ⊢
    obtain ⟨a1, a2, a3, j, a4, a5, a6, a7⟩ := tkN_v h
    obtain ⟨c1, c2, c3⟩ := tkW_v a1
    have hj : j ≤ 99 := nI_99 (h := 99) (by omega) a5 a6
    refine ⟨c1, ?_, ?_⟩
    · rw [a4]
      have := i_rng hj (by omega)
      exact ⟨Int32.le_trans (by decide) this.1, this.2⟩
    · rw [a3, c3]
      have h1 := nxT_le (b := b) ht
      have h2 := nxT_le (b := b) h1.2
      show t.1 ≤ nxT b n (nxT b n t.1)
      omega
theorem shV_b {j i : Nat} (hj : j < 32) (hi : i < 32) : bt (shV (nI j)) i = decide (i = j) := b_on hj hi
theorem bt_hi {x : Int32} {i : Nat} (hi : 32 ≤ i) : bt x i = false := by
  unfold bt
  exact BitVec.getLsbD_of_ge _ _ hi
theorem nI_pm {M j : Nat} (hM : M ≤ 8) (hj : j ≤ 1000) (z : ¬ nI M - 1 < nI j) : j < M := by
  rw [nI_pr (by omega), nI_leI (by omega) (by omega)] at z
  omega
/-- the MATTERS that one is on: told ahead of it, and not none -/
theorem onL_v {M : Nat} (hM : M ≤ 8) : ∀ (f : Nat) (acc : Int32) (t : Tk), 0 < f → (onL b n M f acc t).2.2 = none → t.1 ≤ n → (∀ i, bt acc i = true → i < M) → (∀ i, bt (onL b n M f acc t).1 i = true → i < M) ∧ (onL b n M f acc t).1 ≠ 0 ∧ t.1 ≤ (onL b n M f acc t).2.1 ∧ (onL b n M f acc t).2.1 ≤ n := by
  intro f
  induction f with
  | zero => intro acc t h; omega
  | succ f ih =>
    intro acc t _ h htn ha
    have step : (tkN b n (nI M - 1) (-1) t).2.2 = none → (∀ i, bt (acc ||| shV (tkN b n (nI M - 1) (-1) t).1) i = true → i < M) ∧ (acc ||| shV (tkN b n (nI M - 1) (-1) t).1) ≠ 0 ∧ t.1 ≤ (tkN b n (nI M - 1) (-1) t).2.1 ∧ (tkN b n (nI M - 1) (-1) t).2.1 ≤ n := fun hn => by
      obtain ⟨a1, a2, a3, j, a4, a5, a6, a7⟩ := tkN_v hn
      have hj := nI_pm hM a5 a6
      have hnx := nxT_le (b := b) htn
      refine ⟨fun i hi => ?_, fun z => ?_, by rw [a3]; exact hnx.1, by rw [a3]; exact hnx.2⟩
      · by_cases h32 : i < 32
        · rw [a4, b_or, shV_b (by omega) h32, Bool.or_eq_true, decide_eq_true_eq] at hi
          rcases hi with hi | hi
          · exact ha i hi
          · omega
        · rw [bt_hi (by omega)] at hi; cases hi
      · have := b_eq0.mp z j (by omega)
        rw [a4, b_or, shV_b (by omega) (by omega)] at this
        simp at this
    rw [onL] at h ⊢
    by_cases hc : (tkN b n (nI M - 1) (-1) t).2.2 = none ∧ kdT b n (tkN b n (nI M - 1) (-1) t).2.1 = 2
    · rw [if_pos hc] at h ⊢
      obtain ⟨s1, s2, s3, s4⟩ := step hc.1
      cases f with
      | zero => rw [onL]; exact ⟨s1, s2, s3, s4⟩
      | succ f =>
        obtain ⟨g1, g2, g3, g4⟩ := ih _ _ (by omega) h s4 s1
        exact ⟨g1, g2, by omega, g4⟩
    · rw [if_neg hc] at h ⊢
      exact step h
theorem mkL_v {M : Nat} (hM : M ≤ 8) : ∀ (f : Nat) (x : Tk × Int32 × Bool × Bool), (mkL b n M f x).1.2 = none → x.1.1 ≤ n → (∀ i, bt x.2.1 i = true → i < M) → x.1.2 = none ∧ (∀ i, bt (mkL b n M f x).2.1 i = true → i < M) ∧ x.1.1 ≤ (mkL b n M f x).1.1 ∧ (mkL b n M f x).1.1 ≤ n := by
  intro f
  induction f with
  | zero => intro x h hn ha; exact ⟨h, ha, Nat.le_refl _, hn⟩
  | succ f ih =>
    intro x h hn ha
    have hnx := nxT_le (b := b) hn
    rw [mkL] at h ⊢
    by_cases h0 : x.1.2 = none ∧ kdT b n x.1.1 ≠ 3
    · rw [if_pos h0] at h ⊢
      refine ⟨h0.1, ?_⟩
      by_cases h1 : isW b n 10 x.1.1 = true ∧ x.2.1 = 0
      · rw [if_pos h1] at h ⊢
        by_cases hof : (onL b n M 901 0 (nxT b n x.1.1, none)).2.2 = none
        · obtain ⟨g1, g2, g3, g4⟩ := onL_v hM 901 0 (nxT b n x.1.1, none) (by omega) hof hnx.2 (fun i hi => by rw [b_0] at hi; cases hi)
          obtain ⟨k1, k2, k3, k4⟩ := ih ((onL b n M 901 0 (nxT b n x.1.1, none)).2, (onL b n M 901 0 (nxT b n x.1.1, none)).1, x.2.2) h g4 g1
          refine ⟨k2, ?_, k4⟩
          have g3 : nxT b n x.1.1 ≤ (onL b n M 901 0 (nxT b n x.1.1, none)).2.1 := g3
          have k3 : (onL b n M 901 0 (nxT b n x.1.1, none)).2.1 ≤ _ := k3
          omega
        · have e : mkL b n M f ((onL b n M 901 0 (nxT b n x.1.1, none)).2, (onL b n M 901 0 (nxT b n x.1.1, none)).1, x.2.2) = ((onL b n M 901 0 (nxT b n x.1.1, none)).2, (onL b n M 901 0 (nxT b n x.1.1, none)).1, x.2.2) := by
            cases f with
            | zero => rfl
            | succ f => rw [mkL, if_neg (fun z => hof z.1)]
          rw [e] at h
          exact absurd h hof
      · rw [if_neg h1] at h ⊢
        by_cases h2 : isW b n 11 x.1.1 = true ∧ x.2.2.1 = false
        · rw [if_pos h2] at h ⊢
          obtain ⟨k1, k2, k3, k4⟩ := ih ((nxT b n x.1.1, none), x.2.1, true, x.2.2.2) h hnx.2 ha
          exact ⟨k2, Nat.le_trans hnx.1 k3, k4⟩
        · rw [if_neg h2] at h ⊢
          by_cases h3 : isW b n 12 x.1.1 = true ∧ x.2.2.2 = false
          · rw [if_pos h3] at h ⊢
            obtain ⟨k1, k2, k3, k4⟩ := ih ((nxT b n x.1.1, none), x.2.1, x.2.2.1, true) h hnx.2 ha
            exact ⟨k2, Nat.le_trans hnx.1 k3, k4⟩
          · rw [if_neg h3] at h; cases h
    · rw [if_neg h0] at h ⊢
      exact ⟨h, ha, Nat.le_refl _, hn⟩
end TOLD2
