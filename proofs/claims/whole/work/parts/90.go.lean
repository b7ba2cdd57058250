/-! runs that can be reckoned out (own work) -/
def x_gz (M : xM) : Nat → Nat → Nat → xF → Option (Option Value × xH)
  | 0, _, _, _ => none
  | n + 1, d, j, f => match x_kind M j f with
    | some (.inl g) => x_gz M n d j g
    | some (.inr (.inl q)) => some q
    | some (.inr (.inr (k, as, g))) => match d with
      | 0 => none
      | d' + 1 => if x_pr M k = true then none else if x_wd as ≤ x_nL M k then (match x_gz M n d' k (0, x_ent (x_nL M k) as, [], g.2.2.2) with
        | some q => x_gz M n (d' + 1) j (g.1, g.2.1, q.1.toList ++ g.2.2.1, q.2)
        | none => none) else none
    | none => none
theorem x_gz_ok {M : xM} {P : Nat → List Value → Option Value} : ∀ (n d j : Nat) (f : xF) (r : Option Value × xH), x_gz M n d j f = some r → x_run (x_ev M P d) M j n f r := by
  intro n
  induction n with
  | zero => intro d j f r h; cases h
  | succ n ih =>
    intro d j f r h
    rw [x_gz] at h
    rw [x_run]
    cases hk : x_kind M j f with
    | none => rw [hk] at h; cases h
    | some q =>
      rw [hk] at h
      rcases q with g | q | ⟨k, as, g⟩
      · exact ih d j g r h
      · simp only [Option.some.injEq] at h
        exact h
      · cases d with
        | zero => cases h
        | succ d' =>
          simp only at h
          by_cases h1 : x_pr M k = true
          · rw [if_pos h1] at h; cases h
          · rw [if_neg h1] at h
            by_cases h2 : x_wd as ≤ x_nL M k
            · rw [if_pos h2] at h
              cases hg : x_gz M n d' k (0, x_ent (x_nL M k) as, [], g.2.2.2) with
              | none => rw [hg] at h; cases h
              | some q =>
                rw [hg] at h
                refine ⟨q, ?_, ih (d' + 1) j _ r h⟩
                rw [x_ev, if_neg h1]
                exact ⟨h2, n, ih d' k _ q hg⟩
            · rw [if_neg h2] at h; cases h
theorem x_gz_ev {P : Nat → List Value → Option Value} {n d k : Nat} {as : List Value} {h : xH} {q : Option Value × xH} (hp : x_pr g_M k = false) (hw : x_wd as ≤ x_nL g_M k) (hg : x_gz g_M n d k (0, x_ent (x_nL g_M k) as, [], h) = some q) : x_ev g_M P (d + 1) k as h q := by
  rw [x_ev, if_neg (by rw [hp]; decide)]
  exact ⟨hw, n, x_gz_ok n d k _ q hg⟩
