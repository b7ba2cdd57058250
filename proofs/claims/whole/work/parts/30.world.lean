/-! BOTH OBJECTS against one world (own work) -/
/-- a row of numbers: its width, how many, the numbers -/
abbrev Sl : Type := Nat × Nat × (Nat → Int64)
/-- the TOWN, its ACTS, what has come of them; the TAPE, how much of it; the FAULT; the rows; the images -/
abbrev Wd : Type := (Tw × List Int32 × As) × ((Nat → Int32) × Nat × Int32 × Int32) × (Nat → Option Sl) × (Nat → Option (Tw × List Int32))
abbrev wT (W : Wd) : Tw := W.1.1
abbrev wAc (W : Wd) : List Int32 := W.1.2.1
abbrev wA (W : Wd) : As := W.1.2.2
abbrev wTp (W : Wd) : Nat → Int32 := W.2.1.1
abbrev wTn (W : Wd) : Nat := W.2.1.2.1
abbrev wFk (W : Wd) : Int32 := W.2.1.2.2.1
abbrev wFp (W : Wd) : Int32 := W.2.1.2.2.2
abbrev wSl (W : Wd) : Nat → Option Sl := W.2.2.1
abbrev wIm (W : Wd) : Nat → Option (Tw × List Int32) := W.2.2.2
def sOk (o : Option Sl) : Prop := ∀ z, o = some z → z.1 < 4 ∧ z.2.1 ≤ 60
def iOk (o : Option (Tw × List Int32)) : Prop := ∀ z, o = some z → tOk z.1 ∧ z.2.length ≤ 60 ∧ ∃ A, aRun z.1 (aBegin z.1) z.2 = some A
def wOk (W : Wd) : Prop := tOk (wT W) ∧ (wAc W).length ≤ 60 ∧ aRun (wT W) (aBegin (wT W)) (wAc W) = some (wA W) ∧ wTn W ≤ 900 ∧ (∀ i, -128 ≤ wTp W i ∧ wTp W i ≤ 127) ∧ (∀ i, i < 4 → sOk (wSl W i)) ∧ ∀ k, k < 3 → iOk (wIm W k)
/-- a row in the class -/
def slC (s : xS) (i : Nat) : Option Sl → Prop
  | none => s.1 (77 + 2 * i) 0 = 0
  | some z => s.1 (77 + 2 * i) 0 = 1 ∧ s.1 (77 + 2 * i) 1 = nI z.1 ∧ s.1 (77 + 2 * i) 2 = nI z.2.1 ∧ ∀ j, j < 60 → s.2 (78 + 2 * i) j = z.2.2 j
def imC (s : xS) (k : Nat) : Option (Tw × List Int32) → Prop
  | none => s.1 (86 + 8 * k) 0 = 0
  | some z => s.1 (86 + 8 * k) 0 = 1 ∧ clsT s (87 + 8 * k) z.1 ∧ s.1 (86 + 8 * k) 3 = nI z.2.length ∧ ∀ i, i < z.2.length → s.1 (93 + 8 * k) i = z.2.getD i 0
/-- the world in the class's cells -/
def cW (s : xS) (W : Wd) : Prop := (clsT s 3 (wT W) ∧ clsS s 9 (wT W) (wA W) ∧ s.1 1 6 = nI (wAc W).length ∧ ∀ i, i < (wAc W).length → s.1 12 i = (wAc W).getD i 0) ∧ (s.1 1 1 = nI (wTn W) ∧ (∀ i, i < 900 → s.1 2 i = wTp W i) ∧ s.1 13 6 = wFk W ∧ s.1 13 7 = wFp W) ∧ (∀ i, i < 4 → slC s i (wSl W i)) ∧ ∀ k, k < 3 → imC s k (wIm W k)
def slR (s : xS) (i : Nat) : Option Sl → Prop
  | none => s.1 127 i = -1
  | some z => s.1 127 i = nI z.2.1 ∧ s.1 128 i = nI z.1 ∧ ∀ j, j < 60 → s.2 129 (60 * i + j) = z.2.2 j
def imR (s : xS) (k : Nat) : Option (Tw × List Int32) → Prop
  | none => s.1 113 k = 0
  | some z => s.1 113 k = 1 ∧ refT s 112 (135 * k) z.1 ∧ s.1 112 (135 * k + 6) = nI z.2.length ∧ ∀ i, i < z.2.length → s.1 112 (135 * k + (75 + i)) = z.2.getD i 0
/-- the world in the reference's cells -/
def rW (s : xS) (W : Wd) : Prop := refW s (wT W) (wAc W) ∧ (s.1 110 5 = nI (wTn W) ∧ (∀ i, i < 900 → s.1 114 i = wTp W i) ∧ s.1 110 12 = wFk W ∧ s.1 110 13 = wFp W) ∧ (∀ i, i < 4 → slR s i (wSl W i)) ∧ ∀ k, k < 3 → imR s k (wIm W k)
/-- only the class's rows to reckon on differ -/
def keC (s s' : xS) : Prop := ∀ q, q < 20 ∨ 76 ≤ q → s'.1 q = s.1 q ∧ s'.2 q = s.2 q
theorem keC.rf {s : xS} : keC s s := fun _ _ => ⟨rfl, rfl⟩
theorem keC.tr {s s' s'' : xS} (h : keC s s') (h2 : keC s' s'') : keC s s'' := fun q hq => ⟨((h2 q hq).1).trans (h q hq).1, ((h2 q hq).2).trans (h q hq).2⟩
theorem clsT_at {s s' : xS} {T : Tw} {a : Nat} (h : ∀ q, a ≤ q → q ≤ a + 5 → s'.1 q = s.1 q) (hT : clsT s a T) : clsT s' a T := by
  unfold clsT at *
  rw [h a (by omega) (by omega), h (a + 1) (by omega) (by omega), h (a + 2) (by omega) (by omega), h (a + 3) (by omega) (by omega), h (a + 4) (by omega) (by omega), h (a + 5) (by omega) (by omega)]
  exact hT
theorem clsS_at {s s' : xS} {T : Tw} {A : As} {p : Nat} (h : ∀ q, p ≤ q → q ≤ p + 2 → s'.1 q = s.1 q) (hT : clsS s p T A) : clsS s' p T A := by
  unfold clsS at *
  rw [h p (by omega) (by omega), h (p + 1) (by omega) (by omega), h (p + 2) (by omega) (by omega)]
  exact hT
theorem slC_at {s s' : xS} {i : Nat} {o : Option Sl} (h1 : s'.1 (77 + 2 * i) = s.1 (77 + 2 * i)) (h2 : s'.2 (78 + 2 * i) = s.2 (78 + 2 * i)) (h : slC s i o) : slC s' i o := by
  cases o with
  | none => unfold slC at *; rw [h1]; exact h
  | some z => unfold slC at *; rw [h1, h2]; exact h
theorem imC_at {s s' : xS} {k : Nat} {o : Option (Tw × List Int32)} (h1 : ∀ q, 86 + 8 * k ≤ q → q ≤ 93 + 8 * k → s'.1 q = s.1 q) (h : imC s k o) : imC s' k o := by
  cases o with
  | none => unfold imC at *; rw [h1 _ (by omega) (by omega)]; exact h
  | some z =>
    unfold imC at *
    rw [h1 (86 + 8 * k) (by omega) (by omega), h1 (93 + 8 * k) (by omega) (by omega)]
    exact ⟨h.1, clsT_at (fun q a b => h1 q (by omega) (by omega)) h.2.1, h.2.2⟩
theorem cW_ke {s s' : xS} {W : Wd} (h : keC s s') (hC : cW s W) : cW s' W := by
  obtain ⟨⟨c1, c2, c3, c4⟩, ⟨d1, d2, d3, d4⟩, e, f⟩ := hC
  refine ⟨⟨clsT_at (fun q a b => (h q (by omega)).1) c1, clsS_at (fun q a b => (h q (by omega)).1) c2, ?_, ?_⟩, ⟨?_, ?_, ?_, ?_⟩, fun i hi => slC_at (h _ (by omega)).1 (h _ (by omega)).2 (e i hi), fun k hk => imC_at (fun q a b => (h q (by omega)).1) (f k hk)⟩
  · rw [(h 1 (by omega)).1]; exact c3
  · rw [(h 12 (by omega)).1]; exact c4
  · rw [(h 1 (by omega)).1]; exact d1
  · rw [(h 2 (by omega)).1]; exact d2
  · rw [(h 13 (by omega)).1]; exact d3
  · rw [(h 13 (by omega)).1]; exact d4
theorem keC_off {s s' : xS} {p : Nat} (hp : p ∈ g_SP) (h9 : p ≠ 9) (h : off3 s s' p) : keC s s' := by
  have : ∀ p ∈ g_SP, p ≠ 9 → 20 ≤ p ∧ p + 2 < 76 := by decide
  have h2 := this p hp h9
  exact fun q hq => ⟨h.1 q (by omega) (by omega) (by omega), by rw [h.2]⟩
/-- only the reference's rows to reckon on differ -/
def keR (s s' : xS) : Prop := (∀ q, q ≠ 110 → q < 115 ∨ 127 ≤ q → s'.1 q = s.1 q) ∧ (∀ k, k < 16 → s'.1 110 k = s.1 110 k) ∧ ∀ q, q ≠ 110 → q ≠ 130 → s'.2 q = s.2 q
theorem keR.rf {s : xS} : keR s s := ⟨fun _ _ _ => rfl, fun _ _ => rfl, fun _ _ _ => rfl⟩
theorem keR.tr {s s' s'' : xS} (h : keR s s') (h2 : keR s' s'') : keR s s'' := ⟨fun q a b => (h2.1 q a b).trans (h.1 q a b), fun k a => (h2.2.1 k a).trans (h.2.1 k a), fun q a b => (h2.2.2 q a b).trans (h.2.2 q a b)⟩
theorem offR.ke {s s' : xS} (h : offR s s') : keR s s' := ⟨fun q a b => h.1 q a (by omega) (by omega), fun k a => h.2.1 k (by omega) (by omega) (by omega), fun q _ _ => by rw [h.2.2]⟩
theorem refW_at {s s' : xS} {T : Tw} {l : List Int32} (h : s'.1 111 = s.1 111) (hR : refW s T l) : refW s' T l := by
  unfold refW refT at *
  rw [h]
  exact hR
theorem slR_at {s s' : xS} {i : Nat} {o : Option Sl} (h1 : s'.1 127 i = s.1 127 i) (h2 : s'.1 128 i = s.1 128 i) (h3 : ∀ j, j < 60 → s'.2 129 (60 * i + j) = s.2 129 (60 * i + j)) (h : slR s i o) : slR s' i o := by
  cases o with
  | none => unfold slR at *; rw [h1]; exact h
  | some z => unfold slR at *; rw [h1, h2]; exact ⟨h.1, h.2.1, fun j hj => (h3 j hj).trans (h.2.2 j hj)⟩
theorem imR_at {s s' : xS} {k : Nat} {o : Option (Tw × List Int32)} (h1 : s'.1 112 = s.1 112) (h2 : s'.1 113 = s.1 113) (h : imR s k o) : imR s' k o := by
  cases o with
  | none => unfold imR at *; rw [h2]; exact h
  | some z => unfold imR refT at *; rw [h1, h2]; exact h
theorem rW_ke {s s' : xS} {W : Wd} (h : keR s s') (hC : rW s W) : rW s' W := by
  obtain ⟨c1, ⟨d1, d2, d3, d4⟩, e, f⟩ := hC
  refine ⟨refW_at (h.1 111 (by omega) (by omega)) c1, ⟨?_, ?_, ?_, ?_⟩, fun i hi => slR_at (by rw [h.1 127 (by omega) (by omega)]) (by rw [h.1 128 (by omega) (by omega)]) (fun j _ => by rw [h.2.2 129 (by omega) (by omega)]) (e i hi), fun k hk => imR_at (h.1 112 (by omega) (by omega)) (h.1 113 (by omega) (by omega)) (f k hk)⟩
  · rw [h.2.1 5 (by omega)]; exact d1
  · rw [h.1 114 (by omega) (by omega)]; exact d2
  · rw [h.2.1 12 (by omega)]; exact d3
  · rw [h.2.1 13 (by omega)]; exact d4
/-- the class answers v, and the world is then W' -/
def cCall (P : Nat → List Value → Option Value) (k : Nat) (as : List Value) (W W' : Wd) (v : Int32) : Prop := ∀ (d : Nat) (xs : List Int32) (s : xS), 20 ≤ d → cW s W → ∃ s', x_ev g_M P d k (.ref 1 :: as) (mkH xs s) (some (.int v), mkH xs s') ∧ cW s' W' ∧ ∀ q, 110 ≤ q → s'.1 q = s.1 q ∧ s'.2 q = s.2 q
def rCall (P : Nat → List Value → Option Value) (k : Nat) (as : List Value) (W W' : Wd) (v : Int32) : Prop := ∀ (d : Nat) (xs : List Int32) (s : xS), 20 ≤ d → rW s W → ∃ s', x_ev g_M P d k (.ref 110 :: as) (mkH xs s) (some (.int v), mkH xs s') ∧ rW s' W' ∧ ∀ q, q < 110 → s'.1 q = s.1 q ∧ s'.2 q = s.2 q
section CALLS
variable {P : Nat → List Value → Option Value} {k : Nat} {as : List Value} {W : Wd} {v : Int32}
/-- a call that only asks -/
theorem cAsk (h : ∀ (d : Nat) (xs : List Int32) (s : xS), 20 ≤ d → cW s W → ∃ s', x_ev g_M P d k (.ref 1 :: as) (mkH xs s) (some (.int v), mkH xs s') ∧ keC s s') : cCall P k as W W v := by
  intro d xs s hd hC
  obtain ⟨s', e, o⟩ := h d xs s hd hC
  exact ⟨s', e, cW_ke o hC, fun q hq => o q (by omega)⟩
theorem cAsk0 (h : ∀ (d : Nat) (xs : List Int32) (s : xS), 20 ≤ d → cW s W → x_ev g_M P d k (.ref 1 :: as) (mkH xs s) (some (.int v), mkH xs s)) : cCall P k as W W v := cAsk (fun d xs s hd hC => ⟨s, h d xs s hd hC, keC.rf⟩)
theorem rAsk (h : ∀ (d : Nat) (xs : List Int32) (s : xS), 20 ≤ d → rW s W → ∃ s', x_ev g_M P d k (.ref 110 :: as) (mkH xs s) (some (.int v), mkH xs s') ∧ keR s s') : rCall P k as W W v := by
  intro d xs s hd hC
  obtain ⟨s', e, o⟩ := h d xs s hd hC
  exact ⟨s', e, rW_ke o hC, fun q hq => ⟨o.1 q (by omega) (by omega), o.2.2 q (by omega) (by omega)⟩⟩
theorem rAsk0 (h : ∀ (d : Nat) (xs : List Int32) (s : xS), 20 ≤ d → rW s W → x_ev g_M P d k (.ref 110 :: as) (mkH xs s) (some (.int v), mkH xs s)) : rCall P k as W W v := rAsk (fun d xs s hd hC => ⟨s, h d xs s hd hC, keR.rf⟩)
end CALLS
/-- one question, both answer alike -/
def ask2 (P : Nat → List Value → Option Value) (kc kr : Nat) (as : List Value) (W : Wd) : Prop := ∃ v, cCall P kc as W W v ∧ rCall P kr as W W v
theorem has_cs {n : Nat} (hn : n < 2 ^ 31) (x : Int32) : (if x < 0 then (0 : Int32) else if nI n ≤ x then 0 else 1) = 0 ∨ ∃ p, p < n ∧ x = nI p ∧ (if nI p < 0 then (0 : Int32) else if nI n ≤ nI p then 0 else 1) = 1 := by
  by_cases h1 : x < 0
  · left; rw [if_pos h1]
  · by_cases h2 : nI n ≤ x
    · left; rw [if_neg h1, if_pos h2]
    · right
      obtain ⟨p, hp, rfl⟩ := x_has hn h1 h2
      exact ⟨p, hp, rfl, by rw [if_neg h1, if_neg h2]⟩
theorem b_mkM {f : Nat → Bool} {i : Nat} (hi : i < 32) : ∀ n, n ≤ 32 → bt (mkM f n) i = (decide (i < n) && f i) := by
  intro n
  induction n with
  | zero => intro _; simp [mkM, b_0]
  | succ n ih =>
    intro hn
    rw [mkM]
    by_cases hf : f n = true
    · rw [if_pos hf, b_or, ih (by omega), b_on (by omega) hi]
      by_cases h1 : i = n
      · subst h1; simp [hf]
      · have : (i < n + 1) ↔ i < n := by omega
        simp [h1, this]
    · rw [if_neg hf, ih (by omega)]
      by_cases h1 : i = n
      · subst h1; simp at hf; simp [hf]
      · have : (i < n + 1) ↔ i < n := by omega
        simp [this]
theorem x_sw_n {n : Nat} (hn : n < 2 ^ 31) (ts : List Nat) (d : Nat) : x_sw (nI n) 0 ts d = ts.getD n d := by
  unfold x_sw
  rw [nI_toInt hn, if_neg (by omega)]
  simp
theorem x_sw_neg {x : Int32} (h : x < 0) (ts : List Nat) (d : Nat) : x_sw x 0 ts d = d := by
  unfold x_sw
  rw [if_pos]
  exact Int32.lt_iff_toInt_lt.mp h
