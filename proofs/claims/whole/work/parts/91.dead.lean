/-! runs in which the script's cell is not looked at (own work) -/
abbrev xDD : xC := xI 7 []
/-- the cell 0 is another -/
def x_rp (c : xC) (k : xK) : xK := match k with
  | .inl g => .inl (g.1, g.2.1, g.2.2.1, g.2.2.2.set 0 c)
  | .inr (.inl q) => .inr (.inl (q.1, q.2.set 0 c))
  | .inr (.inr (k, as, g)) => .inr (.inr (k, as, (g.1, g.2.1, g.2.2.1, g.2.2.2.set 0 c)))
def x_Sim (c : xC) (a b : Option xK) : Prop := ∀ k, a = some k → b = some (x_rp c k) ∧ (x_hp k)[0]? = some xDD
section DEAD
variable {c : xC} {xs : List Int32} {M : xM} {j pc : Nat} {L : List (Option Value)} {st : List Value} {h : xH}
theorem dm_no {b : Option xK} : x_Sim c none b := fun k hk => by cases hk
theorem dm_n (h0 : h[0]? = some xDD) : x_Sim c (x_n pc L st h) (x_n pc L st (h.set 0 c)) := by
  intro k hk
  obtain rfl : _ = k := Option.some.inj hk
  exact ⟨rfl, h0⟩
theorem dm_ret {v : Option Value} (h0 : h[0]? = some xDD) : x_Sim c (x_ret v h) (x_ret v (h.set 0 c)) := by
  intro k hk
  obtain rfl : _ = k := Option.some.inj hk
  exact ⟨rfl, h0⟩
theorem dm_call {q : Nat} {as : List Value} (h0 : h[0]? = some xDD) : x_Sim c (x_call q as pc L st h) (x_call q as pc L st (h.set 0 c)) := by
  intro k hk
  obtain rfl : _ = k := Option.some.inj hk
  exact ⟨rfl, h0⟩
theorem dm_ite {p : Prop} [hp : Decidable p] {a a' b b' : Option xK} (h1 : p → x_Sim c a a') (h2 : ¬ p → x_Sim c b b') : x_Sim c (if p then a else b) (if p then a' else b') := by
  by_cases q : p
  · rw [if_pos q, if_pos q]; exact h1 q
  · rw [if_neg q, if_neg q]; exact h2 q
theorem dm_i1 {g g' : Int32 → List Value → Option xK} (hg : ∀ x st, x_Sim c (g x st) (g' x st)) : x_Sim c (x_i1 st g) (x_i1 st g') := by
  intro k hk
  obtain ⟨x, st', rfl, hk⟩ := x_i1_s hk
  exact hg x st' k hk
theorem dm_r1 {g g' : Nat → List Value → Option xK} (hg : ∀ x st, x_Sim c (g x st) (g' x st)) : x_Sim c (x_r1 st g) (x_r1 st g') := by
  intro k hk
  obtain ⟨x, st', rfl, hk⟩ := x_r1_s hk
  exact hg x st' k hk
theorem dm_i2 {g g' : Int32 → Int32 → List Value → Option xK} (hg : ∀ x y st, x_Sim c (g x y st) (g' x y st)) : x_Sim c (x_i2 st g) (x_i2 st g') := by
  intro k hk
  obtain ⟨x, y, st', rfl, hk⟩ := x_i2_s hk
  exact hg x y st' k hk
theorem dm_rii {g g' : Nat → Int32 → Int32 → List Value → Option xK} (hg : ∀ x i v st, x_Sim c (g x i v st) (g' x i v st)) : x_Sim c (x_rii st g) (x_rii st g') := by
  intro k hk
  obtain ⟨x, i, v, st', rfl, hk⟩ := x_rii_s hk
  exact hg x i v st' k hk
theorem dm_rir {g g' : Nat → Int32 → Nat → List Value → Option xK} (hg : ∀ x i v st, x_Sim c (g x i v st) (g' x i v st)) : x_Sim c (x_rir st g) (x_rir st g') := by
  intro k hk
  obtain ⟨x, i, v, st', rfl, hk⟩ := x_rir_s hk
  exact hg x i v st' k hk
theorem dm_vr {g g' : Value → Nat → List Value → Option xK} (hg : ∀ v x st, x_Sim c (g v x st) (g' v x st)) : x_Sim c (x_vr st g) (x_vr st g') := by
  intro k hk
  obtain ⟨v, x, st', rfl, hk⟩ := x_vr_s hk
  exact hg v x st' k hk
theorem dm_v1 {g g' : Value → List Value → Option xK} (hg : ∀ v st, x_Sim c (g v st) (g' v st)) : x_Sim c (x_v1 st g) (x_v1 st g') := by
  intro k hk
  obtain ⟨v, st', rfl, hc, hk⟩ := x_v1_s hk
  unfold x_v1
  simp only [hc, if_true]
  exact hg v st' k hk
theorem dm_ldi {i : Nat} {g g' : Int32 → Option xK} (hg : ∀ x, x_Sim c (g x) (g' x)) : x_Sim c (x_ldi L i g) (x_ldi L i g') := by
  intro k hk
  obtain ⟨x, hl, hk⟩ := x_ldi_s hk
  unfold x_ldi
  rw [hl]
  exact hg x k hk
theorem dm_lda {i : Nat} {g g' : Nat → Option xK} (hg : ∀ x, x_Sim c (g x) (g' x)) : x_Sim c (x_lda L i g) (x_lda L i g') := by
  intro k hk
  obtain ⟨x, hl, hk⟩ := x_lda_s hk
  unfold x_lda
  rw [hl]
  exact hg x k hk
theorem dm_sto {i : Nat} {v : Value} (h0 : h[0]? = some xDD) : x_Sim c (x_sto L i v pc st h) (x_sto L i v pc st (h.set 0 c)) := by
  intro k hk
  obtain ⟨hl, rfl⟩ := x_sto_s hk
  unfold x_sto
  rw [if_pos hl]
  exact ⟨rfl, h0⟩
theorem dm_tg {off : Int} (h0 : h[0]? = some xDD) : x_Sim c (x_tg pc off L st h) (x_tg pc off L st (h.set 0 c)) := by
  unfold x_tg
  exact dm_ite (fun _ => dm_n h0) (fun _ => dm_no)
theorem dm_br {off : Int} {cd : Bool} (h0 : h[0]? = some xDD) : x_Sim c (x_br pc off cd L st h) (x_br pc off cd L st (h.set 0 c)) := by
  unfold x_br
  exact dm_ite (fun _ => dm_ite (fun _ => dm_n h0) (fun _ => dm_n h0)) (fun _ => dm_no)
theorem dm_get {r : Nat} (hr : r ≠ 0) : (h.set 0 c)[r]? = h[r]? := by
  rw [List.getElem?_set, if_neg (fun e => hr e.symm)]
theorem dm_ob {r ci : Nat} {g g' : List Value → Option xK} (h0 : h[0]? = some xDD) (hg : ∀ fs, r ≠ 0 → x_Sim c (g fs) (g' fs)) : x_Sim c (x_ob h r ci g) (x_ob (h.set 0 c) r ci g') := by
  intro k hk
  obtain ⟨fs, hr, hk⟩ := x_ob_s hk
  have hr0 : r ≠ 0 := by
    rintro rfl
    rw [h0] at hr
    cases hr
  unfold x_ob
  rw [dm_get hr0, hr]
  simp only [if_true]
  exact hg fs hr0 k hk
theorem dm_rq0 {r : Nat} {g g' : Nat → List (Option Nat) → Option xK} (h0 : h[0]? = some xDD) (hg : ∀ kd rs, r ≠ 0 → x_Sim c (g kd rs) (g' kd rs)) : x_Sim c (x_rq0 h r g) (x_rq0 (h.set 0 c) r g') := by
  intro k hk
  obtain ⟨kd, rs, hr, hk⟩ := x_rq0_s hk
  have hr0 : r ≠ 0 := by
    rintro rfl
    rw [h0] at hr
    cases hr
  unfold x_rq0
  rw [dm_get hr0, hr]
  exact hg kd rs hr0 k hk
theorem dm_ri0 {r : Nat} {g g' : Nat → List Int32 → Option xK} (h0 : h[0]? = some xDD) (hz : g 7 [] = none) (hg : ∀ kd rs, r ≠ 0 → x_Sim c (g kd rs) (g' kd rs)) : x_Sim c (x_ri0 h r g) (x_ri0 (h.set 0 c) r g') := by
  intro k hk
  obtain ⟨kd, rs, hr, hk⟩ := x_ri0_s hk
  have hr0 : r ≠ 0 := by
    rintro rfl
    rw [h0] at hr
    cases hr
    rw [hz] at hk
    cases hk
  unfold x_ri0
  rw [dm_get hr0, hr]
  exact hg kd rs hr0 k hk
theorem dm_at {α : Type} {rs : List α} {i : Int32} {g g' : α → Option xK} (hg : ∀ x, x_Sim c (g x) (g' x)) : x_Sim c (x_at' rs i g) (x_at' rs i g') := by
  unfold x_at'
  refine dm_ite (fun _ => dm_no) (fun _ => ?_)
  cases rs[i.toNatClampNeg]? with
  | none => exact dm_no
  | some x => exact hg x
theorem dm_made {d : xC} {g g' : Nat → xH → Option xK} (h0 : h[0]? = some xDD) (hg : ∀ a h1, h1[0]? = some xDD → x_Sim c (g a h1) (g' a (h1.set 0 c))) : x_Sim c (x_made h d g) (x_made (h.set 0 c) d g') := by
  intro k hk
  obtain ⟨hl, hk⟩ := x_made_s hk
  have hp : 0 < h.length := (List.getElem?_eq_some_iff.mp h0).1
  have h1 : (h ++ [d])[0]? = some xDD := by rw [List.getElem?_append_left hp]; exact h0
  have e : h.set 0 c ++ [d] = (h ++ [d]).set 0 c := by
    cases h with
    | nil => cases h0
    | cons a t => rfl
  unfold x_made
  rw [List.length_set, if_pos hl, e]
  exact hg _ _ h1 k hk
theorem dm_set {r : Nat} {d : xC} (hr : r ≠ 0) (h0 : h[0]? = some xDD) : x_Sim c (x_n pc L st (h.set r d)) (x_n pc L st ((h.set 0 c).set r d)) := by
  rw [List.set_comm _ _ (fun e => hr e.symm)]
  exact dm_n (by rw [List.getElem?_set, if_neg hr]; exact h0)
theorem dm_cls {r ci : Nat} (h0 : h[0]? = some xDD) : x_cls (h.set 0 (xI 9 xs)) r ci = x_cls h r ci := by
  unfold x_cls
  by_cases hr : r = 0
  · subst hr
    have hp : 0 < h.length := (List.getElem?_eq_some_iff.mp h0).1
    rw [h0, List.getElem?_set, if_pos rfl, if_pos hp]
  · rw [dm_get hr]
theorem dm_cut {n : Nat} {g g' : List Value → List Value → Option xK} (hg : ∀ a r, x_Sim c (g a r) (g' a r)) : x_Sim c (x_cut n st g) (x_cut n st g') := by
  unfold x_cut
  exact dm_ite (fun _ => hg _ _) (fun _ => dm_no)
theorem dm_hd {as : List Value} {g g' : Nat → Option xK} (hg : ∀ r, x_Sim c (g r) (g' r)) : x_Sim c (x_hd as g) (x_hd as g') := by
  intro k hk
  obtain ⟨r, t, rfl, hk⟩ := x_hd_s hk
  exact hg r k hk
theorem dm_spec {k : Nat} (h0 : h[0]? = some xDD) : x_Sim c (x_spec M k pc L st h) (x_spec M k pc L st (h.set 0 c)) := by
  unfold x_spec
  exact dm_cut (fun a r => dm_hd (fun _ => dm_call h0))
/-- the instructions of the constructors -/
def x_wl (i : Instr) : Bool := match i with
  | .iconst _ => true
  | .bipush _ => true
  | .sipush _ => true
  | .iload_n _ => true
  | .iload _ => true
  | .aload_n _ => true
  | .istore_n _ => true
  | .istore _ => true
  | .astore_n _ => true
  | .iinc _ _ => true
  | .dup => true
  | .if_icmp _ _ => true
  | .goto _ => true
  | .getfield _ => true
  | .putfield _ => true
  | .new _ => true
  | .newarray _ => true
  | .anewarray _ => true
  | .iastore => true
  | .aastore => true
  | .invokespecial _ => true
  | .return_ => true
  | _ => false
theorem x_ins_rp {i : Instr} (hw : x_wl i = true) (h0 : h[0]? = some xDD) : x_Sim (xI 9 xs) (x_ins M j i pc L st h) (x_ins M j i pc L st (h.set 0 (xI 9 xs))) := by
  cases i with
  | iconst z => exact dm_n h0
  | bipush z => exact dm_n h0
  | sipush z => exact dm_n h0
  | iload_n z => exact dm_ldi (fun x => dm_n h0)
  | iload z => exact dm_ldi (fun x => dm_n h0)
  | aload_n z => exact dm_lda (fun x => dm_n h0)
  | istore_n z => exact dm_i1 (fun x st => dm_sto h0)
  | istore z => exact dm_i1 (fun x st => dm_sto h0)
  | astore_n z => exact dm_r1 (fun x st => dm_sto h0)
  | iinc z y => exact dm_ldi (fun x => dm_sto h0)
  | dup => exact dm_v1 (fun v st => dm_n h0)
  | if_icmp z off => exact dm_i2 (fun x y st => dm_br h0)
  | goto z => exact dm_tg h0
  | getfield z =>
    refine dm_r1 (fun r st => ?_)
    split
    · refine dm_ob h0 (fun fs _ => ?_)
      split
      · exact dm_n h0
      · exact dm_no
    · exact dm_no
  | putfield z =>
    refine dm_vr (fun v r st => ?_)
    split
    · exact dm_ob h0 (fun fs hr => dm_ite (fun _ => dm_set hr h0) (fun _ => dm_no))
    · exact dm_no
  | new z =>
    simp only [x_ins]
    split
    · exact dm_made h0 (fun a h1 hh => dm_n hh)
    · exact dm_no
  | newarray ty =>
    refine dm_i1 (fun n st => dm_ite (fun _ => dm_no) (fun _ => ?_))
    cases ty with
    | int => exact dm_made h0 (fun a h1 hh => dm_n hh)
    | byte => exact dm_made h0 (fun a h1 hh => dm_n hh)
    | boolean => exact dm_made h0 (fun a h1 hh => dm_n hh)
    | long => exact dm_made h0 (fun a h1 hh => dm_n hh)
    | _ => exact dm_no
  | anewarray z =>
    refine dm_i1 (fun n st => dm_ite (fun _ => dm_no) (fun _ => ?_))
    split
    · exact dm_made h0 (fun a h1 hh => dm_n hh)
    · exact dm_no
  | iastore =>
    refine dm_rii (fun r i v st => dm_ri0 h0 (if_neg (by decide)) (fun kd rs hr => dm_ite (fun _ => dm_at (fun _ => dm_set hr h0)) (fun _ => dm_no)))
  | aastore =>
    refine dm_rir (fun r i v st => dm_rq0 h0 (fun kd rs hr => ?_))
    simp only [dm_cls h0]
    split
    · exact dm_ite (fun _ => dm_at (fun _ => dm_set hr h0)) (fun _ => dm_no)
    · exact dm_no
  | invokespecial z =>
    simp only [x_ins]
    split
    · exact dm_spec h0
    · exact dm_spec h0
    · exact dm_r1 (fun _ st => dm_ite (fun _ => dm_n h0) (fun _ => dm_no))
    · exact dm_no
  | return_ =>
    simp only [x_ins]
    split
    · exact dm_ite (fun _ => dm_ret h0) (fun _ => dm_no)
    · exact dm_no
  | _ => cases hw
end DEAD
/-- a run reckoned out, up to a place of the outermost frame, or to its return -/
def x_gy (M : xM) : Nat → Nat → Nat → Nat → xF → Option (xF ⊕ (Option Value × xH))
  | 0, _, _, _, _ => none
  | n + 1, stop, d, j, f => if f.1 = stop then some (.inl f) else match x_fe M j f.1 with
    | none => none
    | some i => if x_wl i = true then (match x_ins M j i f.1 f.2.1 f.2.2.1 f.2.2.2 with
      | some (.inl g) => x_gy M n stop d j g
      | some (.inr (.inl q)) => some (.inr q)
      | some (.inr (.inr (k, as, g))) => (match d with
        | 0 => none
        | d' + 1 => if x_pr M k = true then none else if x_wd as ≤ x_nL M k then (match x_gy M n 99999 d' k (0, x_ent (x_nL M k) as, [], g.2.2.2) with
          | some (.inr q) => x_gy M n stop (d' + 1) j (g.1, g.2.1, q.1.toList ++ g.2.2.1, q.2)
          | _ => none) else none)
      | none => none) else none
abbrev x_rF (c : xC) (f : xF) : xF := (f.1, f.2.1, f.2.2.1, f.2.2.2.set 0 c)
theorem x_gy_ok {P : Nat → List Value → Option Value} {xs : List Int32} : ∀ (n stop d j : Nat) (f : xF) (res : xF ⊕ (Option Value × xH)), x_gy g_M n stop d j f = some res → f.2.2.2[0]? = some xDD → (∀ g, res = .inl g → ∀ r, x_R (x_ev g_M P d) j (x_rF (xI 9 xs) g) r → x_R (x_ev g_M P d) j (x_rF (xI 9 xs) f) r) ∧ (∀ q, res = .inr q → q.2[0]? = some xDD ∧ x_R (x_ev g_M P d) j (x_rF (xI 9 xs) f) (q.1, q.2.set 0 (xI 9 xs))) := by
  intro n
  induction n with
  | zero => intro stop d j f res h; cases h
  | succ n ih =>
    intro stop d j f res h h0
    rw [x_gy] at h
    by_cases hs : f.1 = stop
    · rw [if_pos hs] at h
      cases h
      exact ⟨fun g hg r hr => by cases hg; exact hr, fun q hq => by cases hq⟩
    · rw [if_neg hs] at h
      cases hi : x_fe g_M j f.1 with
      | none => rw [hi] at h; cases h
      | some i =>
        rw [hi] at h
        simp only at h
        by_cases hw : x_wl i = true
        · rw [if_pos hw] at h
          cases hk : x_ins g_M j i f.1 f.2.1 f.2.2.1 f.2.2.2 with
          | none => rw [hk] at h; cases h
          | some k =>
            obtain ⟨e1, e2⟩ := x_ins_rp (xs := xs) hw h0 k hk
            have ek : x_kind g_M j (x_rF (xI 9 xs) f) = some (x_rp (xI 9 xs) k) := by
              unfold x_kind
              simp only [hi]
              exact e1
            rw [hk] at h
            rcases k with g | q | ⟨k, as, g⟩
            · obtain ⟨a1, a2⟩ := ih stop d j g res h e2
              exact ⟨fun g' hg r hr => (x_R_next ek).mpr (a1 g' hg r hr), fun q hq => ⟨(a2 q hq).1, (x_R_next ek).mpr (a2 q hq).2⟩⟩
            · simp only [Option.some.injEq] at h
              subst h
              exact ⟨fun g hg => (by cases hg), fun q' hq => by cases hq; exact ⟨e2, (x_R_ret ek).mpr rfl⟩⟩
            · cases d with
              | zero => cases h
              | succ d' =>
                simp only at h
                by_cases h1 : x_pr g_M k = true
                · rw [if_pos h1] at h; cases h
                · rw [if_neg h1] at h
                  by_cases h2 : x_wd as ≤ x_nL g_M k
                  · rw [if_pos h2] at h
                    cases hg : x_gy g_M n 99999 d' k (0, x_ent (x_nL g_M k) as, [], g.2.2.2) with
                    | none => rw [hg] at h; cases h
                    | some res1 =>
                      rw [hg] at h
                      rcases res1 with g1 | q
                      · cases h
                      · obtain ⟨-, b2⟩ := ih 99999 d' k _ _ hg e2
                        obtain ⟨b3, b4⟩ := b2 q rfl
                        have ev : x_ev g_M P (d' + 1) k as (g.2.2.2.set 0 (xI 9 xs)) (q.1, q.2.set 0 (xI 9 xs)) := by
                          rw [x_ev, if_neg h1]
                          exact ⟨h2, b4⟩
                        obtain ⟨a1, a2⟩ := ih stop (d' + 1) j (g.1, g.2.1, q.1.toList ++ g.2.2.1, q.2) res h b3
                        exact ⟨fun g' hg r hr => (x_R_call ek).mpr ⟨_, ev, a1 g' hg r hr⟩, fun q' hq => ⟨(a2 q' hq).1, (x_R_call ek).mpr ⟨_, ev, (a2 q' hq).2⟩⟩⟩
                  · rw [if_neg h2] at h; cases h
        · rw [if_neg hw] at h; cases h
section RETI
variable {M : xM} {j pc : Nat} {L : List (Option Value)} {st : List Value} {h : xH}
/-- what returns an int returns it by ireturn -/
theorem x_ret_i {i : Instr} {v : Int32} {h' : xH} (hs : x_ins M j i pc L st h = some (.inr (.inl (some (.int v), h')))) : i = .ireturn ∧ st = [.int v] := by
  cases i with
  | ireturn =>
    simp only [x_ins] at hs
    split at hs
    · split at hs
      · split at hs
        · cases hs
          exact ⟨rfl, rfl⟩
        · cases hs
      · cases hs
    · cases hs
  | lreturn =>
    simp only [x_ins] at hs
    split at hs
    · split at hs
      · cases hs
      · cases hs
    · cases hs
  | return_ =>
    simp only [x_ins] at hs
    split at hs
    · split at hs
      · cases hs
      · cases hs
    · cases hs
  | iconst z =>
    cases hs
  | bipush z =>
    cases hs
  | sipush z =>
    cases hs
  | lconst z =>
    cases hs
  | iload_n z =>
    obtain ⟨_, _, hs⟩ := x_ldi_s hs
    cases hs
  | iload z =>
    obtain ⟨_, _, hs⟩ := x_ldi_s hs
    cases hs
  | lload_n z =>
    obtain ⟨_, _, hs⟩ := x_ldl_s hs
    cases hs
  | lload z =>
    obtain ⟨_, _, hs⟩ := x_ldl_s hs
    cases hs
  | aload_n z =>
    obtain ⟨_, _, hs⟩ := x_lda_s hs
    cases hs
  | aload z =>
    obtain ⟨_, _, hs⟩ := x_lda_s hs
    cases hs
  | istore_n z =>
    obtain ⟨_, _, _, hs⟩ := x_i1_s hs
    obtain ⟨_, hs⟩ := x_sto_s hs
    cases hs
  | istore z =>
    obtain ⟨_, _, _, hs⟩ := x_i1_s hs
    obtain ⟨_, hs⟩ := x_sto_s hs
    cases hs
  | astore_n z =>
    obtain ⟨_, _, _, hs⟩ := x_r1_s hs
    obtain ⟨_, hs⟩ := x_sto_s hs
    cases hs
  | astore z =>
    obtain ⟨_, _, _, hs⟩ := x_r1_s hs
    obtain ⟨_, hs⟩ := x_sto_s hs
    cases hs
  | iinc z y =>
    obtain ⟨_, _, hs⟩ := x_ldi_s hs
    obtain ⟨_, hs⟩ := x_sto_s hs
    cases hs
  | iadd =>
    obtain ⟨_, _, _, _, hs⟩ := x_i2_s hs
    cases hs
  | isub =>
    obtain ⟨_, _, _, _, hs⟩ := x_i2_s hs
    cases hs
  | imul =>
    obtain ⟨_, _, _, _, hs⟩ := x_i2_s hs
    cases hs
  | iand =>
    obtain ⟨_, _, _, _, hs⟩ := x_i2_s hs
    cases hs
  | ior =>
    obtain ⟨_, _, _, _, hs⟩ := x_i2_s hs
    cases hs
  | ixor =>
    obtain ⟨_, _, _, _, hs⟩ := x_i2_s hs
    cases hs
  | ishl =>
    obtain ⟨_, _, _, _, hs⟩ := x_i2_s hs
    cases hs
  | ishr =>
    obtain ⟨_, _, _, _, hs⟩ := x_i2_s hs
    cases hs
  | iushr =>
    obtain ⟨_, _, _, _, hs⟩ := x_i2_s hs
    cases hs
  | ladd =>
    obtain ⟨_, _, _, _, hs⟩ := x_l2_s hs
    cases hs
  | lmul =>
    obtain ⟨_, _, _, _, hs⟩ := x_l2_s hs
    cases hs
  | land =>
    obtain ⟨_, _, _, _, hs⟩ := x_l2_s hs
    cases hs
  | lor =>
    obtain ⟨_, _, _, _, hs⟩ := x_l2_s hs
    cases hs
  | lcmp =>
    obtain ⟨_, _, _, _, hs⟩ := x_l2_s hs
    cases hs
  | lshl =>
    obtain ⟨_, _, _, _, hs⟩ := x_li_s hs
    cases hs
  | lshr =>
    obtain ⟨_, _, _, _, hs⟩ := x_li_s hs
    cases hs
  | ineg =>
    obtain ⟨_, _, _, hs⟩ := x_i1_s hs
    cases hs
  | i2l =>
    obtain ⟨_, _, _, hs⟩ := x_i1_s hs
    cases hs
  | i2b =>
    obtain ⟨_, _, _, hs⟩ := x_i1_s hs
    cases hs
  | i2s =>
    obtain ⟨_, _, _, hs⟩ := x_i1_s hs
    cases hs
  | l2i =>
    obtain ⟨_, _, _, hs⟩ := x_l1_s hs
    cases hs
  | dup =>
    obtain ⟨_, _, _, _, hs⟩ := x_v1_s hs
    cases hs
  | pop =>
    obtain ⟨_, _, _, _, hs⟩ := x_v1_s hs
    cases hs
  | dup2 =>
    obtain ⟨_, _, _, _, hs⟩ := x_v1_s hs
    obtain ⟨_, _, _, _, hs⟩ := x_v1_s hs
    cases hs
  | goto z =>
    obtain ⟨_, _, hs⟩ := x_tg_s hs
    cases hs
  | idiv =>
    obtain ⟨_, _, _, _, hs⟩ := x_i2_s hs
    split at hs
    · cases hs
    · cases hs
  | irem =>
    obtain ⟨_, _, _, _, hs⟩ := x_i2_s hs
    split at hs
    · cases hs
    · cases hs
  | ldiv =>
    obtain ⟨_, _, _, _, hs⟩ := x_l2_s hs
    split at hs
    · cases hs
    · cases hs
  | lrem =>
    obtain ⟨_, _, _, _, hs⟩ := x_l2_s hs
    split at hs
    · cases hs
    · cases hs
  | ifCond z off =>
    obtain ⟨_, _, _, hs⟩ := x_i1_s hs
    obtain ⟨t, _, hs⟩ := x_br_s hs
    rcases hs with ⟨_, hs⟩ | ⟨_, hs⟩
    · cases hs
    · cases hs
  | if_icmp z off =>
    obtain ⟨_, _, _, _, hs⟩ := x_i2_s hs
    obtain ⟨t, _, hs⟩ := x_br_s hs
    rcases hs with ⟨_, hs⟩ | ⟨_, hs⟩
    · cases hs
    · cases hs
  | tableswitch d lo up offs =>
    obtain ⟨_, _, _, hs⟩ := x_i1_s hs
    split at hs
    · obtain ⟨_, _, hs⟩ := x_tg_s hs
      cases hs
    · split at hs
      · obtain ⟨_, _, hs⟩ := x_tg_s hs
        cases hs
      · cases hs
  | ldc z =>
    simp only [x_ins] at hs
    split at hs
    · cases hs
    · cases hs
    · cases hs
  | ldc_w z =>
    simp only [x_ins] at hs
    split at hs
    · cases hs
    · cases hs
  | ldc2_w z =>
    simp only [x_ins] at hs
    split at hs
    · cases hs
    · cases hs
  | getfield z =>
    obtain ⟨_, _, _, hs⟩ := x_r1_s hs
    split at hs
    · obtain ⟨_, _, hs⟩ := x_ob_s hs
      split at hs
      · cases hs
      · cases hs
    · cases hs
  | putfield z =>
    obtain ⟨_, _, _, _, hs⟩ := x_vr_s hs
    split at hs
    · obtain ⟨_, hr, hs⟩ := x_ob_s hs
      split at hs
      · cases hs
      · cases hs
    · cases hs
  | new z =>
    simp only [x_ins] at hs
    split at hs
    · obtain ⟨_, hs⟩ := x_made_s hs
      cases hs
    · cases hs
  | newarray z =>
    obtain ⟨_, _, _, hs⟩ := x_i1_s hs
    split at hs
    · cases hs
    split at hs
    · obtain ⟨_, hs⟩ := x_made_s hs
      cases hs
    · obtain ⟨_, hs⟩ := x_made_s hs
      cases hs
    · obtain ⟨_, hs⟩ := x_made_s hs
      cases hs
    · obtain ⟨_, hs⟩ := x_made_s hs
      cases hs
    · cases hs
  | anewarray z =>
    obtain ⟨_, _, _, hs⟩ := x_i1_s hs
    split at hs
    · cases hs
    split at hs
    · obtain ⟨_, hs⟩ := x_made_s hs
      cases hs
    · cases hs
  | arraylength =>
    obtain ⟨_, _, _, hs⟩ := x_r1_s hs
    split at hs
    · cases hs
    · cases hs
  | iaload =>
    obtain ⟨_, _, _, _, hs⟩ := x_ri_s hs
    obtain ⟨_, _, _, hs⟩ := x_ri0_s hs
    split at hs
    · obtain ⟨_, _, _, hs⟩ := x_at'_s hs
      cases hs
    · cases hs
  | baload =>
    obtain ⟨_, _, _, _, hs⟩ := x_ri_s hs
    obtain ⟨_, _, _, hs⟩ := x_ri0_s hs
    split at hs
    · obtain ⟨_, _, _, hs⟩ := x_at'_s hs
      cases hs
    · cases hs
  | laload =>
    obtain ⟨_, _, _, _, hs⟩ := x_ri_s hs
    obtain ⟨_, _, hs⟩ := x_rl0_s hs
    obtain ⟨_, _, _, hs⟩ := x_at'_s hs
    cases hs
  | aaload =>
    obtain ⟨_, _, _, _, hs⟩ := x_ri_s hs
    obtain ⟨_, _, _, hs⟩ := x_rq0_s hs
    obtain ⟨_, _, _, hs⟩ := x_at'_s hs
    split at hs
    · cases hs
    · cases hs
  | iastore =>
    obtain ⟨_, _, _, _, _, hs⟩ := x_rii_s hs
    obtain ⟨_, _, hr, hs⟩ := x_ri0_s hs
    split at hs
    · obtain ⟨_, _, _, hs⟩ := x_at'_s hs
      cases hs
    · cases hs
  | bastore =>
    obtain ⟨_, _, _, _, _, hs⟩ := x_rii_s hs
    obtain ⟨_, _, hr, hs⟩ := x_ri0_s hs
    split at hs
    · obtain ⟨_, _, _, hs⟩ := x_at'_s hs
      cases hs
    · cases hs
  | lastore =>
    obtain ⟨_, _, _, _, _, hs⟩ := x_ril_s hs
    obtain ⟨_, hr, hs⟩ := x_rl0_s hs
    obtain ⟨_, _, _, hs⟩ := x_at'_s hs
    cases hs
  | aastore =>
    obtain ⟨_, _, _, _, _, hs⟩ := x_rir_s hs
    obtain ⟨_, _, hr, hs⟩ := x_rq0_s hs
    split at hs
    · split at hs
      · obtain ⟨_, _, _, hs⟩ := x_at'_s hs
        cases hs
      · cases hs
    · cases hs
  | invokevirtual z =>
    simp only [x_ins] at hs
    split at hs
    · obtain ⟨_, _, _, _, _, hs⟩ := x_cut_s hs
      obtain ⟨_, _, _, hs⟩ := x_hd_s hs
      split at hs
      · cases hs
      · cases hs
    · cases hs
  | invokespecial z =>
    simp only [x_ins] at hs
    split at hs
    · obtain ⟨_, _, _, _, _, hs⟩ := x_cut_s hs
      obtain ⟨_, _, _, hs⟩ := x_hd_s hs
      cases hs
    · obtain ⟨_, _, _, _, _, hs⟩ := x_cut_s hs
      obtain ⟨_, _, _, hs⟩ := x_hd_s hs
      cases hs
    · obtain ⟨_, _, _, hs⟩ := x_r1_s hs
      split at hs
      · cases hs
      · cases hs
    · cases hs
  | invokestatic z =>
    simp only [x_ins] at hs
    split at hs
    · obtain ⟨_, _, _, _, _, hs⟩ := x_cut_s hs
      cases hs
    · obtain ⟨_, _, _, _, _, hs⟩ := x_cut_s hs
      cases hs
    · exact absurd hs x_copy_no
    · obtain ⟨_, _, _, _, hs⟩ := x_i2_s hs
      split at hs
      · cases hs
      · cases hs
    · obtain ⟨_, _, _, _, hs⟩ := x_i2_s hs
      split at hs
      · cases hs
      · cases hs
    · cases hs
  | _ => cases hs
end RETI
