/-! THE CALCULUS: a frame of the abstract machine over this program, as a proposition that rewrites step by step (own work) -/
def x_R (C : Nat → List Value → xH → Option Value × xH → Prop) (k : Nat) (f : xF) (r : Option Value × xH) : Prop := ∃ n, x_run C g_M k n f r
def x_nx (k : Nat) : Nat → xF → Option xF
  | 0, f => some f
  | n + 1, f => match x_kind g_M k f with
    | some (.inl g) => x_nx k n g
    | _ => none
section XR
variable {C : Nat → List Value → xH → Option Value × xH → Prop} {k : Nat} {f g : xF} {r : Option Value × xH}
theorem x_R_next (h : x_kind g_M k f = some (.inl g)) : x_R C k f r ↔ x_R C k g r := by
  constructor
  · rintro ⟨n, hn⟩
    cases n with
    | zero => exact hn.elim
    | succ n =>
      rw [x_run, h] at hn
      exact ⟨n, hn⟩
  · rintro ⟨n, hn⟩
    exact ⟨n + 1, by rw [x_run, h]; exact hn⟩
theorem x_R_ret {q : Option Value × xH} (h : x_kind g_M k f = some (.inr (.inl q))) : x_R C k f r ↔ q = r := by
  constructor
  · rintro ⟨n, hn⟩
    cases n with
    | zero => exact hn.elim
    | succ n =>
      rw [x_run, h] at hn
      exact hn
  · intro hq
    exact ⟨1, by rw [x_run, h]; exact hq⟩
theorem x_R_call {k' : Nat} {as : List Value} (h : x_kind g_M k f = some (.inr (.inr (k', as, g)))) : x_R C k f r ↔ ∃ q, C k' as g.2.2.2 q ∧ x_R C k (g.1, g.2.1, q.1.toList ++ g.2.2.1, q.2) r := by
  constructor
  · rintro ⟨n, hn⟩
    cases n with
    | zero => exact hn.elim
    | succ n =>
      rw [x_run, h] at hn
      obtain ⟨q, h1, h2⟩ := hn
      exact ⟨q, h1, n, h2⟩
  · rintro ⟨q, h1, n, h2⟩
    exact ⟨n + 1, by rw [x_run, h]; exact ⟨q, h1, h2⟩⟩
theorem x_R_none (h : x_kind g_M k f = none) : x_R C k f r ↔ False := by
  constructor
  · rintro ⟨n, hn⟩
    cases n with
    | zero => exact hn
    | succ n =>
      rw [x_run, h] at hn
      exact hn
  · exact False.elim
theorem x_R_n : ∀ (n : Nat) {f g : xF}, x_nx k n f = some g → (x_R C k f r ↔ x_R C k g r) := by
  intro n
  induction n with
  | zero => intro f g h; cases h; exact Iff.rfl
  | succ n ih =>
    intro f g h
    rw [x_nx] at h
    split at h
    · rename_i g' hk
      exact (x_R_next hk).trans (ih h)
    · cases h
/-- reads and writes of cells, as functions -/
def x_fl (h : xH) (a ci j : Nat) : Option Value := match h[a]? with
  | some (.inl (c, fs)) => if c = ci then fs[j]? else none
  | _ => none
def x_fp (h : xH) (a ci j : Nat) (v : Value) : Option xH := match h[a]? with
  | some (.inl (c, fs)) => if c = ci ∧ j < fs.length ∧ x_ok (g_fld ci j).1 v = true then some (h.set a (xO ci (fs.set j v))) else none
  | _ => none
def x_ix {α : Type} (xs : List α) (i : Int32) : Option α := if i < 0 then none else xs[i.toNatClampNeg]?
def x_ia (h : xH) (a : Nat) : Option (List Int32) := match h[a]? with
  | some (.inr (.inl (kd, xs))) => if kd = 0 ∨ kd = 9 then some xs else none
  | _ => none
def x_ie (h : xH) (a : Nat) (i : Int32) : Option Int32 := (x_ia h a).bind (fun xs => x_ix xs i)
def x_ba (h : xH) (a : Nat) : Option (Nat × List Int32) := match h[a]? with
  | some (.inr (.inl (kd, xs))) => if kd = 1 ∨ kd = 2 then some (kd, xs) else none
  | _ => none
def x_be (h : xH) (a : Nat) (i : Int32) : Option Int32 := (x_ba h a).bind (fun q => x_ix q.2 i)
def x_la (h : xH) (a : Nat) : Option (List Int64) := match h[a]? with
  | some (.inr (.inr (.inl xs))) => some xs
  | _ => none
def x_le (h : xH) (a : Nat) (i : Int32) : Option Int64 := (x_la h a).bind (fun xs => x_ix xs i)
def x_qa (h : xH) (a : Nat) : Option (Nat × List (Option Nat)) := match h[a]? with
  | some (.inr (.inr (.inr (kd, xs)))) => if (g_el kd).isSome = true then some (kd, xs) else none
  | _ => none
def x_qe (h : xH) (a : Nat) (i : Int32) : Option Nat := (x_qa h a).bind (fun q => (x_ix q.2 i).bind id)
/-- rows that may be written -/
def x_iw (h : xH) (a : Nat) : Option (List Int32) := match h[a]? with
  | some (.inr (.inl (kd, xs))) => if kd = 0 then some xs else none
  | _ => none
def x_ip (h : xH) (a : Nat) (i v : Int32) : Option xH := (x_iw h a).bind (fun xs => (x_ix xs i).map (fun _ => h.set a (xI 0 (xs.set i.toNatClampNeg v))))
def x_bp (h : xH) (a : Nat) (i v : Int32) : Option xH := (x_ba h a).bind (fun q => (x_ix q.2 i).map (fun _ => h.set a (xI q.1 (q.2.set i.toNatClampNeg (x_nr q.1 v)))))
def x_lp (h : xH) (a : Nat) (i : Int32) (v : Int64) : Option xH := (x_la h a).bind (fun xs => (x_ix xs i).map (fun _ => h.set a (xL (xs.set i.toNatClampNeg v))))
def x_cp (h : xH) (s : Nat) (sp : Int32) (d : Nat) (dp n : Int32) : Option xH :=
  if n < 0 ∨ dp < 0 ∨ sp < 0 then none else match h[s]?, h[d]? with
  | some (.inr (.inl (a, f))), some (.inr (.inl (b, g))) => if a = 0 ∧ b = 0 ∧ sp.toNatClampNeg + n.toNatClampNeg ≤ f.length ∧ dp.toNatClampNeg + n.toNatClampNeg ≤ g.length then some (h.set d (xI 0 (x_cpy f g sp.toNatClampNeg dp.toNatClampNeg n.toNatClampNeg))) else none
  | some (.inr (.inr (.inl f))), some (.inr (.inr (.inl g))) => if sp.toNatClampNeg + n.toNatClampNeg ≤ f.length ∧ dp.toNatClampNeg + n.toNatClampNeg ≤ g.length then some (h.set d (xL (x_cpy f g sp.toNatClampNeg dp.toNatClampNeg n.toNatClampNeg))) else none
  | _, _ => none
variable {pc idx ci j a : Nat} {L : List (Option Value)} {st : List Value} {h : xH} {i v : Int32}
theorem x_kd {q : Option xK} {ins : Instr} (hf : x_fe g_M k pc = some ins) (hq : x_ins g_M k ins pc L st h = q) : x_kind g_M k (pc, L, st, h) = q := by
  unfold x_kind
  simp only [hf]
  exact hq
theorem x_R_opt {α : Type} {o : Option α} {G : α → xF} (key : x_kind g_M k f = match o with
    | some x => some (.inl (G x))
    | none => none) : x_R C k f r ↔ ∃ x, o = some x ∧ x_R C k (G x) r := by
  cases o with
  | none =>
    rw [x_R_none key]
    simp
  | some x =>
    rw [x_R_next key]
    simp
theorem x_R_if {c : Prop} [hc : Decidable c] {g1 g2 : xF} (key : x_kind g_M k f = if c then some (.inl g1) else some (.inl g2)) : x_R C k f r ↔ if c then x_R C k g1 r else x_R C k g2 r := by
  by_cases h : c
  · rw [if_pos h] at key ⊢
    exact x_R_next key
  · rw [if_neg h] at key ⊢
    exact x_R_next key
theorem x_R_getf (hf : x_fe g_M k pc = some (.getfield idx)) (hp : x_pl g_M (x_ow g_M k) idx = some (0, ci, j)) : x_R C k (pc, L, .ref a :: st, h) r ↔ ∃ v, x_fl h a ci j = some v ∧ x_R C k (pc + 3, L, v :: st, h) r := by
  refine x_R_opt (G := fun v => (pc + 3, L, v :: st, h)) (x_kd hf ?_)
  simp only [x_ins, x_r1, hp, x_ob, x_fl]
  cases h[a]? with
  | none => rfl
  | some c =>
    match c with
    | .inl (c, fs) =>
      simp only
      by_cases hc : c = ci
      · simp only [hc, if_true]
        cases fs[j]? <;> rfl
      · simp only [hc, if_false]
    | .inr _ => rfl
theorem x_R_putf {v : Value} (hf : x_fe g_M k pc = some (.putfield idx)) (hp : x_pl g_M (x_ow g_M k) idx = some (0, ci, j)) (hff : (g_fld ci j).2 = true → x_in g_M k = true ∧ x_ow g_M k = ci) : x_R C k (pc, L, v :: .ref a :: st, h) r ↔ ∃ h', x_fp h a ci j v = some h' ∧ x_R C k (pc + 3, L, st, h') r := by
  refine x_R_opt (G := fun h' => (pc + 3, L, st, h')) (x_kd hf ?_)
  simp only [x_ins, x_vr, hp, x_ob, x_fp]
  cases h[a]? with
  | none => rfl
  | some c =>
    match c with
    | .inl (c, fs) =>
      simp only
      by_cases hc : c = ci
      · subst hc
        by_cases h2 : j < fs.length ∧ x_ok (g_fld c j).1 v = true
        · rw [if_pos rfl, if_pos ⟨h2.1, h2.2, hff⟩, if_pos ⟨rfl, h2.1, h2.2⟩]
          rfl
        · rw [if_pos rfl, if_neg (fun z => h2 ⟨z.1, z.2.1⟩), if_neg (fun z => h2 z.2)]
      · rw [if_neg hc, if_neg (fun z => hc z.1)]
    | .inr _ => rfl
theorem x_R_iald (hf : x_fe g_M k pc = some .iaload) : x_R C k (pc, L, .int i :: .ref a :: st, h) r ↔ ∃ x, x_ie h a i = some x ∧ x_R C k (pc + 1, L, .int x :: st, h) r := by
  refine x_R_opt (G := fun x => (pc + 1, L, .int x :: st, h)) (x_kd hf ?_)
  simp only [x_ins, x_ri, x_ri0, x_ie, x_ia, x_at', x_ix, x_n]
  cases h[a]? with
  | none => rfl
  | some c =>
    match c with
    | .inl _ => rfl
    | .inr (.inl (kd, xs)) =>
      simp only
      by_cases hk : kd = 0 ∨ kd = 9
      · simp only [hk, if_true, Option.bind_some]
        by_cases hi : i < 0
        · simp only [hi, if_true]
        · simp only [hi, if_false]
          cases xs[i.toNatClampNeg]? <;> rfl
      · simp only [hk, if_false]
        rfl
    | .inr (.inr (.inl _)) => rfl
    | .inr (.inr (.inr _)) => rfl
theorem x_R_bald (hf : x_fe g_M k pc = some .baload) : x_R C k (pc, L, .int i :: .ref a :: st, h) r ↔ ∃ x, x_be h a i = some x ∧ x_R C k (pc + 1, L, .int x :: st, h) r := by
  refine x_R_opt (G := fun x => (pc + 1, L, .int x :: st, h)) (x_kd hf ?_)
  simp only [x_ins, x_ri, x_ri0, x_be, x_ba, x_at', x_ix, x_n]
  cases h[a]? with
  | none => rfl
  | some c =>
    match c with
    | .inl _ => rfl
    | .inr (.inl (kd, xs)) =>
      simp only
      by_cases hk : kd = 1 ∨ kd = 2
      · simp only [hk, if_true, Option.bind_some]
        by_cases hi : i < 0
        · simp only [hi, if_true]
        · simp only [hi, if_false]
          cases xs[i.toNatClampNeg]? <;> rfl
      · simp only [hk, if_false]
        rfl
    | .inr (.inr (.inl _)) => rfl
    | .inr (.inr (.inr _)) => rfl
theorem x_R_lald (hf : x_fe g_M k pc = some .laload) : x_R C k (pc, L, .int i :: .ref a :: st, h) r ↔ ∃ x, x_le h a i = some x ∧ x_R C k (pc + 1, L, .long x :: st, h) r := by
  refine x_R_opt (G := fun x => (pc + 1, L, .long x :: st, h)) (x_kd hf ?_)
  simp only [x_ins, x_ri, x_rl0, x_le, x_la, x_at', x_ix, x_n]
  cases h[a]? with
  | none => rfl
  | some c =>
    match c with
    | .inl _ => rfl
    | .inr (.inl _) => rfl
    | .inr (.inr (.inl xs)) =>
      simp only [Option.bind_some]
      by_cases hi : i < 0
      · simp only [hi, if_true]
      · simp only [hi, if_false]
        cases xs[i.toNatClampNeg]? <;> rfl
    | .inr (.inr (.inr _)) => rfl
theorem x_R_aald (hf : x_fe g_M k pc = some .aaload) : x_R C k (pc, L, .int i :: .ref a :: st, h) r ↔ ∃ x, x_qe h a i = some x ∧ x_R C k (pc + 1, L, .ref x :: st, h) r := by
  refine x_R_opt (G := fun x => (pc + 1, L, .ref x :: st, h)) (x_kd hf ?_)
  simp only [x_ins, x_ri, x_rq0, x_qe, x_qa, x_at', x_ix, x_n]
  cases h[a]? with
  | none => rfl
  | some c =>
    match c with
    | .inl _ => rfl
    | .inr (.inl _) => rfl
    | .inr (.inr (.inl xs)) => rfl
    | .inr (.inr (.inr (kd, xs))) =>
      simp only
      have hel : x_el g_M kd = g_el kd := rfl
      rw [hel]
      cases he : g_el kd with
      | none =>
        simp only [Option.isSome_none]
        by_cases hi : i < 0
        · simp only [hi, if_true]
          rfl
        · simp only [hi, if_false]
          cases xs[i.toNatClampNeg]? with
          | none => rfl
          | some q => cases q <;> rfl
      | some ci =>
        simp only [Option.isSome_some, if_true, Option.bind_some]
        by_cases hi : i < 0
        · simp only [hi, if_true]
          rfl
        · simp only [hi, if_false]
          cases xs[i.toNatClampNeg]? with
          | none => rfl
          | some q => cases q <;> rfl
theorem x_R_iast (hf : x_fe g_M k pc = some .iastore) : x_R C k (pc, L, .int v :: .int i :: .ref a :: st, h) r ↔ ∃ h', x_ip h a i v = some h' ∧ x_R C k (pc + 1, L, st, h') r := by
  refine x_R_opt (G := fun h' => (pc + 1, L, st, h')) (x_kd hf ?_)
  simp only [x_ins, x_rii, x_ri0, x_ip, x_iw, x_at', x_ix, x_n]
  cases h[a]? with
  | none => rfl
  | some c =>
    match c with
    | .inl _ => rfl
    | .inr (.inl (kd, xs)) =>
      simp only
      by_cases hk : kd = 0
      · simp only [hk, if_true, Option.bind_some]
        by_cases hi : i < 0
        · simp only [hi, if_true]
          rfl
        · simp only [hi, if_false]
          cases xs[i.toNatClampNeg]? <;> rfl
      · simp only [hk, if_false]
        rfl
    | .inr (.inr (.inl _)) => rfl
    | .inr (.inr (.inr _)) => rfl
theorem x_R_bast (hf : x_fe g_M k pc = some .bastore) : x_R C k (pc, L, .int v :: .int i :: .ref a :: st, h) r ↔ ∃ h', x_bp h a i v = some h' ∧ x_R C k (pc + 1, L, st, h') r := by
  refine x_R_opt (G := fun h' => (pc + 1, L, st, h')) (x_kd hf ?_)
  simp only [x_ins, x_rii, x_ri0, x_bp, x_ba, x_at', x_ix, x_n]
  cases h[a]? with
  | none => rfl
  | some c =>
    match c with
    | .inl _ => rfl
    | .inr (.inl (kd, xs)) =>
      simp only
      by_cases hk : kd = 1 ∨ kd = 2
      · simp only [hk, if_true, Option.bind_some]
        by_cases hi : i < 0
        · simp only [hi, if_true]
          rfl
        · simp only [hi, if_false]
          cases xs[i.toNatClampNeg]? <;> rfl
      · simp only [hk, if_false]
        rfl
    | .inr (.inr (.inl _)) => rfl
    | .inr (.inr (.inr _)) => rfl
theorem x_R_last {v : Int64} (hf : x_fe g_M k pc = some .lastore) : x_R C k (pc, L, .long v :: .int i :: .ref a :: st, h) r ↔ ∃ h', x_lp h a i v = some h' ∧ x_R C k (pc + 1, L, st, h') r := by
  refine x_R_opt (G := fun h' => (pc + 1, L, st, h')) (x_kd hf ?_)
  simp only [x_ins, x_ril, x_rl0, x_lp, x_la, x_at', x_ix, x_n]
  cases h[a]? with
  | none => rfl
  | some c =>
    match c with
    | .inl _ => rfl
    | .inr (.inl _) => rfl
    | .inr (.inr (.inl xs)) =>
      simp only [Option.bind_some]
      by_cases hi : i < 0
      · simp only [hi, if_true]
        rfl
      · simp only [hi, if_false]
        cases xs[i.toNatClampNeg]? <;> rfl
    | .inr (.inr (.inr _)) => rfl
theorem x_R_alen (hf : x_fe g_M k pc = some .arraylength) : x_R C k (pc, L, .ref a :: st, h) r ↔ ∃ n, x_len h a = some n ∧ x_R C k (pc + 1, L, .int (Int32.ofNat n) :: st, h) r := by
  refine x_R_opt (G := fun n => (pc + 1, L, .int (Int32.ofNat n) :: st, h)) (x_kd hf ?_)
  simp only [x_ins, x_r1]
  cases x_len h a <;> rfl
theorem x_R_copy {s d z y : Nat} {n sp dp : Int32} (hf : x_fe g_M k pc = some (.invokestatic idx)) (hp : x_pl g_M (x_ow g_M k) idx = some (8, z, y)) (hs : x_sum st ≤ 8) : x_R C k (pc, L, .int n :: .int dp :: .ref d :: .int sp :: .ref s :: st, h) r ↔ ∃ h', x_cp h s sp d dp n = some h' ∧ x_R C k (pc + 3, L, st, h') r := by
  refine x_R_opt (G := fun h' => (pc + 3, L, st, h')) (x_kd hf ?_)
  simp only [x_ins, hp, x_copy, x_cp]
  by_cases h1 : n < 0 ∨ dp < 0 ∨ sp < 0
  · rw [if_pos h1, if_pos (by rcases h1 with h1 | h1 | h1 <;> simp [h1])]
  · rw [if_neg h1, if_neg (by
      intro z
      rcases z with z | z | z | z
      · exact h1 (Or.inl z)
      · exact h1 (Or.inr (Or.inl z))
      · exact h1 (Or.inr (Or.inr z))
      · omega)]
    rcases h[s]? with _ | (c | (⟨ka, fa⟩ | (fl | q))) <;> rcases h[d]? with _ | (c' | (⟨kb, gb⟩ | (gl | q'))) <;> first | rfl | (simp only; split <;> rfl)
theorem x_R_virt {k' z : Nat} {as rest : List Value} (hf : x_fe g_M k pc = some (.invokevirtual idx)) (hp : x_pl g_M (x_ow g_M k) idx = some (1, k', z)) (hpr : x_pr g_M k' = false) (hci : x_ow g_M k' = ci) (hc : ((Value.ref a :: as).reverse ++ rest) = st) (hn : as.length = x_np g_M k') (hs : x_sum rest ≤ 8) : x_R C k (pc, L, st, h) r ↔ x_cls h a ci = true ∧ ∃ q, C k' (.ref a :: as) h q ∧ x_R C k (pc + 3, L, q.1.toList ++ rest, q.2) r := by
  subst hc
  have h1 : (((Value.ref a :: as).reverse ++ rest).take (x_np g_M k' + 1)) = (Value.ref a :: as).reverse := by
    rw [List.take_append_of_le_length (by simp [hn]), List.take_of_length_le (by simp [hn])]
  have h2 : (((Value.ref a :: as).reverse ++ rest).drop (x_np g_M k' + 1)) = rest := by
    rw [List.drop_append_of_le_length (by simp [hn]), List.drop_of_length_le (by simp [hn])]
    rfl
  have key : x_kind g_M k (pc, L, (Value.ref a :: as).reverse ++ rest, h) = if x_cls h a ci = true then some (.inr (.inr (k', .ref a :: as, (pc + 3, L, rest, h)))) else none := x_kd hf (by
    simp only [x_ins, hp, x_virt, x_cut, h1, h2, hpr, hci]
    rw [if_pos ⟨by simp [hn], hs⟩, List.reverse_reverse]
    simp only [x_hd, x_call]
    by_cases hq : x_cls h a ci = true
    · rw [if_pos (Or.inl hq), if_pos hq]
    · rw [if_neg (by rintro (z | ⟨z, -⟩); exact hq z; cases z), if_neg hq])
  by_cases hq : x_cls h a ci = true
  · rw [if_pos hq] at key
    rw [x_R_call key]
    simp [hq]
  · rw [if_neg hq] at key
    rw [x_R_none key]
    simp [hq]
theorem x_R_spec {k' t z : Nat} {as rest : List Value} (hf : x_fe g_M k pc = some (.invokespecial idx)) (hp : x_pl g_M (x_ow g_M k) idx = some (t, k', z)) (ht : t = 2 ∨ t = 4) (hc : ((Value.ref a :: as).reverse ++ rest) = st) (hn : as.length = x_np g_M k') (hs : x_sum rest ≤ 8) : x_R C k (pc, L, st, h) r ↔ ∃ q, C k' (.ref a :: as) h q ∧ x_R C k (pc + 3, L, q.1.toList ++ rest, q.2) r := by
  subst hc
  have h1 : (((Value.ref a :: as).reverse ++ rest).take (x_np g_M k' + 1)) = (Value.ref a :: as).reverse := by
    rw [List.take_append_of_le_length (by simp [hn]), List.take_of_length_le (by simp [hn])]
  have h2 : (((Value.ref a :: as).reverse ++ rest).drop (x_np g_M k' + 1)) = rest := by
    rw [List.drop_append_of_le_length (by simp [hn]), List.drop_of_length_le (by simp [hn])]
    rfl
  refine x_R_call (k' := k') (as := .ref a :: as) (g := (pc + 3, L, rest, h)) (x_kd hf ?_)
  rcases ht with rfl | rfl
  · simp only [x_ins, hp, x_spec, x_cut, h1, h2]
    rw [if_pos ⟨by simp [hn], hs⟩, List.reverse_reverse]
    rfl
  · simp only [x_ins, hp, x_spec, x_cut, h1, h2]
    rw [if_pos ⟨by simp [hn], hs⟩, List.reverse_reverse]
    rfl
theorem x_R_stat {k' t z : Nat} {as rest : List Value} (hf : x_fe g_M k pc = some (.invokestatic idx)) (hp : x_pl g_M (x_ow g_M k) idx = some (t, k', z)) (ht : t = 3 ∨ t = 9) (hc : (as.reverse ++ rest) = st) (hn : as.length = x_np g_M k') (hs : x_sum rest ≤ 8) : x_R C k (pc, L, st, h) r ↔ ∃ q, C k' as h q ∧ x_R C k (pc + 3, L, q.1.toList ++ rest, q.2) r := by
  subst hc
  have h1 : ((as.reverse ++ rest).take (x_np g_M k')) = as.reverse := by
    rw [List.take_append_of_le_length (by simp [hn]), List.take_of_length_le (by simp [hn])]
  have h2 : ((as.reverse ++ rest).drop (x_np g_M k')) = rest := by
    rw [List.drop_append_of_le_length (by simp [hn]), List.drop_of_length_le (by simp [hn])]
    rfl
  refine x_R_call (k' := k') (as := as) (g := (pc + 3, L, rest, h)) (x_kd hf ?_)
  rcases ht with rfl | rfl
  · simp only [x_ins, hp, x_cut, h1, h2]
    rw [if_pos ⟨by simp [hn], hs⟩, List.reverse_reverse]
    rfl
  · simp only [x_ins, hp, x_cut, h1, h2]
    rw [if_pos ⟨by simp [hn], hs⟩, List.reverse_reverse]
    rfl
end XR
/-- a run has one end -/
theorem x_run_det {M : xM} {C : Nat → List Value → xH → Option Value × xH → Prop} (hC : ∀ k as h q1 q2, C k as h q1 → C k as h q2 → q1 = q2) {j : Nat} : ∀ (n m : Nat) (f : xF) (r1 r2 : Option Value × xH), x_run C M j n f r1 → x_run C M j m f r2 → r1 = r2 := by
  intro n
  induction n with
  | zero => intro m f r1 r2 h1; exact h1.elim
  | succ n ih =>
    intro m f r1 r2 h1 h2
    cases m with
    | zero => exact h2.elim
    | succ m =>
      rw [x_run] at h1 h2
      split at h1
      · rename_i g hk
        rw [hk] at h2
        exact ih m g r1 r2 h1 h2
      · rename_i q hk
        rw [hk] at h2
        exact h1.symm.trans h2
      · rename_i k as g hk
        rw [hk] at h2
        obtain ⟨q1, a1, b1⟩ := h1
        obtain ⟨q2, a2, b2⟩ := h2
        obtain rfl := hC _ _ _ _ _ a1 a2
        exact ih m _ r1 r2 b1 b2
      · exact h1.elim
theorem x_ev_det {M : xM} {P : Nat → List Value → Option Value} : ∀ d k as h q1 q2, x_ev M P d k as h q1 → x_ev M P d k as h q2 → q1 = q2 := by
  intro d
  induction d with
  | zero => intro k as h q1 q2 h1; exact h1.elim
  | succ d ih =>
    intro k as h q1 q2 h1 h2
    rw [x_ev] at h1 h2
    split at h1
    · rename_i hp
      rw [if_pos hp] at h2
      obtain ⟨-, v, a1, rfl⟩ := h1
      obtain ⟨-, w, a2, rfl⟩ := h2
      rw [a1] at a2
      cases a2
      rfl
    · rename_i hp
      rw [if_neg hp] at h2
      obtain ⟨-, n, h1⟩ := h1
      obtain ⟨-, m, h2⟩ := h2
      exact x_run_det ih n m _ q1 q2 h1 h2
/-- what is met once is all that is met -/
theorem x_ev_iff {M : xM} {P : Nat → List Value → Option Value} {d k : Nat} {as : List Value} {h : xH} {q : Option Value × xH} (hq : x_ev M P d k as h q) (q' : Option Value × xH) : x_ev M P d k as h q' ↔ q' = q := ⟨fun z => x_ev_det d k as h q' q z hq, fun z => by rw [z]; exact hq⟩
theorem x_run_up {M : xM} {C C' : Nat → List Value → xH → Option Value × xH → Prop} (hC : ∀ k as h q, C k as h q → C' k as h q) {j : Nat} : ∀ (n : Nat) (f : xF) (r : Option Value × xH), x_run C M j n f r → x_run C' M j n f r := by
  intro n
  induction n with
  | zero => intro f r h1; exact h1
  | succ n ih =>
    intro f r h1
    rw [x_run] at h1 ⊢
    split at h1
    · exact ih _ _ h1
    · exact h1
    · obtain ⟨q, a, b⟩ := h1
      exact ⟨q, hC _ _ _ _ a, ih _ _ b⟩
    · exact h1
theorem x_ev_up {M : xM} {P : Nat → List Value → Option Value} : ∀ d k as h q, x_ev M P d k as h q → x_ev M P (d + 1) k as h q := by
  intro d
  induction d with
  | zero => intro k as h q hq; exact hq.elim
  | succ d ih =>
    intro k as h q hq
    rw [x_ev] at hq ⊢
    split at hq
    · rename_i hp
      rw [if_pos hp]
      exact ⟨by omega, hq.2⟩
    · rename_i hp
      rw [if_neg hp]
      obtain ⟨a, n, b⟩ := hq
      exact ⟨a, n, x_run_up ih n _ _ b⟩
/-- a method, entered -/
theorem x_ev_in {P : Nat → List Value → Option Value} {d k : Nat} {as : List Value} {h : xH} {q : Option Value × xH} (hp : x_pr g_M k = false) (hw : x_wd as ≤ x_nL g_M k) : x_ev g_M P (d + 1) k as h q ↔ x_R (x_ev g_M P d) k (0, x_ent (x_nL g_M k) as, [], h) q := by
  rw [x_ev, if_neg (by rw [hp]; decide)]
  exact ⟨fun z => z.2, fun z => ⟨hw, z⟩⟩
def x_nb (x : Int32) : Prop := narrow .boolean (.int x) = .int x
theorem x_nb0 : x_nb 0 := by unfold x_nb; decide
theorem x_nb1 : x_nb 1 := by unfold x_nb; decide
def x_sw (x : Int32) (lo : Int) (ts : List Nat) (d : Nat) : Nat := if x.toInt < lo then d else ts.getD (x.toInt - lo).toNat d
section XR
variable {C : Nat → List Value → xH → Option Value × xH → Prop} {k : Nat} {f g : xF} {r : Option Value × xH}
variable {pc idx ci j a : Nat} {L : List (Option Value)} {st : List Value} {h : xH} {i v x y : Int32}
theorem x_R_if_eq {off : Int} {t : Nat} (hf : x_fe g_M k pc = some (.ifCond .eq off)) (ht : (pc : Int) + off = (t : Int)) : x_R C k (pc, L, .int x :: st, h) r ↔ if x = 0 then x_R C k (t, L, st, h) r else x_R C k (pc + 3, L, st, h) r := by
  refine x_R_if (x_kd hf ?_)
  simp only [x_ins, x_i1, x_br, x_cmp, decide_eq_true_eq, ht, x_n]
  rw [if_pos (Int.natCast_nonneg t)]
  rfl
theorem x_R_icmp_eq {off : Int} {t : Nat} (hf : x_fe g_M k pc = some (.if_icmp .eq off)) (ht : (pc : Int) + off = (t : Int)) : x_R C k (pc, L, .int y :: .int x :: st, h) r ↔ if x = y then x_R C k (t, L, st, h) r else x_R C k (pc + 3, L, st, h) r := by
  refine x_R_if (x_kd hf ?_)
  simp only [x_ins, x_i2, x_br, x_cmp, decide_eq_true_eq, ht, x_n]
  rw [if_pos (Int.natCast_nonneg t)]
  rfl
theorem x_R_if_ne {off : Int} {t : Nat} (hf : x_fe g_M k pc = some (.ifCond .ne off)) (ht : (pc : Int) + off = (t : Int)) : x_R C k (pc, L, .int x :: st, h) r ↔ if ¬ x = 0 then x_R C k (t, L, st, h) r else x_R C k (pc + 3, L, st, h) r := by
  refine x_R_if (x_kd hf ?_)
  simp only [x_ins, x_i1, x_br, x_cmp, decide_eq_true_eq, ht, x_n]
  rw [if_pos (Int.natCast_nonneg t)]
  rfl
theorem x_R_icmp_ne {off : Int} {t : Nat} (hf : x_fe g_M k pc = some (.if_icmp .ne off)) (ht : (pc : Int) + off = (t : Int)) : x_R C k (pc, L, .int y :: .int x :: st, h) r ↔ if ¬ x = y then x_R C k (t, L, st, h) r else x_R C k (pc + 3, L, st, h) r := by
  refine x_R_if (x_kd hf ?_)
  simp only [x_ins, x_i2, x_br, x_cmp, decide_eq_true_eq, ht, x_n]
  rw [if_pos (Int.natCast_nonneg t)]
  rfl
theorem x_R_if_lt {off : Int} {t : Nat} (hf : x_fe g_M k pc = some (.ifCond .lt off)) (ht : (pc : Int) + off = (t : Int)) : x_R C k (pc, L, .int x :: st, h) r ↔ if x < 0 then x_R C k (t, L, st, h) r else x_R C k (pc + 3, L, st, h) r := by
  refine x_R_if (x_kd hf ?_)
  simp only [x_ins, x_i1, x_br, x_cmp, decide_eq_true_eq, ht, x_n]
  rw [if_pos (Int.natCast_nonneg t)]
  rfl
theorem x_R_icmp_lt {off : Int} {t : Nat} (hf : x_fe g_M k pc = some (.if_icmp .lt off)) (ht : (pc : Int) + off = (t : Int)) : x_R C k (pc, L, .int y :: .int x :: st, h) r ↔ if x < y then x_R C k (t, L, st, h) r else x_R C k (pc + 3, L, st, h) r := by
  refine x_R_if (x_kd hf ?_)
  simp only [x_ins, x_i2, x_br, x_cmp, decide_eq_true_eq, ht, x_n]
  rw [if_pos (Int.natCast_nonneg t)]
  rfl
theorem x_R_if_ge {off : Int} {t : Nat} (hf : x_fe g_M k pc = some (.ifCond .ge off)) (ht : (pc : Int) + off = (t : Int)) : x_R C k (pc, L, .int x :: st, h) r ↔ if 0 ≤ x then x_R C k (t, L, st, h) r else x_R C k (pc + 3, L, st, h) r := by
  refine x_R_if (x_kd hf ?_)
  simp only [x_ins, x_i1, x_br, x_cmp, decide_eq_true_eq, ht, x_n]
  rw [if_pos (Int.natCast_nonneg t)]
  rfl
theorem x_R_icmp_ge {off : Int} {t : Nat} (hf : x_fe g_M k pc = some (.if_icmp .ge off)) (ht : (pc : Int) + off = (t : Int)) : x_R C k (pc, L, .int y :: .int x :: st, h) r ↔ if y ≤ x then x_R C k (t, L, st, h) r else x_R C k (pc + 3, L, st, h) r := by
  refine x_R_if (x_kd hf ?_)
  simp only [x_ins, x_i2, x_br, x_cmp, decide_eq_true_eq, ht, x_n]
  rw [if_pos (Int.natCast_nonneg t)]
  rfl
theorem x_R_if_gt {off : Int} {t : Nat} (hf : x_fe g_M k pc = some (.ifCond .gt off)) (ht : (pc : Int) + off = (t : Int)) : x_R C k (pc, L, .int x :: st, h) r ↔ if 0 < x then x_R C k (t, L, st, h) r else x_R C k (pc + 3, L, st, h) r := by
  refine x_R_if (x_kd hf ?_)
  simp only [x_ins, x_i1, x_br, x_cmp, decide_eq_true_eq, ht, x_n]
  rw [if_pos (Int.natCast_nonneg t)]
  rfl
theorem x_R_icmp_gt {off : Int} {t : Nat} (hf : x_fe g_M k pc = some (.if_icmp .gt off)) (ht : (pc : Int) + off = (t : Int)) : x_R C k (pc, L, .int y :: .int x :: st, h) r ↔ if y < x then x_R C k (t, L, st, h) r else x_R C k (pc + 3, L, st, h) r := by
  refine x_R_if (x_kd hf ?_)
  simp only [x_ins, x_i2, x_br, x_cmp, decide_eq_true_eq, ht, x_n]
  rw [if_pos (Int.natCast_nonneg t)]
  rfl
theorem x_R_if_le {off : Int} {t : Nat} (hf : x_fe g_M k pc = some (.ifCond .le off)) (ht : (pc : Int) + off = (t : Int)) : x_R C k (pc, L, .int x :: st, h) r ↔ if x ≤ 0 then x_R C k (t, L, st, h) r else x_R C k (pc + 3, L, st, h) r := by
  refine x_R_if (x_kd hf ?_)
  simp only [x_ins, x_i1, x_br, x_cmp, decide_eq_true_eq, ht, x_n]
  rw [if_pos (Int.natCast_nonneg t)]
  rfl
theorem x_R_icmp_le {off : Int} {t : Nat} (hf : x_fe g_M k pc = some (.if_icmp .le off)) (ht : (pc : Int) + off = (t : Int)) : x_R C k (pc, L, .int y :: .int x :: st, h) r ↔ if x ≤ y then x_R C k (t, L, st, h) r else x_R C k (pc + 3, L, st, h) r := by
  refine x_R_if (x_kd hf ?_)
  simp only [x_ins, x_i2, x_br, x_cmp, decide_eq_true_eq, ht, x_n]
  rw [if_pos (Int.natCast_nonneg t)]
  rfl
theorem x_R_reti (hf : x_fe g_M k pc = some .ireturn) (ht : x_rt g_M k = some .int) : x_R C k (pc, L, [.int x], h) r ↔ (some (.int x), h) = r := x_R_ret (x_kd hf (by simp only [x_ins, ht]; rw [if_pos (vp_nar_int x)]; rfl))
theorem x_R_retz (hf : x_fe g_M k pc = some .ireturn) (ht : x_rt g_M k = some .boolean) : x_R C k (pc, L, [.int x], h) r ↔ x_nb x ∧ (some (.int x), h) = r := by
  by_cases hx : x_nb x
  · rw [x_R_ret (q := (some (.int x), h)) (x_kd hf (by simp only [x_ins, ht]; rw [if_pos (show narrow .boolean (.int x) = .int x from hx)]; rfl))]
    simp [hx]
  · rw [x_R_none (x_kd hf (by simp only [x_ins, ht]; rw [if_neg (show ¬ narrow .boolean (.int x) = .int x from hx)]))]
    simp [hx]
theorem x_R_retl {z : Int64} (hf : x_fe g_M k pc = some .lreturn) (ht : x_rt g_M k = some .long) : x_R C k (pc, L, [.long z], h) r ↔ (some (.long z), h) = r := x_R_ret (x_kd hf (by simp only [x_ins, ht]; rw [if_pos trivial]; rfl))
theorem x_R_retv (hf : x_fe g_M k pc = some .return_) (ht : x_rt g_M k = none) : x_R C k (pc, L, [], h) r ↔ (none, h) = r := x_R_ret (x_kd hf (by simp only [x_ins, ht]; rw [if_pos trivial]; rfl))
theorem x_R_idiv (hf : x_fe g_M k pc = some .idiv) : x_R C k (pc, L, .int y :: .int x :: st, h) r ↔ ¬ y = 0 ∧ x_R C k (pc + 1, L, .int (x / y) :: st, h) r := by
  by_cases hy : y = 0
  · rw [x_R_none (x_kd hf (by simp only [x_ins, x_i2, hy, if_true]))]
    simp [hy]
  · rw [x_R_next (g := (pc + 1, L, .int (x / y) :: st, h)) (x_kd hf (by simp only [x_ins, x_i2, hy, if_false, x_n]))]
    simp [hy]
theorem x_R_irem (hf : x_fe g_M k pc = some .irem) : x_R C k (pc, L, .int y :: .int x :: st, h) r ↔ ¬ y = 0 ∧ x_R C k (pc + 1, L, .int (x - x / y * y) :: st, h) r := by
  by_cases hy : y = 0
  · rw [x_R_none (x_kd hf (by simp only [x_ins, x_i2, hy, if_true]))]
    simp [hy]
  · rw [x_R_next (g := (pc + 1, L, .int (x - x / y * y) :: st, h)) (x_kd hf (by simp only [x_ins, x_i2, hy, if_false, x_n]))]
    simp [hy]
theorem x_R_ldiv {x y : Int64} (hf : x_fe g_M k pc = some .ldiv) : x_R C k (pc, L, .long y :: .long x :: st, h) r ↔ ¬ y = 0 ∧ x_R C k (pc + 1, L, .long (x / y) :: st, h) r := by
  by_cases hy : y = 0
  · rw [x_R_none (x_kd hf (by simp only [x_ins, x_l2, hy, if_true]))]
    simp [hy]
  · rw [x_R_next (g := (pc + 1, L, .long (x / y) :: st, h)) (x_kd hf (by simp only [x_ins, x_l2, hy, if_false, x_n]))]
    simp [hy]
theorem x_R_lrem {x y : Int64} (hf : x_fe g_M k pc = some .lrem) : x_R C k (pc, L, .long y :: .long x :: st, h) r ↔ ¬ y = 0 ∧ x_R C k (pc + 1, L, .long (x - x / y * y) :: st, h) r := by
  by_cases hy : y = 0
  · rw [x_R_none (x_kd hf (by simp only [x_ins, x_l2, hy, if_true]))]
    simp [hy]
  · rw [x_R_next (g := (pc + 1, L, .long (x - x / y * y) :: st, h)) (x_kd hf (by simp only [x_ins, x_l2, hy, if_false, x_n]))]
    simp [hy]
theorem x_R_sw {d0 lo up : Int} {offs : Array Int} {ts : List Nat} {d : Nat} (hf : x_fe g_M k pc = some (.tableswitch d0 lo up offs)) (hd : (pc : Int) + d0 = (d : Int)) (ht : offs.toList.map (fun o => ((pc : Int) + o).toNat) = ts) (hn : ((up - lo + 1).toNat) = offs.size) (h0 : (offs.toList.all (fun o => decide (0 ≤ (pc : Int) + o)) && decide (lo ≤ up)) = true) : x_R C k (pc, L, .int x :: st, h) r ↔ x_R C k (x_sw x lo ts d, L, st, h) r := by
  simp only [Bool.and_eq_true, decide_eq_true_eq, List.all_eq_true] at h0
  refine x_R_next (x_kd hf ?_)
  simp only [x_ins, x_i1]
  by_cases h1 : x.toInt < lo ∨ up < x.toInt
  · rw [if_pos h1]
    unfold x_tg
    rw [if_pos (by omega), hd]
    have : x_sw x lo ts d = d := by
      unfold x_sw
      by_cases h2 : x.toInt < lo
      · rw [if_pos h2]
      · rw [if_neg h2, List.getD_eq_getElem?_getD, List.getElem?_eq_none]
        · rfl
        · rw [← ht, List.length_map, Array.length_toList, ← hn]
          omega
    rw [this]
    rfl
  · rw [if_neg h1]
    have h2 : ¬ x.toInt < lo := fun z => h1 (Or.inl z)
    have h3 : (x.toInt - lo).toNat < offs.size := by rw [← hn]; omega
    have h4 : offs[(x.toInt - lo).toNat]? = some offs[(x.toInt - lo).toNat] := Array.getElem?_eq_getElem h3
    rw [h4]
    simp only
    have h5 : 0 ≤ (pc : Int) + offs[(x.toInt - lo).toNat] := h0.1 _ (by simp)
    unfold x_tg
    rw [if_pos h5]
    have : x_sw x lo ts d = ((pc : Int) + offs[(x.toInt - lo).toNat]).toNat := by
      unfold x_sw
      rw [if_neg h2, List.getD_eq_getElem?_getD, ← ht, List.getElem?_map, Array.getElem?_toList, h4]
      rfl
    rw [this]
theorem x_R_virP {k' z : Nat} {as rest : List Value} (hf : x_fe g_M k pc = some (.invokevirtual idx)) (hp : x_pl g_M (x_ow g_M k) idx = some (1, k', z)) (hpr : x_pr g_M k' = true) (hc : ((Value.ref a :: as).reverse ++ rest) = st) (hn : as.length = x_np g_M k') (hs : x_sum rest ≤ 8) (ha : x_lim ≤ a) : x_R C k (pc, L, st, h) r ↔ ∃ q, C k' (.ref a :: as) h q ∧ x_R C k (pc + 3, L, q.1.toList ++ rest, q.2) r := by
  subst hc
  have h1 : (((Value.ref a :: as).reverse ++ rest).take (x_np g_M k' + 1)) = (Value.ref a :: as).reverse := by
    rw [List.take_append_of_le_length (by simp [hn]), List.take_of_length_le (by simp [hn])]
  have h2 : (((Value.ref a :: as).reverse ++ rest).drop (x_np g_M k' + 1)) = rest := by
    rw [List.drop_append_of_le_length (by simp [hn]), List.drop_of_length_le (by simp [hn])]
    rfl
  refine x_R_call (k' := k') (as := .ref a :: as) (g := (pc + 3, L, rest, h)) (x_kd hf ?_)
  simp only [x_ins, hp, x_virt, x_cut, h1, h2]
  rw [if_pos ⟨by simp [hn], hs⟩, List.reverse_reverse]
  simp only [x_hd, x_call]
  rw [if_pos (Or.inr ⟨hpr, ha⟩)]
end XR
