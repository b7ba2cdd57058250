/-! THE WALK: a run of the abstract machine is a run of the machine (own work) -/
section XS
variable {p : Program} {l : Launch} {e : Env} {R : Room} {s : State} {m : MethodId} {args : Array Value} {below : List Frame} {meth : Method} {c : Code} {Q : State → Prop}
variable {M : xM} {nm : Nat → String} {yn : Nat → MethodName} {bc : Nat → ByteArray} {ALL : List Cond} {cl : List vw_C} {tys : List FieldType} {D : va_G} {cA : Nat → ClassId} {b B : Nat} {ext : Nat → Nat} {E : State → Prop} {j pc : Nat} {L : List (Option Value)} {st : List Value} {h : xH} {f : xF} {cells slots : Nat}

def x_hp (q : xK) : xH := match q with
  | .inl g => g.2.2.2
  | .inr (.inl r) => r.2
  | .inr (.inr (_, _, g)) => g.2.2.2
theorem x_copy_mono {q : xK} (hs : x_copy pc L st h = some q) : (h.length ≤ (x_hp q).length ∧ x_sz h ≤ x_sz (x_hp q)) ∧ ((∀ g, q ≠ .inl g) → x_hp q = h) := by
  unfold x_copy at hs
  split at hs
  · split at hs
    · cases hs
    split at hs
    · rename_i hf hg
      split at hs
      · rename_i hcond
        cases hs
        exact ⟨⟨by simp [x_hp], Nat.le_of_eq (x_sz_set (by simp [x_one, x_cpy_len _ _ hcond.2.2.1 hcond.2.2.2]) h _ hg).symm⟩, fun z => absurd rfl (z _)⟩
      · cases hs
    · rename_i hf hg
      split at hs
      · rename_i hcond
        cases hs
        exact ⟨⟨by simp [x_hp], Nat.le_of_eq (x_sz_set (by simp [x_one, x_cpy_len _ _ hcond.1 hcond.2]) h _ hg).symm⟩, fun z => absurd rfl (z _)⟩
      · cases hs
    · cases hs
  · cases hs
theorem x_ins_mono {i : Instr} {q : xK} (hs : x_ins M j i pc L st h = some q) : (h.length ≤ (x_hp q).length ∧ x_sz h ≤ x_sz (x_hp q)) ∧ ((∀ g, q ≠ .inl g) → x_hp q = h) := by
  cases i with
  | iconst z =>
    cases hs
    exact ⟨⟨Nat.le_refl _, Nat.le_refl _⟩, fun _ => rfl⟩
  | bipush z =>
    cases hs
    exact ⟨⟨Nat.le_refl _, Nat.le_refl _⟩, fun _ => rfl⟩
  | sipush z =>
    cases hs
    exact ⟨⟨Nat.le_refl _, Nat.le_refl _⟩, fun _ => rfl⟩
  | lconst z =>
    cases hs
    exact ⟨⟨Nat.le_refl _, Nat.le_refl _⟩, fun _ => rfl⟩
  | iload_n z =>
    obtain ⟨_, _, hs⟩ := x_ldi_s hs
    cases hs
    exact ⟨⟨Nat.le_refl _, Nat.le_refl _⟩, fun _ => rfl⟩
  | iload z =>
    obtain ⟨_, _, hs⟩ := x_ldi_s hs
    cases hs
    exact ⟨⟨Nat.le_refl _, Nat.le_refl _⟩, fun _ => rfl⟩
  | lload_n z =>
    obtain ⟨_, _, hs⟩ := x_ldl_s hs
    cases hs
    exact ⟨⟨Nat.le_refl _, Nat.le_refl _⟩, fun _ => rfl⟩
  | lload z =>
    obtain ⟨_, _, hs⟩ := x_ldl_s hs
    cases hs
    exact ⟨⟨Nat.le_refl _, Nat.le_refl _⟩, fun _ => rfl⟩
  | aload_n z =>
    obtain ⟨_, _, hs⟩ := x_lda_s hs
    cases hs
    exact ⟨⟨Nat.le_refl _, Nat.le_refl _⟩, fun _ => rfl⟩
  | aload z =>
    obtain ⟨_, _, hs⟩ := x_lda_s hs
    cases hs
    exact ⟨⟨Nat.le_refl _, Nat.le_refl _⟩, fun _ => rfl⟩
  | istore_n z =>
    obtain ⟨_, _, _, hs⟩ := x_i1_s hs
    obtain ⟨_, hs⟩ := x_sto_s hs
    cases hs
    exact ⟨⟨Nat.le_refl _, Nat.le_refl _⟩, fun _ => rfl⟩
  | istore z =>
    obtain ⟨_, _, _, hs⟩ := x_i1_s hs
    obtain ⟨_, hs⟩ := x_sto_s hs
    cases hs
    exact ⟨⟨Nat.le_refl _, Nat.le_refl _⟩, fun _ => rfl⟩
  | astore_n z =>
    obtain ⟨_, _, _, hs⟩ := x_r1_s hs
    obtain ⟨_, hs⟩ := x_sto_s hs
    cases hs
    exact ⟨⟨Nat.le_refl _, Nat.le_refl _⟩, fun _ => rfl⟩
  | astore z =>
    obtain ⟨_, _, _, hs⟩ := x_r1_s hs
    obtain ⟨_, hs⟩ := x_sto_s hs
    cases hs
    exact ⟨⟨Nat.le_refl _, Nat.le_refl _⟩, fun _ => rfl⟩
  | iinc z y =>
    obtain ⟨_, _, hs⟩ := x_ldi_s hs
    obtain ⟨_, hs⟩ := x_sto_s hs
    cases hs
    exact ⟨⟨Nat.le_refl _, Nat.le_refl _⟩, fun _ => rfl⟩
  | iadd =>
    obtain ⟨_, _, _, _, hs⟩ := x_i2_s hs
    cases hs
    exact ⟨⟨Nat.le_refl _, Nat.le_refl _⟩, fun _ => rfl⟩
  | isub =>
    obtain ⟨_, _, _, _, hs⟩ := x_i2_s hs
    cases hs
    exact ⟨⟨Nat.le_refl _, Nat.le_refl _⟩, fun _ => rfl⟩
  | imul =>
    obtain ⟨_, _, _, _, hs⟩ := x_i2_s hs
    cases hs
    exact ⟨⟨Nat.le_refl _, Nat.le_refl _⟩, fun _ => rfl⟩
  | iand =>
    obtain ⟨_, _, _, _, hs⟩ := x_i2_s hs
    cases hs
    exact ⟨⟨Nat.le_refl _, Nat.le_refl _⟩, fun _ => rfl⟩
  | ior =>
    obtain ⟨_, _, _, _, hs⟩ := x_i2_s hs
    cases hs
    exact ⟨⟨Nat.le_refl _, Nat.le_refl _⟩, fun _ => rfl⟩
  | ixor =>
    obtain ⟨_, _, _, _, hs⟩ := x_i2_s hs
    cases hs
    exact ⟨⟨Nat.le_refl _, Nat.le_refl _⟩, fun _ => rfl⟩
  | ishl =>
    obtain ⟨_, _, _, _, hs⟩ := x_i2_s hs
    cases hs
    exact ⟨⟨Nat.le_refl _, Nat.le_refl _⟩, fun _ => rfl⟩
  | ishr =>
    obtain ⟨_, _, _, _, hs⟩ := x_i2_s hs
    cases hs
    exact ⟨⟨Nat.le_refl _, Nat.le_refl _⟩, fun _ => rfl⟩
  | iushr =>
    obtain ⟨_, _, _, _, hs⟩ := x_i2_s hs
    cases hs
    exact ⟨⟨Nat.le_refl _, Nat.le_refl _⟩, fun _ => rfl⟩
  | ladd =>
    obtain ⟨_, _, _, _, hs⟩ := x_l2_s hs
    cases hs
    exact ⟨⟨Nat.le_refl _, Nat.le_refl _⟩, fun _ => rfl⟩
  | lmul =>
    obtain ⟨_, _, _, _, hs⟩ := x_l2_s hs
    cases hs
    exact ⟨⟨Nat.le_refl _, Nat.le_refl _⟩, fun _ => rfl⟩
  | land =>
    obtain ⟨_, _, _, _, hs⟩ := x_l2_s hs
    cases hs
    exact ⟨⟨Nat.le_refl _, Nat.le_refl _⟩, fun _ => rfl⟩
  | lor =>
    obtain ⟨_, _, _, _, hs⟩ := x_l2_s hs
    cases hs
    exact ⟨⟨Nat.le_refl _, Nat.le_refl _⟩, fun _ => rfl⟩
  | lcmp =>
    obtain ⟨_, _, _, _, hs⟩ := x_l2_s hs
    cases hs
    exact ⟨⟨Nat.le_refl _, Nat.le_refl _⟩, fun _ => rfl⟩
  | lshl =>
    obtain ⟨_, _, _, _, hs⟩ := x_li_s hs
    cases hs
    exact ⟨⟨Nat.le_refl _, Nat.le_refl _⟩, fun _ => rfl⟩
  | lshr =>
    obtain ⟨_, _, _, _, hs⟩ := x_li_s hs
    cases hs
    exact ⟨⟨Nat.le_refl _, Nat.le_refl _⟩, fun _ => rfl⟩
  | ineg =>
    obtain ⟨_, _, _, hs⟩ := x_i1_s hs
    cases hs
    exact ⟨⟨Nat.le_refl _, Nat.le_refl _⟩, fun _ => rfl⟩
  | i2l =>
    obtain ⟨_, _, _, hs⟩ := x_i1_s hs
    cases hs
    exact ⟨⟨Nat.le_refl _, Nat.le_refl _⟩, fun _ => rfl⟩
  | i2b =>
    obtain ⟨_, _, _, hs⟩ := x_i1_s hs
    cases hs
    exact ⟨⟨Nat.le_refl _, Nat.le_refl _⟩, fun _ => rfl⟩
  | i2s =>
    obtain ⟨_, _, _, hs⟩ := x_i1_s hs
    cases hs
    exact ⟨⟨Nat.le_refl _, Nat.le_refl _⟩, fun _ => rfl⟩
  | l2i =>
    obtain ⟨_, _, _, hs⟩ := x_l1_s hs
    cases hs
    exact ⟨⟨Nat.le_refl _, Nat.le_refl _⟩, fun _ => rfl⟩
  | dup =>
    obtain ⟨_, _, _, _, hs⟩ := x_v1_s hs
    cases hs
    exact ⟨⟨Nat.le_refl _, Nat.le_refl _⟩, fun _ => rfl⟩
  | pop =>
    obtain ⟨_, _, _, _, hs⟩ := x_v1_s hs
    cases hs
    exact ⟨⟨Nat.le_refl _, Nat.le_refl _⟩, fun _ => rfl⟩
  | dup2 =>
    obtain ⟨_, _, _, _, hs⟩ := x_v1_s hs
    obtain ⟨_, _, _, _, hs⟩ := x_v1_s hs
    cases hs
    exact ⟨⟨Nat.le_refl _, Nat.le_refl _⟩, fun _ => rfl⟩
  | goto z =>
    obtain ⟨_, _, hs⟩ := x_tg_s hs
    cases hs
    exact ⟨⟨Nat.le_refl _, Nat.le_refl _⟩, fun _ => rfl⟩
  | idiv =>
    obtain ⟨_, _, _, _, hs⟩ := x_i2_s hs
    split at hs
    · cases hs
    · cases hs
      exact ⟨⟨Nat.le_refl _, Nat.le_refl _⟩, fun _ => rfl⟩
  | irem =>
    obtain ⟨_, _, _, _, hs⟩ := x_i2_s hs
    split at hs
    · cases hs
    · cases hs
      exact ⟨⟨Nat.le_refl _, Nat.le_refl _⟩, fun _ => rfl⟩
  | ldiv =>
    obtain ⟨_, _, _, _, hs⟩ := x_l2_s hs
    split at hs
    · cases hs
    · cases hs
      exact ⟨⟨Nat.le_refl _, Nat.le_refl _⟩, fun _ => rfl⟩
  | lrem =>
    obtain ⟨_, _, _, _, hs⟩ := x_l2_s hs
    split at hs
    · cases hs
    · cases hs
      exact ⟨⟨Nat.le_refl _, Nat.le_refl _⟩, fun _ => rfl⟩
  | ifCond z off =>
    obtain ⟨_, _, _, hs⟩ := x_i1_s hs
    obtain ⟨t, _, hs⟩ := x_br_s hs
    rcases hs with ⟨_, hs⟩ | ⟨_, hs⟩
    · cases hs
      exact ⟨⟨Nat.le_refl _, Nat.le_refl _⟩, fun _ => rfl⟩
    · cases hs
      exact ⟨⟨Nat.le_refl _, Nat.le_refl _⟩, fun _ => rfl⟩
  | if_icmp z off =>
    obtain ⟨_, _, _, _, hs⟩ := x_i2_s hs
    obtain ⟨t, _, hs⟩ := x_br_s hs
    rcases hs with ⟨_, hs⟩ | ⟨_, hs⟩
    · cases hs
      exact ⟨⟨Nat.le_refl _, Nat.le_refl _⟩, fun _ => rfl⟩
    · cases hs
      exact ⟨⟨Nat.le_refl _, Nat.le_refl _⟩, fun _ => rfl⟩
  | tableswitch d lo up offs =>
    obtain ⟨_, _, _, hs⟩ := x_i1_s hs
    split at hs
    · obtain ⟨_, _, hs⟩ := x_tg_s hs
      cases hs
      exact ⟨⟨Nat.le_refl _, Nat.le_refl _⟩, fun _ => rfl⟩
    · split at hs
      · obtain ⟨_, _, hs⟩ := x_tg_s hs
        cases hs
        exact ⟨⟨Nat.le_refl _, Nat.le_refl _⟩, fun _ => rfl⟩
      · cases hs
  | ldc z =>
    simp only [x_ins] at hs
    split at hs
    · cases hs
      exact ⟨⟨Nat.le_refl _, Nat.le_refl _⟩, fun _ => rfl⟩
    · cases hs
      exact ⟨⟨Nat.le_refl _, Nat.le_refl _⟩, fun _ => rfl⟩
    · cases hs
  | ldc_w z =>
    simp only [x_ins] at hs
    split at hs
    · cases hs
      exact ⟨⟨Nat.le_refl _, Nat.le_refl _⟩, fun _ => rfl⟩
    · cases hs
  | ldc2_w z =>
    simp only [x_ins] at hs
    split at hs
    · cases hs
      exact ⟨⟨Nat.le_refl _, Nat.le_refl _⟩, fun _ => rfl⟩
    · cases hs
  | getfield z =>
    obtain ⟨_, _, _, hs⟩ := x_r1_s hs
    split at hs
    · obtain ⟨_, _, hs⟩ := x_ob_s hs
      split at hs
      · cases hs
        exact ⟨⟨Nat.le_refl _, Nat.le_refl _⟩, fun _ => rfl⟩
      · cases hs
    · cases hs
  | putfield z =>
    obtain ⟨_, _, _, _, hs⟩ := x_vr_s hs
    split at hs
    · obtain ⟨_, hr, hs⟩ := x_ob_s hs
      split at hs
      · cases hs
        exact ⟨⟨by simp [x_hp], Nat.le_of_eq (x_sz_set (by simp [x_one]) h _ hr).symm⟩, fun z => absurd rfl (z _)⟩
      · cases hs
    · cases hs
  | new z =>
    simp only [x_ins] at hs
    split at hs
    · obtain ⟨_, hs⟩ := x_made_s hs
      cases hs
      exact ⟨⟨by simp [x_hp], by show x_sz h ≤ x_sz (h ++ [_]); rw [x_sz_push]; omega⟩, fun z => absurd rfl (z _)⟩
    · cases hs
  | newarray z =>
    obtain ⟨_, _, _, hs⟩ := x_i1_s hs
    split at hs
    · cases hs
    split at hs
    · obtain ⟨_, hs⟩ := x_made_s hs
      cases hs
      exact ⟨⟨by simp [x_hp], by show x_sz h ≤ x_sz (h ++ [_]); rw [x_sz_push]; omega⟩, fun z => absurd rfl (z _)⟩
    · obtain ⟨_, hs⟩ := x_made_s hs
      cases hs
      exact ⟨⟨by simp [x_hp], by show x_sz h ≤ x_sz (h ++ [_]); rw [x_sz_push]; omega⟩, fun z => absurd rfl (z _)⟩
    · obtain ⟨_, hs⟩ := x_made_s hs
      cases hs
      exact ⟨⟨by simp [x_hp], by show x_sz h ≤ x_sz (h ++ [_]); rw [x_sz_push]; omega⟩, fun z => absurd rfl (z _)⟩
    · obtain ⟨_, hs⟩ := x_made_s hs
      cases hs
      exact ⟨⟨by simp [x_hp], by show x_sz h ≤ x_sz (h ++ [_]); rw [x_sz_push]; omega⟩, fun z => absurd rfl (z _)⟩
    · cases hs
  | anewarray z =>
    obtain ⟨_, _, _, hs⟩ := x_i1_s hs
    split at hs
    · cases hs
    split at hs
    · obtain ⟨_, hs⟩ := x_made_s hs
      cases hs
      exact ⟨⟨by simp [x_hp], by show x_sz h ≤ x_sz (h ++ [_]); rw [x_sz_push]; omega⟩, fun z => absurd rfl (z _)⟩
    · cases hs
  | arraylength =>
    obtain ⟨_, _, _, hs⟩ := x_r1_s hs
    split at hs
    · cases hs
      exact ⟨⟨Nat.le_refl _, Nat.le_refl _⟩, fun _ => rfl⟩
    · cases hs
  | iaload =>
    obtain ⟨_, _, _, _, hs⟩ := x_ri_s hs
    obtain ⟨_, _, _, hs⟩ := x_ri0_s hs
    split at hs
    · obtain ⟨_, _, _, hs⟩ := x_at'_s hs
      cases hs
      exact ⟨⟨Nat.le_refl _, Nat.le_refl _⟩, fun _ => rfl⟩
    · cases hs
  | baload =>
    obtain ⟨_, _, _, _, hs⟩ := x_ri_s hs
    obtain ⟨_, _, _, hs⟩ := x_ri0_s hs
    split at hs
    · obtain ⟨_, _, _, hs⟩ := x_at'_s hs
      cases hs
      exact ⟨⟨Nat.le_refl _, Nat.le_refl _⟩, fun _ => rfl⟩
    · cases hs
  | laload =>
    obtain ⟨_, _, _, _, hs⟩ := x_ri_s hs
    obtain ⟨_, _, hs⟩ := x_rl0_s hs
    obtain ⟨_, _, _, hs⟩ := x_at'_s hs
    cases hs
    exact ⟨⟨Nat.le_refl _, Nat.le_refl _⟩, fun _ => rfl⟩
  | aaload =>
    obtain ⟨_, _, _, _, hs⟩ := x_ri_s hs
    obtain ⟨_, _, _, hs⟩ := x_rq0_s hs
    obtain ⟨_, _, _, hs⟩ := x_at'_s hs
    split at hs
    · cases hs
      exact ⟨⟨Nat.le_refl _, Nat.le_refl _⟩, fun _ => rfl⟩
    · cases hs
  | iastore =>
    obtain ⟨_, _, _, _, _, hs⟩ := x_rii_s hs
    obtain ⟨_, _, hr, hs⟩ := x_ri0_s hs
    split at hs
    · obtain ⟨_, _, _, hs⟩ := x_at'_s hs
      cases hs
      exact ⟨⟨by simp [x_hp], Nat.le_of_eq (x_sz_set (by simp [x_one]) h _ hr).symm⟩, fun z => absurd rfl (z _)⟩
    · cases hs
  | bastore =>
    obtain ⟨_, _, _, _, _, hs⟩ := x_rii_s hs
    obtain ⟨_, _, hr, hs⟩ := x_ri0_s hs
    split at hs
    · obtain ⟨_, _, _, hs⟩ := x_at'_s hs
      cases hs
      exact ⟨⟨by simp [x_hp], Nat.le_of_eq (x_sz_set (by simp [x_one]) h _ hr).symm⟩, fun z => absurd rfl (z _)⟩
    · cases hs
  | lastore =>
    obtain ⟨_, _, _, _, _, hs⟩ := x_ril_s hs
    obtain ⟨_, hr, hs⟩ := x_rl0_s hs
    obtain ⟨_, _, _, hs⟩ := x_at'_s hs
    cases hs
    exact ⟨⟨by simp [x_hp], Nat.le_of_eq (x_sz_set (by simp [x_one]) h _ hr).symm⟩, fun z => absurd rfl (z _)⟩
  | aastore =>
    obtain ⟨_, _, _, _, _, hs⟩ := x_rir_s hs
    obtain ⟨_, _, hr, hs⟩ := x_rq0_s hs
    split at hs
    · split at hs
      · obtain ⟨_, _, _, hs⟩ := x_at'_s hs
        cases hs
        exact ⟨⟨by simp [x_hp], Nat.le_of_eq (x_sz_set (by simp [x_one]) h _ hr).symm⟩, fun z => absurd rfl (z _)⟩
      · cases hs
    · cases hs
  | invokevirtual z =>
    simp only [x_ins] at hs
    split at hs
    · obtain ⟨_, _, _, _, _, hs⟩ := x_cut_s hs
      obtain ⟨_, _, _, hs⟩ := x_hd_s hs
      split at hs
      · cases hs
        exact ⟨⟨Nat.le_refl _, Nat.le_refl _⟩, fun _ => rfl⟩
      · cases hs
    · cases hs
  | invokespecial z =>
    simp only [x_ins] at hs
    split at hs
    · obtain ⟨_, _, _, _, _, hs⟩ := x_cut_s hs
      obtain ⟨_, _, _, hs⟩ := x_hd_s hs
      cases hs
      exact ⟨⟨Nat.le_refl _, Nat.le_refl _⟩, fun _ => rfl⟩
    · obtain ⟨_, _, _, _, _, hs⟩ := x_cut_s hs
      obtain ⟨_, _, _, hs⟩ := x_hd_s hs
      cases hs
      exact ⟨⟨Nat.le_refl _, Nat.le_refl _⟩, fun _ => rfl⟩
    · obtain ⟨_, _, _, hs⟩ := x_r1_s hs
      split at hs
      · cases hs
        exact ⟨⟨Nat.le_refl _, Nat.le_refl _⟩, fun _ => rfl⟩
      · cases hs
    · cases hs
  | invokestatic z =>
    simp only [x_ins] at hs
    split at hs
    · obtain ⟨_, _, _, _, _, hs⟩ := x_cut_s hs
      cases hs
      exact ⟨⟨Nat.le_refl _, Nat.le_refl _⟩, fun _ => rfl⟩
    · obtain ⟨_, _, _, _, _, hs⟩ := x_cut_s hs
      cases hs
      exact ⟨⟨Nat.le_refl _, Nat.le_refl _⟩, fun _ => rfl⟩
    · exact x_copy_mono hs
    · obtain ⟨_, _, _, _, hs⟩ := x_i2_s hs
      split at hs
      · cases hs
        exact ⟨⟨Nat.le_refl _, Nat.le_refl _⟩, fun _ => rfl⟩
      · cases hs
    · obtain ⟨_, _, _, _, hs⟩ := x_i2_s hs
      split at hs
      · cases hs
        exact ⟨⟨Nat.le_refl _, Nat.le_refl _⟩, fun _ => rfl⟩
      · cases hs
    · cases hs
  | ireturn =>
    simp only [x_ins] at hs
    split at hs
    · split at hs
      · split at hs
        · cases hs
          exact ⟨⟨Nat.le_refl _, Nat.le_refl _⟩, fun _ => rfl⟩
        · cases hs
      · cases hs
    · cases hs
  | lreturn =>
    simp only [x_ins] at hs
    split at hs
    · split at hs
      · cases hs
        exact ⟨⟨Nat.le_refl _, Nat.le_refl _⟩, fun _ => rfl⟩
      · cases hs
    · cases hs
  | return_ =>
    simp only [x_ins] at hs
    split at hs
    · split at hs
      · cases hs
        exact ⟨⟨Nat.le_refl _, Nat.le_refl _⟩, fun _ => rfl⟩
      · cases hs
    · cases hs
  | _ => cases hs

theorem x_kind_i {q : xK} (hs : x_kind M j (pc, L, st, h) = some q) : ∃ i, x_fe M j pc = some i ∧ x_ins M j i pc L st h = some q := by
  unfold x_kind at hs
  split at hs
  · rename_i i hi
    exact ⟨i, hi, hs⟩
  · cases hs

theorem x_step (hT : x_T M nm yn bc ALL cl tys) (hc : x_cx p s m args meth c M nm yn bc ALL cl tys D cA B ext E b j) (hR : 1 ≤ R.frames ∧ 40 ≤ R.locals) (hcl : cells + f.2.2.2.length ≤ R.cells + h.length) (hsl : slots + x_sz f.2.2.2 ≤ R.slots + x_sz h) (hk : x_kind M j (pc, L, st, h) = some (.inl f)) (k : ∀ cells' slots', cells' + h.length = cells + f.2.2.2.length → slots' + x_sz h = slots + x_sz f.2.2.2 → x_go p l e R s m args below meth c Q M cl D cA b B ext j f cells' slots') : x_go p l e R s m args below meth c Q M cl D cA b B ext j (pc, L, st, h) cells slots := by
  obtain ⟨i, hi, hs⟩ := x_kind_i hk
  cases i with
  | iconst z0 => exact xs_iconst hT hc hi hs k
  | bipush z0 => exact xs_bipush hT hc hi hs k
  | sipush z0 => exact xs_sipush hT hc hi hs k
  | lconst z0 => exact xs_lconst hT hc hi hs k
  | iload_n z0 => exact xs_iload_n hT hc hi hs k
  | iload z0 => exact xs_iload hT hc hi hs k
  | lload_n z0 => exact xs_lload_n hT hc hi hs k
  | lload z0 => exact xs_lload hT hc hi hs k
  | aload_n z0 => exact xs_aload_n hT hc hi hs k
  | aload z0 => exact xs_aload hT hc hi hs k
  | istore_n z0 => exact xs_istore_n hT hc hi hs k
  | istore z0 => exact xs_istore hT hc hi hs k
  | astore_n z0 => exact xs_astore_n hT hc hi hs k
  | astore z0 => exact xs_astore hT hc hi hs k
  | iinc z0 z1 => exact xs_iinc hT hc hi hs k
  | iadd => exact xs_iadd hT hc hi hs k
  | isub => exact xs_isub hT hc hi hs k
  | imul => exact xs_imul hT hc hi hs k
  | iand => exact xs_iand hT hc hi hs k
  | ior => exact xs_ior hT hc hi hs k
  | ixor => exact xs_ixor hT hc hi hs k
  | ishl => exact xs_ishl hT hc hi hs k
  | ishr => exact xs_ishr hT hc hi hs k
  | iushr => exact xs_iushr hT hc hi hs k
  | idiv => exact xs_idiv hT hc hi hs k
  | irem => exact xs_irem hT hc hi hs k
  | ineg => exact xs_ineg hT hc hi hs k
  | ladd => exact xs_ladd hT hc hi hs k
  | lmul => exact xs_lmul hT hc hi hs k
  | land => exact xs_land hT hc hi hs k
  | lor => exact xs_lor hT hc hi hs k
  | ldiv => exact xs_ldiv hT hc hi hs k
  | lrem => exact xs_lrem hT hc hi hs k
  | lshl => exact xs_lshl hT hc hi hs k
  | lshr => exact xs_lshr hT hc hi hs k
  | lcmp => exact xs_lcmp hT hc hi hs k
  | i2l => exact xs_i2l hT hc hi hs k
  | l2i => exact xs_l2i hT hc hi hs k
  | i2b => exact xs_i2b hT hc hi hs k
  | i2s => exact xs_i2s hT hc hi hs k
  | dup => exact xs_dup hT hc hi hs k
  | pop => exact xs_pop hT hc hi hs k
  | dup2 => exact xs_dup2 hT hc hi hs k
  | ifCond z0 z1 => exact xs_ifCond hT hc hi hs k
  | if_icmp z0 z1 => exact xs_if_icmp hT hc hi hs k
  | goto z0 => exact xs_goto hT hc hi hs k
  | tableswitch z0 z1 z2 z3 => exact xs_tableswitch hT hc hi hs k
  | ldc z0 => exact xs_ldc hT hc hi hs k
  | ldc_w z0 => exact xs_ldc_w hT hc hi hs k
  | ldc2_w z0 => exact xs_ldc2_w hT hc hi hs k
  | getfield z0 => exact xs_getfield hT hc hi hR hcl hsl hs k
  | putfield z0 => exact xs_putfield hT hc hi hR hcl hsl hs k
  | new z0 => exact xs_new hT hc hi hR hcl hsl hs k
  | newarray z0 => exact xs_newarray hT hc hi hR hcl hsl hs k
  | anewarray z0 => exact xs_anewarray hT hc hi hR hcl hsl hs k
  | arraylength => exact xs_arraylength hT hc hi hR hcl hsl hs k
  | iaload => exact xs_iaload hT hc hi hR hcl hsl hs k
  | baload => exact xs_baload hT hc hi hR hcl hsl hs k
  | laload => exact xs_laload hT hc hi hR hcl hsl hs k
  | aaload => exact xs_aaload hT hc hi hR hcl hsl hs k
  | iastore => exact xs_iastore hT hc hi hR hcl hsl hs k
  | bastore => exact xs_bastore hT hc hi hR hcl hsl hs k
  | lastore => exact xs_lastore hT hc hi hR hcl hsl hs k
  | aastore => exact xs_aastore hT hc hi hR hcl hsl hs k
  | invokevirtual z =>
    simp only [x_ins] at hs
    split at hs
    · obtain ⟨_, _, _, _, _, hs⟩ := x_cut_s hs
      obtain ⟨_, _, _, hs⟩ := x_hd_s hs
      split at hs <;> cases hs
    · cases hs
  | invokespecial z =>
    have hs0 := hs
    simp only [x_ins] at hs
    split at hs
    · obtain ⟨_, _, _, _, _, hs⟩ := x_cut_s hs
      obtain ⟨_, _, _, hs⟩ := x_hd_s hs
      cases hs
    · obtain ⟨_, _, _, _, _, hs⟩ := x_cut_s hs
      obtain ⟨_, _, _, hs⟩ := x_hd_s hs
      cases hs
    · rename_i hp
      exact xs_objInit hT hc hi hp hR hcl hsl hs0 k
    · cases hs
  | invokestatic z =>
    have hs0 := hs
    simp only [x_ins] at hs
    split at hs
    · obtain ⟨_, _, _, _, _, hs⟩ := x_cut_s hs
      cases hs
    · obtain ⟨_, _, _, _, _, hs⟩ := x_cut_s hs
      cases hs
    · rename_i hp
      exact xs_copy hT hc hi hp hR hcl hsl hs0 k
    · rename_i hp
      exact xs_mmax hT hc hi hp hR hcl hsl hs0 k
    · rename_i hp
      exact xs_mmin hT hc hi hp hR hcl hsl hs0 k
    · cases hs
  | ireturn =>
    simp only [x_ins] at hs
    split at hs
    · split at hs
      · split at hs <;> cases hs
      · cases hs
    · cases hs
  | lreturn =>
    simp only [x_ins] at hs
    split at hs
    · split at hs <;> cases hs
    · cases hs
  | return_ =>
    simp only [x_ins] at hs
    split at hs
    · split at hs <;> cases hs
    · cases hs
  | _ => cases hs
theorem x_copy_no {r : (Option Value × xH) ⊕ (Nat × List Value × xF)} : ¬ x_copy pc L st h = some (.inr r) := by
  intro hs
  unfold x_copy at hs
  split at hs
  · split at hs
    · cases hs
    split at hs
    · split at hs <;> cases hs
    · split at hs <;> cases hs
    · cases hs
  · cases hs
theorem x_callstep (hT : x_T M nm yn bc ALL cl tys) (hc : x_cx p s m args meth c M nm yn bc ALL cl tys D cA B ext E b j) (hE : x_Eo B E) {d : Nat} {C : Nat → List Value → xH → Option Value × xH → Prop} (hG : x_good l M nm yn bc ALL cl tys D cA b B ext E d C) (hR : d + 1 ≤ R.frames ∧ (d + 1) * 59 ≤ R.locals) {k' : Nat} {as : List Value} {g : xF} {q : Option Value × xH} (hC : C k' as g.2.2.2 q) (hcl : cells + q.2.length ≤ R.cells + h.length) (hsl : slots + x_sz q.2 ≤ R.slots + x_sz h) (hk : x_kind M j (pc, L, st, h) = some (.inr (.inr (k', as, g)))) (kk : ∀ cells' slots', cells' + h.length = cells + q.2.length → slots' + x_sz h = slots + x_sz q.2 → x_go p l e R s m args below meth c Q M cl D cA b B ext j (g.1, g.2.1, q.1.toList ++ g.2.2.1, q.2) cells' slots') : x_go p l e R s m args below meth c Q M cl D cA b B ext j (pc, L, st, h) cells slots := by
  obtain ⟨i, hi, hs⟩ := x_kind_i hk
  cases i with
  | iconst z =>
    cases hs
  | bipush z =>
    cases hs
  | sipush z =>
    cases hs
  | lconst z =>
    cases hs
  | iload_n z =>
    obtain ⟨_, _, hs⟩ := x_ldi_s hs
    cases hs
  | iload z =>
    obtain ⟨_, _, hs⟩ := x_ldi_s hs
    cases hs
  | lload_n z =>
    obtain ⟨_, _, hs⟩ := x_ldl_s hs
    cases hs
  | lload z =>
    obtain ⟨_, _, hs⟩ := x_ldl_s hs
    cases hs
  | aload_n z =>
    obtain ⟨_, _, hs⟩ := x_lda_s hs
    cases hs
  | aload z =>
    obtain ⟨_, _, hs⟩ := x_lda_s hs
    cases hs
  | istore_n z =>
    obtain ⟨_, _, _, hs⟩ := x_i1_s hs
    obtain ⟨_, hs⟩ := x_sto_s hs
    cases hs
  | istore z =>
    obtain ⟨_, _, _, hs⟩ := x_i1_s hs
    obtain ⟨_, hs⟩ := x_sto_s hs
    cases hs
  | astore_n z =>
    obtain ⟨_, _, _, hs⟩ := x_r1_s hs
    obtain ⟨_, hs⟩ := x_sto_s hs
    cases hs
  | astore z =>
    obtain ⟨_, _, _, hs⟩ := x_r1_s hs
    obtain ⟨_, hs⟩ := x_sto_s hs
    cases hs
  | iinc z y =>
    obtain ⟨_, _, hs⟩ := x_ldi_s hs
    obtain ⟨_, hs⟩ := x_sto_s hs
    cases hs
  | iadd =>
    obtain ⟨_, _, _, _, hs⟩ := x_i2_s hs
    cases hs
  | isub =>
    obtain ⟨_, _, _, _, hs⟩ := x_i2_s hs
    cases hs
  | imul =>
    obtain ⟨_, _, _, _, hs⟩ := x_i2_s hs
    cases hs
  | iand =>
    obtain ⟨_, _, _, _, hs⟩ := x_i2_s hs
    cases hs
  | ior =>
    obtain ⟨_, _, _, _, hs⟩ := x_i2_s hs
    cases hs
  | ixor =>
    obtain ⟨_, _, _, _, hs⟩ := x_i2_s hs
    cases hs
  | ishl =>
    obtain ⟨_, _, _, _, hs⟩ := x_i2_s hs
    cases hs
  | ishr =>
    obtain ⟨_, _, _, _, hs⟩ := x_i2_s hs
    cases hs
  | iushr =>
    obtain ⟨_, _, _, _, hs⟩ := x_i2_s hs
    cases hs
  | ladd =>
    obtain ⟨_, _, _, _, hs⟩ := x_l2_s hs
    cases hs
  | lmul =>
    obtain ⟨_, _, _, _, hs⟩ := x_l2_s hs
    cases hs
  | land =>
    obtain ⟨_, _, _, _, hs⟩ := x_l2_s hs
    cases hs
  | lor =>
    obtain ⟨_, _, _, _, hs⟩ := x_l2_s hs
    cases hs
  | lcmp =>
    obtain ⟨_, _, _, _, hs⟩ := x_l2_s hs
    cases hs
  | lshl =>
    obtain ⟨_, _, _, _, hs⟩ := x_li_s hs
    cases hs
  | lshr =>
    obtain ⟨_, _, _, _, hs⟩ := x_li_s hs
    cases hs
  | ineg =>
    obtain ⟨_, _, _, hs⟩ := x_i1_s hs
    cases hs
  | i2l =>
    obtain ⟨_, _, _, hs⟩ := x_i1_s hs
    cases hs
  | i2b =>
    obtain ⟨_, _, _, hs⟩ := x_i1_s hs
    cases hs
  | i2s =>
    obtain ⟨_, _, _, hs⟩ := x_i1_s hs
    cases hs
  | l2i =>
    obtain ⟨_, _, _, hs⟩ := x_l1_s hs
    cases hs
  | dup =>
    obtain ⟨_, _, _, _, hs⟩ := x_v1_s hs
    cases hs
  | pop =>
    obtain ⟨_, _, _, _, hs⟩ := x_v1_s hs
    cases hs
  | dup2 =>
    obtain ⟨_, _, _, _, hs⟩ := x_v1_s hs
    obtain ⟨_, _, _, _, hs⟩ := x_v1_s hs
    cases hs
  | goto z =>
    obtain ⟨_, _, hs⟩ := x_tg_s hs
    cases hs
  | idiv =>
    obtain ⟨_, _, _, _, hs⟩ := x_i2_s hs
    split at hs
    · cases hs
    · cases hs
  | irem =>
    obtain ⟨_, _, _, _, hs⟩ := x_i2_s hs
    split at hs
    · cases hs
    · cases hs
  | ldiv =>
    obtain ⟨_, _, _, _, hs⟩ := x_l2_s hs
    split at hs
    · cases hs
    · cases hs
  | lrem =>
    obtain ⟨_, _, _, _, hs⟩ := x_l2_s hs
    split at hs
    · cases hs
    · cases hs
  | ifCond z off =>
    obtain ⟨_, _, _, hs⟩ := x_i1_s hs
    obtain ⟨t, _, hs⟩ := x_br_s hs
    rcases hs with ⟨_, hs⟩ | ⟨_, hs⟩
    · cases hs
    · cases hs
  | if_icmp z off =>
    obtain ⟨_, _, _, _, hs⟩ := x_i2_s hs
    obtain ⟨t, _, hs⟩ := x_br_s hs
    rcases hs with ⟨_, hs⟩ | ⟨_, hs⟩
    · cases hs
    · cases hs
  | tableswitch d lo up offs =>
    obtain ⟨_, _, _, hs⟩ := x_i1_s hs
    split at hs
    · obtain ⟨_, _, hs⟩ := x_tg_s hs
      cases hs
    · split at hs
      · obtain ⟨_, _, hs⟩ := x_tg_s hs
        cases hs
      · cases hs
  | ldc z =>
    simp only [x_ins] at hs
    split at hs
    · cases hs
    · cases hs
    · cases hs
  | ldc_w z =>
    simp only [x_ins] at hs
    split at hs
    · cases hs
    · cases hs
  | ldc2_w z =>
    simp only [x_ins] at hs
    split at hs
    · cases hs
    · cases hs
  | getfield z =>
    obtain ⟨_, _, _, hs⟩ := x_r1_s hs
    split at hs
    · obtain ⟨_, _, hs⟩ := x_ob_s hs
      split at hs
      · cases hs
      · cases hs
    · cases hs
  | putfield z =>
    obtain ⟨_, _, _, _, hs⟩ := x_vr_s hs
    split at hs
    · obtain ⟨_, hr, hs⟩ := x_ob_s hs
      split at hs
      · cases hs
      · cases hs
    · cases hs
  | new z =>
    simp only [x_ins] at hs
    split at hs
    · obtain ⟨_, hs⟩ := x_made_s hs
      cases hs
    · cases hs
  | newarray z =>
    obtain ⟨_, _, _, hs⟩ := x_i1_s hs
    split at hs
    · cases hs
    split at hs
    · obtain ⟨_, hs⟩ := x_made_s hs
      cases hs
    · obtain ⟨_, hs⟩ := x_made_s hs
      cases hs
    · obtain ⟨_, hs⟩ := x_made_s hs
      cases hs
    · obtain ⟨_, hs⟩ := x_made_s hs
      cases hs
    · cases hs
  | anewarray z =>
    obtain ⟨_, _, _, hs⟩ := x_i1_s hs
    split at hs
    · cases hs
    split at hs
    · obtain ⟨_, hs⟩ := x_made_s hs
      cases hs
    · cases hs
  | arraylength =>
    obtain ⟨_, _, _, hs⟩ := x_r1_s hs
    split at hs
    · cases hs
    · cases hs
  | iaload =>
    obtain ⟨_, _, _, _, hs⟩ := x_ri_s hs
    obtain ⟨_, _, _, hs⟩ := x_ri0_s hs
    split at hs
    · obtain ⟨_, _, _, hs⟩ := x_at'_s hs
      cases hs
    · cases hs
  | baload =>
    obtain ⟨_, _, _, _, hs⟩ := x_ri_s hs
    obtain ⟨_, _, _, hs⟩ := x_ri0_s hs
    split at hs
    · obtain ⟨_, _, _, hs⟩ := x_at'_s hs
      cases hs
    · cases hs
  | laload =>
    obtain ⟨_, _, _, _, hs⟩ := x_ri_s hs
    obtain ⟨_, _, hs⟩ := x_rl0_s hs
    obtain ⟨_, _, _, hs⟩ := x_at'_s hs
    cases hs
  | aaload =>
    obtain ⟨_, _, _, _, hs⟩ := x_ri_s hs
    obtain ⟨_, _, _, hs⟩ := x_rq0_s hs
    obtain ⟨_, _, _, hs⟩ := x_at'_s hs
    split at hs
    · cases hs
    · cases hs
  | iastore =>
    obtain ⟨_, _, _, _, _, hs⟩ := x_rii_s hs
    obtain ⟨_, _, hr, hs⟩ := x_ri0_s hs
    split at hs
    · obtain ⟨_, _, _, hs⟩ := x_at'_s hs
      cases hs
    · cases hs
  | bastore =>
    obtain ⟨_, _, _, _, _, hs⟩ := x_rii_s hs
    obtain ⟨_, _, hr, hs⟩ := x_ri0_s hs
    split at hs
    · obtain ⟨_, _, _, hs⟩ := x_at'_s hs
      cases hs
    · cases hs
  | lastore =>
    obtain ⟨_, _, _, _, _, hs⟩ := x_ril_s hs
    obtain ⟨_, hr, hs⟩ := x_rl0_s hs
    obtain ⟨_, _, _, hs⟩ := x_at'_s hs
    cases hs
  | aastore =>
    obtain ⟨_, _, _, _, _, hs⟩ := x_rir_s hs
    obtain ⟨_, _, hr, hs⟩ := x_rq0_s hs
    split at hs
    · split at hs
      · obtain ⟨_, _, _, hs⟩ := x_at'_s hs
        cases hs
      · cases hs
    · cases hs
  | ireturn =>
    simp only [x_ins] at hs
    split at hs
    · split at hs
      · split at hs
        · cases hs
        · cases hs
      · cases hs
    · cases hs
  | lreturn =>
    simp only [x_ins] at hs
    split at hs
    · split at hs
      · cases hs
      · cases hs
    · cases hs
  | return_ =>
    simp only [x_ins] at hs
    split at hs
    · split at hs
      · cases hs
      · cases hs
    · cases hs
  | invokevirtual z =>
    have hs0 := hs
    simp only [x_ins] at hs
    split at hs
    · rename_i hp
      exact xs_virt hT hc hi hp hE hG hR hC hcl hsl hs0 kk
    · cases hs
  | invokespecial z =>
    have hs0 := hs
    simp only [x_ins] at hs
    split at hs
    · rename_i hp
      exact xs_spec hT hc hi hp hE hG hR hC hcl hsl hs0 kk
    · rename_i hp
      exact xs_specN hT hc hi hp hE hG hR hC hcl hsl hs0 kk
    · obtain ⟨_, _, _, hs⟩ := x_r1_s hs
      split at hs <;> cases hs
    · cases hs
  | invokestatic z =>
    have hs0 := hs
    simp only [x_ins] at hs
    split at hs
    · rename_i hp
      exact xs_stat hT hc hi hp hE hG hR hC hcl hsl hs0 kk
    · rename_i hp
      exact xs_statN hT hc hi hp hE hG hR hC hcl hsl hs0 kk
    · exact absurd hs x_copy_no
    · obtain ⟨_, _, _, _, hs⟩ := x_i2_s hs
      split at hs <;> cases hs
    · obtain ⟨_, _, _, _, hs⟩ := x_i2_s hs
      split at hs <;> cases hs
    · cases hs
  | _ => cases hs
theorem x_run_mono {C : Nat → List Value → xH → Option Value × xH → Prop} (hC : ∀ k as h q, C k as h q → h.length ≤ q.2.length ∧ x_sz h ≤ x_sz q.2) : ∀ (n : Nat) (f : xF) (r : Option Value × xH), x_run C M j n f r → f.2.2.2.length ≤ r.2.length ∧ x_sz f.2.2.2 ≤ x_sz r.2 := by
  intro n
  induction n with
  | zero => intro f r hr; exact hr.elim
  | succ n ih =>
    intro f r hr
    obtain ⟨pc, L, st, h⟩ := f
    rw [x_run] at hr
    split at hr
    · rename_i g hk
      obtain ⟨i, hi, hs⟩ := x_kind_i hk
      have h1 := (x_ins_mono hs).1
      have h2 := ih _ _ hr
      exact ⟨Nat.le_trans h1.1 h2.1, Nat.le_trans h1.2 h2.2⟩
    · rename_i q hk
      obtain ⟨i, hi, hs⟩ := x_kind_i hk
      have h1 := (x_ins_mono hs).1
      rw [← hr]
      exact h1
    · rename_i k as g hk
      obtain ⟨q, hq, hr⟩ := hr
      obtain ⟨i, hi, hs⟩ := x_kind_i hk
      have h1 := (x_ins_mono hs).1
      have h3 := hC _ _ _ _ hq
      have h2 := ih _ _ hr
      exact ⟨Nat.le_trans h1.1 (Nat.le_trans h3.1 h2.1), Nat.le_trans h1.2 (Nat.le_trans h3.2 h2.2)⟩
    · exact hr.elim

end XS
