/-! ONE STEP of the abstract machine is a step of the machine (own work) -/
def x_ln (i : Instr) : Nat := match i with
  | .iconst _ => 1
  | .bipush _ => 2
  | .sipush _ => 3
  | .lconst _ => 1
  | .ldc _ => 2
  | .ldc_w _ => 3
  | .ldc2_w _ => 3
  | .iload_n _ => 1
  | .iload _ => 2
  | .lload_n _ => 1
  | .lload _ => 2
  | .aload_n _ => 1
  | .aload _ => 2
  | .istore_n _ => 1
  | .istore _ => 2
  | .astore_n _ => 1
  | .astore _ => 2
  | .iinc _ _ => 3
  | .ifCond _ _ => 3
  | .if_icmp _ _ => 3
  | .goto _ => 3
  | .tableswitch .. => 0
  | .getfield _ => 3
  | .putfield _ => 3
  | .new _ => 3
  | .newarray _ => 2
  | .anewarray _ => 3
  | .invokevirtual _ => 3
  | .invokespecial _ => 3
  | .invokestatic _ => 3
  | _ => 1
/-- a method of the tables -/
def x_mok (M : xM) (nm : Nat → String) (yn : Nat → MethodName) (bc : Nat → ByteArray) (ALL : List Cond) (k : Nat) : Prop :=
  Cond.code (yn k) (bc k) (x_nL M k) (x_rt M k) ∈ ALL ∧ plainName (yn k).cls = true ∧ ((yn k).cls ≠ "java/lang/invoke/MethodHandle" ∧ (yn k).cls ≠ "java/lang/invoke/VarHandle" ∧ (parseMethodDescriptor (yn k).desc).map (fun d => d.parameters.length) = some (x_np M k)) ∧ Cond.initialized (yn k).cls ∈ ALL ∧ x_nL M k ≤ 40 ∧ (yn k).cls = nm (x_ow M k) ∧ (x_in M k = true → (yn k).name = "<init>")
/-- what the tables say -/
def x_T (M : xM) (nm : Nat → String) (yn : Nat → MethodName) (bc : Nat → ByteArray) (ALL : List Cond) (cl : List vw_C) (tys : List FieldType) : Prop :=
  (∀ j pc i, x_fe M j pc = some i → ∃ n, decode (bc j) pc = .ok (i, n) ∧ (x_ln i = 0 ∨ n = x_ln i)) ∧
  (∀ (ci : Nat) (q : vw_C), cl[ci]? = some q → q.1 = nm ci ∧ (∀ w ∈ u_ws q.1 q.2.1 q.2.2, w ∈ ALL) ∧ (∀ k, k < q.2.2 → parseFieldDescriptor (q.2.1 k).2.2.1 = some (x_ft M ci k)) ∧ (∀ a, a < q.2.2 → ∀ b, b < q.2.2 → a ≠ b → (q.2.1 a).2.1 ≠ (q.2.1 b).2.1) ∧ Cond.instantiable q.1 q.2.2 ∈ ALL ∧ Cond.initialized q.1 ∈ ALL ∧ ∀ k, k < q.2.2 → (q.2.1 k).1 = q.1 ∧ (q.2.1 k).2.2.2 = x_ff M ci k) ∧
  (∀ o idx ci k, x_pl M o idx = some (0, ci, k) → ∃ q : vw_C, cl[ci]? = some q ∧ k < q.2.2 ∧ Cond.fieldLink (nm o) idx q.1 (q.2.1 k).2.1 (q.2.1 k).2.2.1 ∈ ALL) ∧
  (∀ o idx ci n, x_pl M o idx = some (6, ci, n) → ∃ q : vw_C, cl[ci]? = some q ∧ q.2.2 = n ∧ Cond.classLink (nm o) idx q.1 ∈ ALL) ∧
  (∀ o idx kd z, x_pl M o (idx + 100000) = some (7, kd, z) → ∃ C : String, tys[kd]? = some (.object C) ∧ Cond.classLink (nm o) idx C ∈ ALL) ∧
  (tys[0]? = some .int ∧ tys[1]? = some .byte ∧ tys[2]? = some .boolean ∧ tys[3]? = some .long ∧ Cond.arrayClass .int ∈ ALL ∧ Cond.arrayClass .byte ∈ ALL ∧ Cond.arrayClass .boolean ∈ ALL ∧ Cond.arrayClass .long ∈ ALL ∧ ∀ kd ci, x_el M kd = some ci → ∃ q : vw_C, cl[ci]? = some q ∧ tys[kd]? = some (.object q.1)) ∧
  ((∀ o idx v, x_kc M o idx = some (.int v) → Cond.constant (nm o) idx v ∈ ALL) ∧ ∀ o idx v, x_kc M o idx = some (.long v) → Cond.constantLong (nm o) idx v ∈ ALL) ∧
  (∀ o idx z, x_pl M o idx = some (5, z) → Cond.methodLink (nm o) idx Lib.objectInit ∈ ALL ∧ Cond.instanceMethod Lib.objectInit ∈ ALL ∧ Cond.code Lib.objectInit ⟨#[0xb1]⟩ 1 none ∈ ALL) ∧
  ((∀ o idx z, x_pl M o idx = some (8, z) → Cond.methodLink (nm o) idx arraycopyName ∈ ALL ∧ Cond.native arraycopyName ∈ ALL ∧ Cond.static arraycopyName ∈ ALL ∧ Cond.initialized "java/lang/System" ∈ ALL) ∧
   (∀ o idx z, x_pl M o idx = some (10, z) → Cond.methodLink (nm o) idx Lib.Math.max.name ∈ ALL ∧ Cond.static Lib.Math.max.name ∈ ALL ∧ Cond.initialized "java/lang/Math" ∈ ALL ∧ Cond.code Lib.Math.max.name Lib.Math.max.code 2 (some .int) ∈ ALL) ∧
   (∀ o idx z, x_pl M o idx = some (11, z) → Cond.methodLink (nm o) idx Lib.Math.min.name ∈ ALL ∧ Cond.static Lib.Math.min.name ∈ ALL ∧ Cond.initialized "java/lang/Math" ∈ ALL ∧ Cond.code Lib.Math.min.name Lib.Math.min.code 2 (some .int) ∈ ALL)) ∧
  ((∀ o idx k z, x_pl M o idx = some (1, k, z) → x_mok M nm yn bc ALL k ∧ Cond.methodLink (nm o) idx (yn k) ∈ ALL ∧ Cond.instanceMethod (yn k) ∈ ALL ∧ Cond.selects (yn k).cls (yn k) (yn k) ∈ ALL) ∧
   (∀ o idx k z, x_pl M o idx = some (2, k, z) → x_mok M nm yn bc ALL k ∧ Cond.methodLink (nm o) idx (yn k) ∈ ALL ∧ Cond.instanceMethod (yn k) ∈ ALL ∧ (yn k).name = "<init>" ∧ x_rt M k = none) ∧
   (∀ o idx k z, x_pl M o idx = some (3, k, z) → x_mok M nm yn bc ALL k ∧ Cond.methodLink (nm o) idx (yn k) ∈ ALL ∧ Cond.static (yn k) ∈ ALL) ∧
   (∀ o idx k z, x_pl M o idx = some (4, k, z) → x_mok M nm yn bc ALL k ∧ Cond.instanceMethod (yn k) ∈ ALL ∧ (yn k).name = "<init>" ∧ x_rt M k = none) ∧
   (∀ o idx k z, x_pl M o idx = some (9, k, z) → x_mok M nm yn bc ALL k ∧ Cond.static (yn k) ∈ ALL)) ∧
  (∀ w ∈ ALL, goodWord w = true)
/-- what is said of the outside: texts, links among nest mates, rows of references -/
def x_LS (M : xM) (nm : Nat → String) (yn : Nat → MethodName) (tys : List FieldType) (b B : Nat) (ext : Nat → Nat) (E : State → Prop) : Prop :=
  (∀ o idx r, x_kc M o idx = some (.ref r) → ∃ tx : String, ∀ U : State, E U → vk_R (nm o) idx tx (x_ad b B ext r) U) ∧
  (∀ o idx t k z, x_pl M o idx = some (t, k, z) → t = 4 ∨ t = 9 → ∀ U : State, E U → va_Nw (.methodLinkNest (nm o) idx (yn k) "SecondWell") U) ∧
  (∀ o idx kd z C, x_pl M o (idx + 100000) = some (7, kd, z) → tys[kd]? = some (.object C) → ∀ U : State, E U → va_AO C U)
/-- what stands while a method of number j runs -/
def x_cx (p : Program) (s : State) (m : MethodId) (args : Array Value) (meth : Method) (c : Code) (M : xM) (nm : Nat → String) (yn : Nat → MethodName) (bc : Nat → ByteArray) (ALL : List Cond) (cl : List vw_C) (tys : List FieldType) (D : va_G) (cA : Nat → ClassId) (B : Nat) (ext : Nat → Nat) (E : State → Prop) (b j : Nat) : Prop :=
  p.tables.exec = Jvm.exec ∧ c.code = bc j ∧ c.maxLocals = x_nL M j ∧ s.vm.findClass (nm (x_ow M j)) = some m.cls ∧ (∀ w ∈ ALL, w.before args s = true) ∧ x_Kn cl tys D cA s ∧ (x_in M j = true → meth.name = "<init>") ∧ B < s.heap.size ∧ E s ∧ x_LS M nm yn tys b B ext E
/-- the machine goes on from a frame of the abstract machine -/
def x_go (p : Program) (l : Launch) (e : Env) (R : Room) (s : State) (m : MethodId) (args : Array Value) (below : List Frame) (meth : Method) (c : Code) (Q : State → Prop) (M : xM) (cl : List vw_C) (D : va_G) (cA : Nat → ClassId) (b B : Nat) (ext : Nat → Nat) (j : Nat) (f : xF) (cells slots : Nat) : Prop :=
  ∀ (H : Heap) (locs : List Loc) (ls : Array Slot), x_w cl D cA b B ext f.2.2.2 H → va_S (x_A B) s.heap H locs → lv_has ls (x_nL M j) (x_as (x_ad b B ext) 0 f.2.1) → f.2.1.length = x_nL M j → W p l e R s m args below meth c H locs cells slots Q (F0 m f.1 ls (f.2.2.1.map (x_v (x_ad b B ext))))

theorem x_i1_s {st : List Value} {g : Int32 → List Value → Option xK} {r : xK} (h : x_i1 st g = some r) : ∃ x st', st = .int x :: st' ∧ g x st' = some r := by
  unfold x_i1 at h
  split at h
  · exact ⟨_, _, rfl, h⟩
  · cases h
theorem x_i2_s {st : List Value} {g : Int32 → Int32 → List Value → Option xK} {r : xK} (h : x_i2 st g = some r) : ∃ x y st', st = .int y :: .int x :: st' ∧ g x y st' = some r := by
  unfold x_i2 at h
  split at h
  · exact ⟨_, _, _, rfl, h⟩
  · cases h
theorem x_l1_s {st : List Value} {g : Int64 → List Value → Option xK} {r : xK} (h : x_l1 st g = some r) : ∃ x st', st = .long x :: st' ∧ g x st' = some r := by
  unfold x_l1 at h
  split at h
  · exact ⟨_, _, rfl, h⟩
  · cases h
theorem x_l2_s {st : List Value} {g : Int64 → Int64 → List Value → Option xK} {r : xK} (h : x_l2 st g = some r) : ∃ x y st', st = .long y :: .long x :: st' ∧ g x y st' = some r := by
  unfold x_l2 at h
  split at h
  · exact ⟨_, _, _, rfl, h⟩
  · cases h
theorem x_li_s {st : List Value} {g : Int64 → Int32 → List Value → Option xK} {r : xK} (h : x_li st g = some r) : ∃ x y st', st = .int y :: .long x :: st' ∧ g x y st' = some r := by
  unfold x_li at h
  split at h
  · exact ⟨_, _, _, rfl, h⟩
  · cases h
theorem x_r1_s {st : List Value} {g : Nat → List Value → Option xK} {r : xK} (h : x_r1 st g = some r) : ∃ x st', st = .ref x :: st' ∧ g x st' = some r := by
  unfold x_r1 at h
  split at h
  · exact ⟨_, _, rfl, h⟩
  · cases h
theorem x_ri_s {st : List Value} {g : Nat → Int32 → List Value → Option xK} {r : xK} (h : x_ri st g = some r) : ∃ x i st', st = .int i :: .ref x :: st' ∧ g x i st' = some r := by
  unfold x_ri at h
  split at h
  · exact ⟨_, _, _, rfl, h⟩
  · cases h
theorem x_rii_s {st : List Value} {g : Nat → Int32 → Int32 → List Value → Option xK} {r : xK} (h : x_rii st g = some r) : ∃ x i v st', st = .int v :: .int i :: .ref x :: st' ∧ g x i v st' = some r := by
  unfold x_rii at h
  split at h
  · exact ⟨_, _, _, _, rfl, h⟩
  · cases h
theorem x_ril_s {st : List Value} {g : Nat → Int32 → Int64 → List Value → Option xK} {r : xK} (h : x_ril st g = some r) : ∃ x i v st', st = .long v :: .int i :: .ref x :: st' ∧ g x i v st' = some r := by
  unfold x_ril at h
  split at h
  · exact ⟨_, _, _, _, rfl, h⟩
  · cases h
theorem x_rir_s {st : List Value} {g : Nat → Int32 → Nat → List Value → Option xK} {r : xK} (h : x_rir st g = some r) : ∃ x i v st', st = .ref v :: .int i :: .ref x :: st' ∧ g x i v st' = some r := by
  unfold x_rir at h
  split at h
  · exact ⟨_, _, _, _, rfl, h⟩
  · cases h
theorem x_vr_s {st : List Value} {g : Value → Nat → List Value → Option xK} {r : xK} (h : x_vr st g = some r) : ∃ v x st', st = v :: .ref x :: st' ∧ g v x st' = some r := by
  unfold x_vr at h
  split at h
  · exact ⟨_, _, _, rfl, h⟩
  · cases h
theorem x_v1_s {st : List Value} {g : Value → List Value → Option xK} {r : xK} (h : x_v1 st g = some r) : ∃ v st', st = v :: st' ∧ v.category = 1 ∧ g v st' = some r := by
  unfold x_v1 at h
  split at h
  · split at h
    · rename_i hc
      exact ⟨_, _, rfl, hc, h⟩
    · cases h
  · cases h
theorem x_ldi_s {L : List (Option Value)} {i : Nat} {g : Int32 → Option xK} {r : xK} (h : x_ldi L i g = some r) : ∃ x, x_ld L i = some (.int x) ∧ g x = some r := by
  unfold x_ldi at h
  split at h
  · rename_i e
    exact ⟨_, e, h⟩
  · cases h
theorem x_ldl_s {L : List (Option Value)} {i : Nat} {g : Int64 → Option xK} {r : xK} (h : x_ldl L i g = some r) : ∃ x, x_ld L i = some (.long x) ∧ g x = some r := by
  unfold x_ldl at h
  split at h
  · rename_i e
    exact ⟨_, e, h⟩
  · cases h
theorem x_lda_s {L : List (Option Value)} {i : Nat} {g : Nat → Option xK} {r : xK} (h : x_lda L i g = some r) : ∃ x, x_ld L i = some (.ref x) ∧ g x = some r := by
  unfold x_lda at h
  split at h
  · rename_i e
    exact ⟨_, e, h⟩
  · cases h
theorem x_ob_s {h : xH} {r ci : Nat} {g : List Value → Option xK} {q : xK} (hh : x_ob h r ci g = some q) : ∃ fs, h[r]? = some (xO ci fs) ∧ g fs = some q := by
  unfold x_ob at hh
  split at hh
  · rename_i c fs e
    split at hh
    · rename_i hc
      subst hc
      exact ⟨fs, e, hh⟩
    · cases hh
  · cases hh
theorem x_ri0_s {h : xH} {r : Nat} {g : Nat → List Int32 → Option xK} {q : xK} (hh : x_ri0 h r g = some q) : ∃ kd xs, h[r]? = some (xI kd xs) ∧ g kd xs = some q := by
  unfold x_ri0 at hh
  split at hh
  · rename_i kd xs e
    exact ⟨kd, xs, e, hh⟩
  · cases hh
theorem x_rl0_s {h : xH} {r : Nat} {g : List Int64 → Option xK} {q : xK} (hh : x_rl0 h r g = some q) : ∃ xs, h[r]? = some (xL xs) ∧ g xs = some q := by
  unfold x_rl0 at hh
  split at hh
  · rename_i xs e
    exact ⟨xs, e, hh⟩
  · cases hh
theorem x_rq0_s {h : xH} {r : Nat} {g : Nat → List (Option Nat) → Option xK} {q : xK} (hh : x_rq0 h r g = some q) : ∃ kd xs, h[r]? = some (xQ kd xs) ∧ g kd xs = some q := by
  unfold x_rq0 at hh
  split at hh
  · rename_i kd xs e
    exact ⟨kd, xs, e, hh⟩
  · cases hh
theorem x_at'_s {α : Type} {xs : List α} {i : Int32} {g : α → Option xK} {q : xK} (hh : x_at' xs i g = some q) : ∃ x, vp_in i xs.length ∧ xs[i.toNatClampNeg]? = some x ∧ g x = some q := by
  unfold x_at' at hh
  split at hh
  · cases hh
  · rename_i h0
    split at hh
    · rename_i x e
      have hl : i.toNatClampNeg < xs.length := (List.getElem?_eq_some_iff.mp e).1
      exact ⟨x, fun z => z.elim h0 (fun z => absurd hl (Nat.not_lt.mpr z)), e, hh⟩
    · cases hh
theorem x_made_s {h : xH} {c : xC} {g : Nat → xH → Option xK} {q : xK} (hh : x_made h c g = some q) : h.length < x_lim ∧ g h.length (h ++ [c]) = some q := by
  unfold x_made at hh
  split at hh
  · rename_i e
    exact ⟨e, hh⟩
  · cases hh
theorem x_sto_s {L : List (Option Value)} {i : Nat} {v : Value} {pc : Nat} {st : List Value} {h : xH} {q : xK} (hh : x_sto L i v pc st h = some q) : i < L.length ∧ q = .inl (pc, x_st L i v, st, h) := by
  unfold x_sto at hh
  split at hh
  · rename_i e
    cases hh
    exact ⟨e, rfl⟩
  · cases hh
theorem x_tg_s {pc : Nat} {off : Int} {L : List (Option Value)} {st : List Value} {h : xH} {q : xK} (hh : x_tg pc off L st h = some q) : ∃ t : Nat, (pc : Int) + off = (t : Int) ∧ q = .inl (t, L, st, h) := by
  unfold x_tg at hh
  split at hh
  · rename_i e
    cases hh
    exact ⟨((pc : Int) + off).toNat, (Int.toNat_of_nonneg e).symm, rfl⟩
  · cases hh
theorem x_ok_s {ad : Nat → Nat} {ty : FieldType} {v : Value} (h : x_ok ty v = true) : narrow ty (x_v ad v) = x_v ad v ∧ fits ty (x_v ad v) = true := by
  cases v with
  | int x =>
    simp only [x_ok, Bool.and_eq_true, decide_eq_true_eq] at h
    exact h
  | long x =>
    simp only [x_ok, Bool.and_eq_true, decide_eq_true_eq] at h
    exact h
  | ref r => cases ty <;> first | (exact ⟨rfl, rfl⟩) | (simp [x_ok] at h)
  | _ => simp [x_ok] at h

theorem x_br_s {pc : Nat} {off : Int} {cd : Bool} {L : List (Option Value)} {st : List Value} {h : xH} {q : xK} (hh : x_br pc off cd L st h = some q) : ∃ t : Nat, (pc : Int) + off = (t : Int) ∧ ((cd = true ∧ q = .inl (t, L, st, h)) ∨ (¬ cd = true ∧ q = .inl (pc + 3, L, st, h))) := by
  unfold x_br at hh
  split at hh
  · rename_i e
    refine ⟨((pc : Int) + off).toNat, (Int.toNat_of_nonneg e).symm, ?_⟩
    split at hh
    · rename_i hc
      cases hh
      exact Or.inl ⟨hc, rfl⟩
    · rename_i hc
      cases hh
      exact Or.inr ⟨hc, rfl⟩
  · cases hh

section XS
variable {p : Program} {l : Launch} {e : Env} {R : Room} {s : State} {m : MethodId} {args : Array Value} {below : List Frame} {meth : Method} {c : Code} {Q : State → Prop}
variable {M : xM} {nm : Nat → String} {yn : Nat → MethodName} {bc : Nat → ByteArray} {ALL : List Cond} {cl : List vw_C} {tys : List FieldType} {D : va_G} {cA : Nat → ClassId} {b B : Nat} {ext : Nat → Nat} {E : State → Prop} {j pc : Nat} {L : List (Option Value)} {st : List Value} {h : xH} {f : xF} {cells slots : Nat}

theorem x_dec (hT : x_T M nm yn bc ALL cl tys) {i : Instr} (hi : x_fe M j pc = some i) (n : Nat) (hn : x_ln i = n + 1) : decode (bc j) pc = .ok (i, n + 1) := by
  obtain ⟨k, h1, h2⟩ := hT.1 j pc i hi
  rw [hn] at h2
  rcases h2 with h2 | h2
  · omega
  · rw [← h2]; exact h1

theorem xs_iconst {z : Int} (hT : x_T M nm yn bc ALL cl tys) (hc : x_cx p s m args meth c M nm yn bc ALL cl tys D cA B ext E b j) (hi : x_fe M j pc = some (.iconst z)) (hs : x_ins M j (.iconst z) pc L st h = some (.inl f)) (k : ∀ cells' slots', cells' + h.length = cells + f.2.2.2.length → slots' + x_sz h = slots + x_sz f.2.2.2 → x_go p l e R s m args below meth c Q M cl D cA b B ext j f cells' slots') : x_go p l e R s m args below meth c Q M cl D cA b B ext j (pc, L, st, h) cells slots := by
  obtain ⟨hx, hb, hml, hown, hts, hK, hini, hB, hE, hLS⟩ := hc
  have hd := x_dec hT hi 0 rfl
  cases hs
  intro H locs ls hw hS hl hL
  exact lv_iconst hx hb hd rfl (k _ _ rfl rfl H locs ls hw hS hl hL)
theorem xs_bipush {z : Int} (hT : x_T M nm yn bc ALL cl tys) (hc : x_cx p s m args meth c M nm yn bc ALL cl tys D cA B ext E b j) (hi : x_fe M j pc = some (.bipush z)) (hs : x_ins M j (.bipush z) pc L st h = some (.inl f)) (k : ∀ cells' slots', cells' + h.length = cells + f.2.2.2.length → slots' + x_sz h = slots + x_sz f.2.2.2 → x_go p l e R s m args below meth c Q M cl D cA b B ext j f cells' slots') : x_go p l e R s m args below meth c Q M cl D cA b B ext j (pc, L, st, h) cells slots := by
  obtain ⟨hx, hb, hml, hown, hts, hK, hini, hB, hE, hLS⟩ := hc
  have hd := x_dec hT hi 1 rfl
  cases hs
  intro H locs ls hw hS hl hL
  exact lv_bipush hx hb hd rfl (k _ _ rfl rfl H locs ls hw hS hl hL)
theorem xs_sipush {z : Int} (hT : x_T M nm yn bc ALL cl tys) (hc : x_cx p s m args meth c M nm yn bc ALL cl tys D cA B ext E b j) (hi : x_fe M j pc = some (.sipush z)) (hs : x_ins M j (.sipush z) pc L st h = some (.inl f)) (k : ∀ cells' slots', cells' + h.length = cells + f.2.2.2.length → slots' + x_sz h = slots + x_sz f.2.2.2 → x_go p l e R s m args below meth c Q M cl D cA b B ext j f cells' slots') : x_go p l e R s m args below meth c Q M cl D cA b B ext j (pc, L, st, h) cells slots := by
  obtain ⟨hx, hb, hml, hown, hts, hK, hini, hB, hE, hLS⟩ := hc
  have hd := x_dec hT hi 2 rfl
  cases hs
  intro H locs ls hw hS hl hL
  exact lv_sipush hx hb hd rfl (k _ _ rfl rfl H locs ls hw hS hl hL)
theorem xs_lconst {z : Fin 2} (hT : x_T M nm yn bc ALL cl tys) (hc : x_cx p s m args meth c M nm yn bc ALL cl tys D cA B ext E b j) (hi : x_fe M j pc = some (.lconst z)) (hs : x_ins M j (.lconst z) pc L st h = some (.inl f)) (k : ∀ cells' slots', cells' + h.length = cells + f.2.2.2.length → slots' + x_sz h = slots + x_sz f.2.2.2 → x_go p l e R s m args below meth c Q M cl D cA b B ext j f cells' slots') : x_go p l e R s m args below meth c Q M cl D cA b B ext j (pc, L, st, h) cells slots := by
  obtain ⟨hx, hb, hml, hown, hts, hK, hini, hB, hE, hLS⟩ := hc
  have hd := x_dec hT hi 0 rfl
  cases hs
  intro H locs ls hw hS hl hL
  exact lv_lconst hx hb hd rfl (k _ _ rfl rfl H locs ls hw hS hl hL)
theorem xs_iload_n {z : Fin 4} (hT : x_T M nm yn bc ALL cl tys) (hc : x_cx p s m args meth c M nm yn bc ALL cl tys D cA B ext E b j) (hi : x_fe M j pc = some (.iload_n z)) (hs : x_ins M j (.iload_n z) pc L st h = some (.inl f)) (k : ∀ cells' slots', cells' + h.length = cells + f.2.2.2.length → slots' + x_sz h = slots + x_sz f.2.2.2 → x_go p l e R s m args below meth c Q M cl D cA b B ext j f cells' slots') : x_go p l e R s m args below meth c Q M cl D cA b B ext j (pc, L, st, h) cells slots := by
  obtain ⟨hx, hb, hml, hown, hts, hK, hini, hB, hE, hLS⟩ := hc
  have hd := x_dec hT hi 0 rfl
  obtain ⟨x, hxl, hs⟩ := x_ldi_s hs
  cases hs
  intro H locs ls hw hS hl hL
  exact lv_iload_n hx hb hd rfl (x_ld_at hl hxl) (k _ _ rfl rfl H locs ls hw hS hl hL)
theorem xs_iload {z : Nat} (hT : x_T M nm yn bc ALL cl tys) (hc : x_cx p s m args meth c M nm yn bc ALL cl tys D cA B ext E b j) (hi : x_fe M j pc = some (.iload z)) (hs : x_ins M j (.iload z) pc L st h = some (.inl f)) (k : ∀ cells' slots', cells' + h.length = cells + f.2.2.2.length → slots' + x_sz h = slots + x_sz f.2.2.2 → x_go p l e R s m args below meth c Q M cl D cA b B ext j f cells' slots') : x_go p l e R s m args below meth c Q M cl D cA b B ext j (pc, L, st, h) cells slots := by
  obtain ⟨hx, hb, hml, hown, hts, hK, hini, hB, hE, hLS⟩ := hc
  have hd := x_dec hT hi 1 rfl
  obtain ⟨x, hxl, hs⟩ := x_ldi_s hs
  cases hs
  intro H locs ls hw hS hl hL
  exact lv_iload hx hb hd (x_ld_at hl hxl) (k _ _ rfl rfl H locs ls hw hS hl hL)
theorem xs_lload_n {z : Fin 4} (hT : x_T M nm yn bc ALL cl tys) (hc : x_cx p s m args meth c M nm yn bc ALL cl tys D cA B ext E b j) (hi : x_fe M j pc = some (.lload_n z)) (hs : x_ins M j (.lload_n z) pc L st h = some (.inl f)) (k : ∀ cells' slots', cells' + h.length = cells + f.2.2.2.length → slots' + x_sz h = slots + x_sz f.2.2.2 → x_go p l e R s m args below meth c Q M cl D cA b B ext j f cells' slots') : x_go p l e R s m args below meth c Q M cl D cA b B ext j (pc, L, st, h) cells slots := by
  obtain ⟨hx, hb, hml, hown, hts, hK, hini, hB, hE, hLS⟩ := hc
  have hd := x_dec hT hi 0 rfl
  obtain ⟨x, hxl, hs⟩ := x_ldl_s hs
  cases hs
  intro H locs ls hw hS hl hL
  exact lv_lload_n hx hb hd rfl (x_ld_at hl hxl) (k _ _ rfl rfl H locs ls hw hS hl hL)
theorem xs_lload {z : Nat} (hT : x_T M nm yn bc ALL cl tys) (hc : x_cx p s m args meth c M nm yn bc ALL cl tys D cA B ext E b j) (hi : x_fe M j pc = some (.lload z)) (hs : x_ins M j (.lload z) pc L st h = some (.inl f)) (k : ∀ cells' slots', cells' + h.length = cells + f.2.2.2.length → slots' + x_sz h = slots + x_sz f.2.2.2 → x_go p l e R s m args below meth c Q M cl D cA b B ext j f cells' slots') : x_go p l e R s m args below meth c Q M cl D cA b B ext j (pc, L, st, h) cells slots := by
  obtain ⟨hx, hb, hml, hown, hts, hK, hini, hB, hE, hLS⟩ := hc
  have hd := x_dec hT hi 1 rfl
  obtain ⟨x, hxl, hs⟩ := x_ldl_s hs
  cases hs
  intro H locs ls hw hS hl hL
  exact lv_lload hx hb hd (x_ld_at hl hxl) (k _ _ rfl rfl H locs ls hw hS hl hL)
theorem xs_aload_n {z : Fin 4} (hT : x_T M nm yn bc ALL cl tys) (hc : x_cx p s m args meth c M nm yn bc ALL cl tys D cA B ext E b j) (hi : x_fe M j pc = some (.aload_n z)) (hs : x_ins M j (.aload_n z) pc L st h = some (.inl f)) (k : ∀ cells' slots', cells' + h.length = cells + f.2.2.2.length → slots' + x_sz h = slots + x_sz f.2.2.2 → x_go p l e R s m args below meth c Q M cl D cA b B ext j f cells' slots') : x_go p l e R s m args below meth c Q M cl D cA b B ext j (pc, L, st, h) cells slots := by
  obtain ⟨hx, hb, hml, hown, hts, hK, hini, hB, hE, hLS⟩ := hc
  have hd := x_dec hT hi 0 rfl
  obtain ⟨x, hxl, hs⟩ := x_lda_s hs
  cases hs
  intro H locs ls hw hS hl hL
  exact lv_aload_n hx hb hd rfl (x_ld_at hl hxl) (k _ _ rfl rfl H locs ls hw hS hl hL)
theorem xs_aload {z : Nat} (hT : x_T M nm yn bc ALL cl tys) (hc : x_cx p s m args meth c M nm yn bc ALL cl tys D cA B ext E b j) (hi : x_fe M j pc = some (.aload z)) (hs : x_ins M j (.aload z) pc L st h = some (.inl f)) (k : ∀ cells' slots', cells' + h.length = cells + f.2.2.2.length → slots' + x_sz h = slots + x_sz f.2.2.2 → x_go p l e R s m args below meth c Q M cl D cA b B ext j f cells' slots') : x_go p l e R s m args below meth c Q M cl D cA b B ext j (pc, L, st, h) cells slots := by
  obtain ⟨hx, hb, hml, hown, hts, hK, hini, hB, hE, hLS⟩ := hc
  have hd := x_dec hT hi 1 rfl
  obtain ⟨x, hxl, hs⟩ := x_lda_s hs
  cases hs
  intro H locs ls hw hS hl hL
  exact lv_aload hx hb hd (x_ld_at hl hxl) (k _ _ rfl rfl H locs ls hw hS hl hL)
theorem xs_istore_n {z : Fin 4} (hT : x_T M nm yn bc ALL cl tys) (hc : x_cx p s m args meth c M nm yn bc ALL cl tys D cA B ext E b j) (hi : x_fe M j pc = some (.istore_n z)) (hs : x_ins M j (.istore_n z) pc L st h = some (.inl f)) (k : ∀ cells' slots', cells' + h.length = cells + f.2.2.2.length → slots' + x_sz h = slots + x_sz f.2.2.2 → x_go p l e R s m args below meth c Q M cl D cA b B ext j f cells' slots') : x_go p l e R s m args below meth c Q M cl D cA b B ext j (pc, L, st, h) cells slots := by
  obtain ⟨hx, hb, hml, hown, hts, hK, hini, hB, hE, hLS⟩ := hc
  have hd := x_dec hT hi 0 rfl
  obtain ⟨x, st', rfl, hs⟩ := x_i1_s hs
  obtain ⟨hlt, hs⟩ := x_sto_s hs
  cases hs
  intro H locs ls hw hS hl hL
  exact lv_istore_n hx hb hd rfl hl (by rw [← hL]; exact hlt) rfl (fun ls' hl' => k _ _ rfl rfl H locs ls' hw hS (x_st_has hl') (by rw [← hL]; exact x_st_len _ _ _))
theorem xs_istore {z : Nat} (hT : x_T M nm yn bc ALL cl tys) (hc : x_cx p s m args meth c M nm yn bc ALL cl tys D cA B ext E b j) (hi : x_fe M j pc = some (.istore z)) (hs : x_ins M j (.istore z) pc L st h = some (.inl f)) (k : ∀ cells' slots', cells' + h.length = cells + f.2.2.2.length → slots' + x_sz h = slots + x_sz f.2.2.2 → x_go p l e R s m args below meth c Q M cl D cA b B ext j f cells' slots') : x_go p l e R s m args below meth c Q M cl D cA b B ext j (pc, L, st, h) cells slots := by
  obtain ⟨hx, hb, hml, hown, hts, hK, hini, hB, hE, hLS⟩ := hc
  have hd := x_dec hT hi 1 rfl
  obtain ⟨x, st', rfl, hs⟩ := x_i1_s hs
  obtain ⟨hlt, hs⟩ := x_sto_s hs
  cases hs
  intro H locs ls hw hS hl hL
  exact lv_istore hx hb hd hl (by rw [← hL]; exact hlt) rfl (fun ls' hl' => k _ _ rfl rfl H locs ls' hw hS (x_st_has hl') (by rw [← hL]; exact x_st_len _ _ _))
theorem xs_astore_n {z : Fin 4} (hT : x_T M nm yn bc ALL cl tys) (hc : x_cx p s m args meth c M nm yn bc ALL cl tys D cA B ext E b j) (hi : x_fe M j pc = some (.astore_n z)) (hs : x_ins M j (.astore_n z) pc L st h = some (.inl f)) (k : ∀ cells' slots', cells' + h.length = cells + f.2.2.2.length → slots' + x_sz h = slots + x_sz f.2.2.2 → x_go p l e R s m args below meth c Q M cl D cA b B ext j f cells' slots') : x_go p l e R s m args below meth c Q M cl D cA b B ext j (pc, L, st, h) cells slots := by
  obtain ⟨hx, hb, hml, hown, hts, hK, hini, hB, hE, hLS⟩ := hc
  have hd := x_dec hT hi 0 rfl
  obtain ⟨x, st', rfl, hs⟩ := x_r1_s hs
  obtain ⟨hlt, hs⟩ := x_sto_s hs
  cases hs
  intro H locs ls hw hS hl hL
  exact lv_astore_n hx hb hd rfl hl (by rw [← hL]; exact hlt) rfl (fun ls' hl' => k _ _ rfl rfl H locs ls' hw hS (x_st_has hl') (by rw [← hL]; exact x_st_len _ _ _))
theorem xs_astore {z : Nat} (hT : x_T M nm yn bc ALL cl tys) (hc : x_cx p s m args meth c M nm yn bc ALL cl tys D cA B ext E b j) (hi : x_fe M j pc = some (.astore z)) (hs : x_ins M j (.astore z) pc L st h = some (.inl f)) (k : ∀ cells' slots', cells' + h.length = cells + f.2.2.2.length → slots' + x_sz h = slots + x_sz f.2.2.2 → x_go p l e R s m args below meth c Q M cl D cA b B ext j f cells' slots') : x_go p l e R s m args below meth c Q M cl D cA b B ext j (pc, L, st, h) cells slots := by
  obtain ⟨hx, hb, hml, hown, hts, hK, hini, hB, hE, hLS⟩ := hc
  have hd := x_dec hT hi 1 rfl
  obtain ⟨x, st', rfl, hs⟩ := x_r1_s hs
  obtain ⟨hlt, hs⟩ := x_sto_s hs
  cases hs
  intro H locs ls hw hS hl hL
  exact lv_astore hx hb hd hl (by rw [← hL]; exact hlt) rfl (fun ls' hl' => k _ _ rfl rfl H locs ls' hw hS (x_st_has hl') (by rw [← hL]; exact x_st_len _ _ _))
theorem xs_iinc {z : Nat} {y : Int} (hT : x_T M nm yn bc ALL cl tys) (hc : x_cx p s m args meth c M nm yn bc ALL cl tys D cA B ext E b j) (hi : x_fe M j pc = some (.iinc z y)) (hs : x_ins M j (.iinc z y) pc L st h = some (.inl f)) (k : ∀ cells' slots', cells' + h.length = cells + f.2.2.2.length → slots' + x_sz h = slots + x_sz f.2.2.2 → x_go p l e R s m args below meth c Q M cl D cA b B ext j f cells' slots') : x_go p l e R s m args below meth c Q M cl D cA b B ext j (pc, L, st, h) cells slots := by
  obtain ⟨hx, hb, hml, hown, hts, hK, hini, hB, hE, hLS⟩ := hc
  have hd := x_dec hT hi 2 rfl
  obtain ⟨x, hxl, hs⟩ := x_ldi_s hs
  obtain ⟨hlt, hs⟩ := x_sto_s hs
  cases hs
  intro H locs ls hw hS hl hL
  obtain ⟨q, hq⟩ := List.mem_iff_getElem?.mp ((x_as_mem (ad := x_ad b B ext) L 0).mpr ⟨z, _, x_ld_get hxl, rfl⟩)
  rw [Nat.zero_add] at hq
  exact lv_iinc hx hb hd hl hq rfl (by rw [← hL]; exact hlt) rfl (fun ls' hl' => k _ _ rfl rfl H locs ls' hw hS (x_st_has (v := .int _) hl') (by rw [← hL]; exact x_st_len _ _ _))
theorem xs_iadd (hT : x_T M nm yn bc ALL cl tys) (hc : x_cx p s m args meth c M nm yn bc ALL cl tys D cA B ext E b j) (hi : x_fe M j pc = some (.iadd)) (hs : x_ins M j (.iadd) pc L st h = some (.inl f)) (k : ∀ cells' slots', cells' + h.length = cells + f.2.2.2.length → slots' + x_sz h = slots + x_sz f.2.2.2 → x_go p l e R s m args below meth c Q M cl D cA b B ext j f cells' slots') : x_go p l e R s m args below meth c Q M cl D cA b B ext j (pc, L, st, h) cells slots := by
  obtain ⟨hx, hb, hml, hown, hts, hK, hini, hB, hE, hLS⟩ := hc
  have hd := x_dec hT hi 0 rfl
  obtain ⟨x, y, st', rfl, hs⟩ := x_i2_s hs
  cases hs
  intro H locs ls hw hS hl hL
  exact lv_iadd hx hb hd (k _ _ rfl rfl H locs ls hw hS hl hL)
theorem xs_isub (hT : x_T M nm yn bc ALL cl tys) (hc : x_cx p s m args meth c M nm yn bc ALL cl tys D cA B ext E b j) (hi : x_fe M j pc = some (.isub)) (hs : x_ins M j (.isub) pc L st h = some (.inl f)) (k : ∀ cells' slots', cells' + h.length = cells + f.2.2.2.length → slots' + x_sz h = slots + x_sz f.2.2.2 → x_go p l e R s m args below meth c Q M cl D cA b B ext j f cells' slots') : x_go p l e R s m args below meth c Q M cl D cA b B ext j (pc, L, st, h) cells slots := by
  obtain ⟨hx, hb, hml, hown, hts, hK, hini, hB, hE, hLS⟩ := hc
  have hd := x_dec hT hi 0 rfl
  obtain ⟨x, y, st', rfl, hs⟩ := x_i2_s hs
  cases hs
  intro H locs ls hw hS hl hL
  exact lv_isub hx hb hd (k _ _ rfl rfl H locs ls hw hS hl hL)
theorem xs_imul (hT : x_T M nm yn bc ALL cl tys) (hc : x_cx p s m args meth c M nm yn bc ALL cl tys D cA B ext E b j) (hi : x_fe M j pc = some (.imul)) (hs : x_ins M j (.imul) pc L st h = some (.inl f)) (k : ∀ cells' slots', cells' + h.length = cells + f.2.2.2.length → slots' + x_sz h = slots + x_sz f.2.2.2 → x_go p l e R s m args below meth c Q M cl D cA b B ext j f cells' slots') : x_go p l e R s m args below meth c Q M cl D cA b B ext j (pc, L, st, h) cells slots := by
  obtain ⟨hx, hb, hml, hown, hts, hK, hini, hB, hE, hLS⟩ := hc
  have hd := x_dec hT hi 0 rfl
  obtain ⟨x, y, st', rfl, hs⟩ := x_i2_s hs
  cases hs
  intro H locs ls hw hS hl hL
  exact lv_imul hx hb hd (k _ _ rfl rfl H locs ls hw hS hl hL)
theorem xs_iand (hT : x_T M nm yn bc ALL cl tys) (hc : x_cx p s m args meth c M nm yn bc ALL cl tys D cA B ext E b j) (hi : x_fe M j pc = some (.iand)) (hs : x_ins M j (.iand) pc L st h = some (.inl f)) (k : ∀ cells' slots', cells' + h.length = cells + f.2.2.2.length → slots' + x_sz h = slots + x_sz f.2.2.2 → x_go p l e R s m args below meth c Q M cl D cA b B ext j f cells' slots') : x_go p l e R s m args below meth c Q M cl D cA b B ext j (pc, L, st, h) cells slots := by
  obtain ⟨hx, hb, hml, hown, hts, hK, hini, hB, hE, hLS⟩ := hc
  have hd := x_dec hT hi 0 rfl
  obtain ⟨x, y, st', rfl, hs⟩ := x_i2_s hs
  cases hs
  intro H locs ls hw hS hl hL
  exact lv_iand hx hb hd (k _ _ rfl rfl H locs ls hw hS hl hL)
theorem xs_ior (hT : x_T M nm yn bc ALL cl tys) (hc : x_cx p s m args meth c M nm yn bc ALL cl tys D cA B ext E b j) (hi : x_fe M j pc = some (.ior)) (hs : x_ins M j (.ior) pc L st h = some (.inl f)) (k : ∀ cells' slots', cells' + h.length = cells + f.2.2.2.length → slots' + x_sz h = slots + x_sz f.2.2.2 → x_go p l e R s m args below meth c Q M cl D cA b B ext j f cells' slots') : x_go p l e R s m args below meth c Q M cl D cA b B ext j (pc, L, st, h) cells slots := by
  obtain ⟨hx, hb, hml, hown, hts, hK, hini, hB, hE, hLS⟩ := hc
  have hd := x_dec hT hi 0 rfl
  obtain ⟨x, y, st', rfl, hs⟩ := x_i2_s hs
  cases hs
  intro H locs ls hw hS hl hL
  exact lv_ior hx hb hd (k _ _ rfl rfl H locs ls hw hS hl hL)
theorem xs_ixor (hT : x_T M nm yn bc ALL cl tys) (hc : x_cx p s m args meth c M nm yn bc ALL cl tys D cA B ext E b j) (hi : x_fe M j pc = some (.ixor)) (hs : x_ins M j (.ixor) pc L st h = some (.inl f)) (k : ∀ cells' slots', cells' + h.length = cells + f.2.2.2.length → slots' + x_sz h = slots + x_sz f.2.2.2 → x_go p l e R s m args below meth c Q M cl D cA b B ext j f cells' slots') : x_go p l e R s m args below meth c Q M cl D cA b B ext j (pc, L, st, h) cells slots := by
  obtain ⟨hx, hb, hml, hown, hts, hK, hini, hB, hE, hLS⟩ := hc
  have hd := x_dec hT hi 0 rfl
  obtain ⟨x, y, st', rfl, hs⟩ := x_i2_s hs
  cases hs
  intro H locs ls hw hS hl hL
  exact lv_ixor hx hb hd (k _ _ rfl rfl H locs ls hw hS hl hL)
theorem xs_ishl (hT : x_T M nm yn bc ALL cl tys) (hc : x_cx p s m args meth c M nm yn bc ALL cl tys D cA B ext E b j) (hi : x_fe M j pc = some (.ishl)) (hs : x_ins M j (.ishl) pc L st h = some (.inl f)) (k : ∀ cells' slots', cells' + h.length = cells + f.2.2.2.length → slots' + x_sz h = slots + x_sz f.2.2.2 → x_go p l e R s m args below meth c Q M cl D cA b B ext j f cells' slots') : x_go p l e R s m args below meth c Q M cl D cA b B ext j (pc, L, st, h) cells slots := by
  obtain ⟨hx, hb, hml, hown, hts, hK, hini, hB, hE, hLS⟩ := hc
  have hd := x_dec hT hi 0 rfl
  obtain ⟨x, y, st', rfl, hs⟩ := x_i2_s hs
  cases hs
  intro H locs ls hw hS hl hL
  exact lv_ishl hx hb hd (k _ _ rfl rfl H locs ls hw hS hl hL)
theorem xs_ishr (hT : x_T M nm yn bc ALL cl tys) (hc : x_cx p s m args meth c M nm yn bc ALL cl tys D cA B ext E b j) (hi : x_fe M j pc = some (.ishr)) (hs : x_ins M j (.ishr) pc L st h = some (.inl f)) (k : ∀ cells' slots', cells' + h.length = cells + f.2.2.2.length → slots' + x_sz h = slots + x_sz f.2.2.2 → x_go p l e R s m args below meth c Q M cl D cA b B ext j f cells' slots') : x_go p l e R s m args below meth c Q M cl D cA b B ext j (pc, L, st, h) cells slots := by
  obtain ⟨hx, hb, hml, hown, hts, hK, hini, hB, hE, hLS⟩ := hc
  have hd := x_dec hT hi 0 rfl
  obtain ⟨x, y, st', rfl, hs⟩ := x_i2_s hs
  cases hs
  intro H locs ls hw hS hl hL
  exact lv_ishr hx hb hd (k _ _ rfl rfl H locs ls hw hS hl hL)
theorem xs_iushr (hT : x_T M nm yn bc ALL cl tys) (hc : x_cx p s m args meth c M nm yn bc ALL cl tys D cA B ext E b j) (hi : x_fe M j pc = some (.iushr)) (hs : x_ins M j (.iushr) pc L st h = some (.inl f)) (k : ∀ cells' slots', cells' + h.length = cells + f.2.2.2.length → slots' + x_sz h = slots + x_sz f.2.2.2 → x_go p l e R s m args below meth c Q M cl D cA b B ext j f cells' slots') : x_go p l e R s m args below meth c Q M cl D cA b B ext j (pc, L, st, h) cells slots := by
  obtain ⟨hx, hb, hml, hown, hts, hK, hini, hB, hE, hLS⟩ := hc
  have hd := x_dec hT hi 0 rfl
  obtain ⟨x, y, st', rfl, hs⟩ := x_i2_s hs
  cases hs
  intro H locs ls hw hS hl hL
  exact lv_iushr hx hb hd rfl (k _ _ rfl rfl H locs ls hw hS hl hL)
theorem xs_idiv (hT : x_T M nm yn bc ALL cl tys) (hc : x_cx p s m args meth c M nm yn bc ALL cl tys D cA B ext E b j) (hi : x_fe M j pc = some (.idiv)) (hs : x_ins M j (.idiv) pc L st h = some (.inl f)) (k : ∀ cells' slots', cells' + h.length = cells + f.2.2.2.length → slots' + x_sz h = slots + x_sz f.2.2.2 → x_go p l e R s m args below meth c Q M cl D cA b B ext j f cells' slots') : x_go p l e R s m args below meth c Q M cl D cA b B ext j (pc, L, st, h) cells slots := by
  obtain ⟨hx, hb, hml, hown, hts, hK, hini, hB, hE, hLS⟩ := hc
  have hd := x_dec hT hi 0 rfl
  obtain ⟨x, y, st', rfl, hs2⟩ := x_i2_s hs
  split at hs2
  · cases hs2
  rename_i hne
  cases hs2
  intro H locs ls hw hS hl hL
  exact lv_idiv hx hb hd hne (k _ _ rfl rfl H locs ls hw hS hl hL)
theorem xs_irem (hT : x_T M nm yn bc ALL cl tys) (hc : x_cx p s m args meth c M nm yn bc ALL cl tys D cA B ext E b j) (hi : x_fe M j pc = some (.irem)) (hs : x_ins M j (.irem) pc L st h = some (.inl f)) (k : ∀ cells' slots', cells' + h.length = cells + f.2.2.2.length → slots' + x_sz h = slots + x_sz f.2.2.2 → x_go p l e R s m args below meth c Q M cl D cA b B ext j f cells' slots') : x_go p l e R s m args below meth c Q M cl D cA b B ext j (pc, L, st, h) cells slots := by
  obtain ⟨hx, hb, hml, hown, hts, hK, hini, hB, hE, hLS⟩ := hc
  have hd := x_dec hT hi 0 rfl
  obtain ⟨x, y, st', rfl, hs2⟩ := x_i2_s hs
  split at hs2
  · cases hs2
  rename_i hne
  cases hs2
  intro H locs ls hw hS hl hL
  exact lv_irem hx hb hd hne (k _ _ rfl rfl H locs ls hw hS hl hL)
theorem xs_ineg (hT : x_T M nm yn bc ALL cl tys) (hc : x_cx p s m args meth c M nm yn bc ALL cl tys D cA B ext E b j) (hi : x_fe M j pc = some (.ineg)) (hs : x_ins M j (.ineg) pc L st h = some (.inl f)) (k : ∀ cells' slots', cells' + h.length = cells + f.2.2.2.length → slots' + x_sz h = slots + x_sz f.2.2.2 → x_go p l e R s m args below meth c Q M cl D cA b B ext j f cells' slots') : x_go p l e R s m args below meth c Q M cl D cA b B ext j (pc, L, st, h) cells slots := by
  obtain ⟨hx, hb, hml, hown, hts, hK, hini, hB, hE, hLS⟩ := hc
  have hd := x_dec hT hi 0 rfl
  obtain ⟨x, st', rfl, hs⟩ := x_i1_s hs
  cases hs
  intro H locs ls hw hS hl hL
  exact lv_ineg hx hb hd (k _ _ rfl rfl H locs ls hw hS hl hL)
theorem xs_ladd (hT : x_T M nm yn bc ALL cl tys) (hc : x_cx p s m args meth c M nm yn bc ALL cl tys D cA B ext E b j) (hi : x_fe M j pc = some (.ladd)) (hs : x_ins M j (.ladd) pc L st h = some (.inl f)) (k : ∀ cells' slots', cells' + h.length = cells + f.2.2.2.length → slots' + x_sz h = slots + x_sz f.2.2.2 → x_go p l e R s m args below meth c Q M cl D cA b B ext j f cells' slots') : x_go p l e R s m args below meth c Q M cl D cA b B ext j (pc, L, st, h) cells slots := by
  obtain ⟨hx, hb, hml, hown, hts, hK, hini, hB, hE, hLS⟩ := hc
  have hd := x_dec hT hi 0 rfl
  obtain ⟨x, y, st', rfl, hs⟩ := x_l2_s hs
  cases hs
  intro H locs ls hw hS hl hL
  exact lv_ladd hx hb hd (k _ _ rfl rfl H locs ls hw hS hl hL)
theorem xs_lmul (hT : x_T M nm yn bc ALL cl tys) (hc : x_cx p s m args meth c M nm yn bc ALL cl tys D cA B ext E b j) (hi : x_fe M j pc = some (.lmul)) (hs : x_ins M j (.lmul) pc L st h = some (.inl f)) (k : ∀ cells' slots', cells' + h.length = cells + f.2.2.2.length → slots' + x_sz h = slots + x_sz f.2.2.2 → x_go p l e R s m args below meth c Q M cl D cA b B ext j f cells' slots') : x_go p l e R s m args below meth c Q M cl D cA b B ext j (pc, L, st, h) cells slots := by
  obtain ⟨hx, hb, hml, hown, hts, hK, hini, hB, hE, hLS⟩ := hc
  have hd := x_dec hT hi 0 rfl
  obtain ⟨x, y, st', rfl, hs⟩ := x_l2_s hs
  cases hs
  intro H locs ls hw hS hl hL
  exact lv_lmul hx hb hd (k _ _ rfl rfl H locs ls hw hS hl hL)
theorem xs_land (hT : x_T M nm yn bc ALL cl tys) (hc : x_cx p s m args meth c M nm yn bc ALL cl tys D cA B ext E b j) (hi : x_fe M j pc = some (.land)) (hs : x_ins M j (.land) pc L st h = some (.inl f)) (k : ∀ cells' slots', cells' + h.length = cells + f.2.2.2.length → slots' + x_sz h = slots + x_sz f.2.2.2 → x_go p l e R s m args below meth c Q M cl D cA b B ext j f cells' slots') : x_go p l e R s m args below meth c Q M cl D cA b B ext j (pc, L, st, h) cells slots := by
  obtain ⟨hx, hb, hml, hown, hts, hK, hini, hB, hE, hLS⟩ := hc
  have hd := x_dec hT hi 0 rfl
  obtain ⟨x, y, st', rfl, hs⟩ := x_l2_s hs
  cases hs
  intro H locs ls hw hS hl hL
  exact lv_land hx hb hd (k _ _ rfl rfl H locs ls hw hS hl hL)
theorem xs_lor (hT : x_T M nm yn bc ALL cl tys) (hc : x_cx p s m args meth c M nm yn bc ALL cl tys D cA B ext E b j) (hi : x_fe M j pc = some (.lor)) (hs : x_ins M j (.lor) pc L st h = some (.inl f)) (k : ∀ cells' slots', cells' + h.length = cells + f.2.2.2.length → slots' + x_sz h = slots + x_sz f.2.2.2 → x_go p l e R s m args below meth c Q M cl D cA b B ext j f cells' slots') : x_go p l e R s m args below meth c Q M cl D cA b B ext j (pc, L, st, h) cells slots := by
  obtain ⟨hx, hb, hml, hown, hts, hK, hini, hB, hE, hLS⟩ := hc
  have hd := x_dec hT hi 0 rfl
  obtain ⟨x, y, st', rfl, hs⟩ := x_l2_s hs
  cases hs
  intro H locs ls hw hS hl hL
  exact lv_lor hx hb hd (k _ _ rfl rfl H locs ls hw hS hl hL)
theorem xs_ldiv (hT : x_T M nm yn bc ALL cl tys) (hc : x_cx p s m args meth c M nm yn bc ALL cl tys D cA B ext E b j) (hi : x_fe M j pc = some (.ldiv)) (hs : x_ins M j (.ldiv) pc L st h = some (.inl f)) (k : ∀ cells' slots', cells' + h.length = cells + f.2.2.2.length → slots' + x_sz h = slots + x_sz f.2.2.2 → x_go p l e R s m args below meth c Q M cl D cA b B ext j f cells' slots') : x_go p l e R s m args below meth c Q M cl D cA b B ext j (pc, L, st, h) cells slots := by
  obtain ⟨hx, hb, hml, hown, hts, hK, hini, hB, hE, hLS⟩ := hc
  have hd := x_dec hT hi 0 rfl
  obtain ⟨x, y, st', rfl, hs2⟩ := x_l2_s hs
  split at hs2
  · cases hs2
  rename_i hne
  cases hs2
  intro H locs ls hw hS hl hL
  exact lv_ldiv hx hb hd hne (k _ _ rfl rfl H locs ls hw hS hl hL)
theorem xs_lrem (hT : x_T M nm yn bc ALL cl tys) (hc : x_cx p s m args meth c M nm yn bc ALL cl tys D cA B ext E b j) (hi : x_fe M j pc = some (.lrem)) (hs : x_ins M j (.lrem) pc L st h = some (.inl f)) (k : ∀ cells' slots', cells' + h.length = cells + f.2.2.2.length → slots' + x_sz h = slots + x_sz f.2.2.2 → x_go p l e R s m args below meth c Q M cl D cA b B ext j f cells' slots') : x_go p l e R s m args below meth c Q M cl D cA b B ext j (pc, L, st, h) cells slots := by
  obtain ⟨hx, hb, hml, hown, hts, hK, hini, hB, hE, hLS⟩ := hc
  have hd := x_dec hT hi 0 rfl
  obtain ⟨x, y, st', rfl, hs2⟩ := x_l2_s hs
  split at hs2
  · cases hs2
  rename_i hne
  cases hs2
  intro H locs ls hw hS hl hL
  exact lv_lrem hx hb hd hne (k _ _ rfl rfl H locs ls hw hS hl hL)
theorem xs_lshl (hT : x_T M nm yn bc ALL cl tys) (hc : x_cx p s m args meth c M nm yn bc ALL cl tys D cA B ext E b j) (hi : x_fe M j pc = some (.lshl)) (hs : x_ins M j (.lshl) pc L st h = some (.inl f)) (k : ∀ cells' slots', cells' + h.length = cells + f.2.2.2.length → slots' + x_sz h = slots + x_sz f.2.2.2 → x_go p l e R s m args below meth c Q M cl D cA b B ext j f cells' slots') : x_go p l e R s m args below meth c Q M cl D cA b B ext j (pc, L, st, h) cells slots := by
  obtain ⟨hx, hb, hml, hown, hts, hK, hini, hB, hE, hLS⟩ := hc
  have hd := x_dec hT hi 0 rfl
  obtain ⟨x, y, st', rfl, hs⟩ := x_li_s hs
  cases hs
  intro H locs ls hw hS hl hL
  exact lv_lshl hx hb hd rfl (k _ _ rfl rfl H locs ls hw hS hl hL)
theorem xs_lshr (hT : x_T M nm yn bc ALL cl tys) (hc : x_cx p s m args meth c M nm yn bc ALL cl tys D cA B ext E b j) (hi : x_fe M j pc = some (.lshr)) (hs : x_ins M j (.lshr) pc L st h = some (.inl f)) (k : ∀ cells' slots', cells' + h.length = cells + f.2.2.2.length → slots' + x_sz h = slots + x_sz f.2.2.2 → x_go p l e R s m args below meth c Q M cl D cA b B ext j f cells' slots') : x_go p l e R s m args below meth c Q M cl D cA b B ext j (pc, L, st, h) cells slots := by
  obtain ⟨hx, hb, hml, hown, hts, hK, hini, hB, hE, hLS⟩ := hc
  have hd := x_dec hT hi 0 rfl
  obtain ⟨x, y, st', rfl, hs⟩ := x_li_s hs
  cases hs
  intro H locs ls hw hS hl hL
  exact lv_lshr hx hb hd rfl (k _ _ rfl rfl H locs ls hw hS hl hL)
theorem xs_lcmp (hT : x_T M nm yn bc ALL cl tys) (hc : x_cx p s m args meth c M nm yn bc ALL cl tys D cA B ext E b j) (hi : x_fe M j pc = some (.lcmp)) (hs : x_ins M j (.lcmp) pc L st h = some (.inl f)) (k : ∀ cells' slots', cells' + h.length = cells + f.2.2.2.length → slots' + x_sz h = slots + x_sz f.2.2.2 → x_go p l e R s m args below meth c Q M cl D cA b B ext j f cells' slots') : x_go p l e R s m args below meth c Q M cl D cA b B ext j (pc, L, st, h) cells slots := by
  obtain ⟨hx, hb, hml, hown, hts, hK, hini, hB, hE, hLS⟩ := hc
  have hd := x_dec hT hi 0 rfl
  obtain ⟨x, y, st', rfl, hs⟩ := x_l2_s hs
  cases hs
  intro H locs ls hw hS hl hL
  exact W.lcmp hx hb hd (k _ _ rfl rfl H locs ls hw hS hl hL)
theorem xs_i2l (hT : x_T M nm yn bc ALL cl tys) (hc : x_cx p s m args meth c M nm yn bc ALL cl tys D cA B ext E b j) (hi : x_fe M j pc = some (.i2l)) (hs : x_ins M j (.i2l) pc L st h = some (.inl f)) (k : ∀ cells' slots', cells' + h.length = cells + f.2.2.2.length → slots' + x_sz h = slots + x_sz f.2.2.2 → x_go p l e R s m args below meth c Q M cl D cA b B ext j f cells' slots') : x_go p l e R s m args below meth c Q M cl D cA b B ext j (pc, L, st, h) cells slots := by
  obtain ⟨hx, hb, hml, hown, hts, hK, hini, hB, hE, hLS⟩ := hc
  have hd := x_dec hT hi 0 rfl
  obtain ⟨x, st', rfl, hs⟩ := x_i1_s hs
  cases hs
  intro H locs ls hw hS hl hL
  exact lv_i2l hx hb hd rfl (k _ _ rfl rfl H locs ls hw hS hl hL)
theorem xs_i2b (hT : x_T M nm yn bc ALL cl tys) (hc : x_cx p s m args meth c M nm yn bc ALL cl tys D cA B ext E b j) (hi : x_fe M j pc = some (.i2b)) (hs : x_ins M j (.i2b) pc L st h = some (.inl f)) (k : ∀ cells' slots', cells' + h.length = cells + f.2.2.2.length → slots' + x_sz h = slots + x_sz f.2.2.2 → x_go p l e R s m args below meth c Q M cl D cA b B ext j f cells' slots') : x_go p l e R s m args below meth c Q M cl D cA b B ext j (pc, L, st, h) cells slots := by
  obtain ⟨hx, hb, hml, hown, hts, hK, hini, hB, hE, hLS⟩ := hc
  have hd := x_dec hT hi 0 rfl
  obtain ⟨x, st', rfl, hs⟩ := x_i1_s hs
  cases hs
  intro H locs ls hw hS hl hL
  exact lv_i2b hx hb hd rfl (k _ _ rfl rfl H locs ls hw hS hl hL)
theorem xs_i2s (hT : x_T M nm yn bc ALL cl tys) (hc : x_cx p s m args meth c M nm yn bc ALL cl tys D cA B ext E b j) (hi : x_fe M j pc = some (.i2s)) (hs : x_ins M j (.i2s) pc L st h = some (.inl f)) (k : ∀ cells' slots', cells' + h.length = cells + f.2.2.2.length → slots' + x_sz h = slots + x_sz f.2.2.2 → x_go p l e R s m args below meth c Q M cl D cA b B ext j f cells' slots') : x_go p l e R s m args below meth c Q M cl D cA b B ext j (pc, L, st, h) cells slots := by
  obtain ⟨hx, hb, hml, hown, hts, hK, hini, hB, hE, hLS⟩ := hc
  have hd := x_dec hT hi 0 rfl
  obtain ⟨x, st', rfl, hs⟩ := x_i1_s hs
  cases hs
  intro H locs ls hw hS hl hL
  exact lv_i2s hx hb hd rfl (k _ _ rfl rfl H locs ls hw hS hl hL)
theorem xs_l2i (hT : x_T M nm yn bc ALL cl tys) (hc : x_cx p s m args meth c M nm yn bc ALL cl tys D cA B ext E b j) (hi : x_fe M j pc = some (.l2i)) (hs : x_ins M j (.l2i) pc L st h = some (.inl f)) (k : ∀ cells' slots', cells' + h.length = cells + f.2.2.2.length → slots' + x_sz h = slots + x_sz f.2.2.2 → x_go p l e R s m args below meth c Q M cl D cA b B ext j f cells' slots') : x_go p l e R s m args below meth c Q M cl D cA b B ext j (pc, L, st, h) cells slots := by
  obtain ⟨hx, hb, hml, hown, hts, hK, hini, hB, hE, hLS⟩ := hc
  have hd := x_dec hT hi 0 rfl
  obtain ⟨x, st', rfl, hs⟩ := x_l1_s hs
  cases hs
  intro H locs ls hw hS hl hL
  exact lv_l2i hx hb hd rfl (k _ _ rfl rfl H locs ls hw hS hl hL)
theorem xs_dup (hT : x_T M nm yn bc ALL cl tys) (hc : x_cx p s m args meth c M nm yn bc ALL cl tys D cA B ext E b j) (hi : x_fe M j pc = some (.dup)) (hs : x_ins M j (.dup) pc L st h = some (.inl f)) (k : ∀ cells' slots', cells' + h.length = cells + f.2.2.2.length → slots' + x_sz h = slots + x_sz f.2.2.2 → x_go p l e R s m args below meth c Q M cl D cA b B ext j f cells' slots') : x_go p l e R s m args below meth c Q M cl D cA b B ext j (pc, L, st, h) cells slots := by
  obtain ⟨hx, hb, hml, hown, hts, hK, hini, hB, hE, hLS⟩ := hc
  have hd := x_dec hT hi 0 rfl
  obtain ⟨v, st', rfl, hv, hs⟩ := x_v1_s hs
  cases hs
  intro H locs ls hw hS hl hL
  exact lv_dup hx hb hd (by rw [x_v_cat]; exact hv) (k _ _ rfl rfl H locs ls hw hS hl hL)
theorem xs_pop (hT : x_T M nm yn bc ALL cl tys) (hc : x_cx p s m args meth c M nm yn bc ALL cl tys D cA B ext E b j) (hi : x_fe M j pc = some (.pop)) (hs : x_ins M j (.pop) pc L st h = some (.inl f)) (k : ∀ cells' slots', cells' + h.length = cells + f.2.2.2.length → slots' + x_sz h = slots + x_sz f.2.2.2 → x_go p l e R s m args below meth c Q M cl D cA b B ext j f cells' slots') : x_go p l e R s m args below meth c Q M cl D cA b B ext j (pc, L, st, h) cells slots := by
  obtain ⟨hx, hb, hml, hown, hts, hK, hini, hB, hE, hLS⟩ := hc
  have hd := x_dec hT hi 0 rfl
  obtain ⟨v, st', rfl, hv, hs⟩ := x_v1_s hs
  cases hs
  intro H locs ls hw hS hl hL
  exact lv_pop hx hb hd (by rw [x_v_cat]; exact hv) (k _ _ rfl rfl H locs ls hw hS hl hL)
theorem xs_dup2 (hT : x_T M nm yn bc ALL cl tys) (hc : x_cx p s m args meth c M nm yn bc ALL cl tys D cA B ext E b j) (hi : x_fe M j pc = some (.dup2)) (hs : x_ins M j (.dup2) pc L st h = some (.inl f)) (k : ∀ cells' slots', cells' + h.length = cells + f.2.2.2.length → slots' + x_sz h = slots + x_sz f.2.2.2 → x_go p l e R s m args below meth c Q M cl D cA b B ext j f cells' slots') : x_go p l e R s m args below meth c Q M cl D cA b B ext j (pc, L, st, h) cells slots := by
  obtain ⟨hx, hb, hml, hown, hts, hK, hini, hB, hE, hLS⟩ := hc
  have hd := x_dec hT hi 0 rfl
  obtain ⟨v, st', rfl, hv, hs⟩ := x_v1_s hs
  obtain ⟨v2, st2, rfl, hv2, hs⟩ := x_v1_s hs
  cases hs
  intro H locs ls hw hS hl hL
  exact lv_dup2_11 hx hb hd (by rw [x_v_cat]; exact hv) (by rw [x_v_cat]; exact hv2) (k _ _ rfl rfl H locs ls hw hS hl hL)
theorem xs_ifCond {z : ClassFile.Cond} {off : Int} (hT : x_T M nm yn bc ALL cl tys) (hc : x_cx p s m args meth c M nm yn bc ALL cl tys D cA B ext E b j) (hi : x_fe M j pc = some (.ifCond z off)) (hs : x_ins M j (.ifCond z off) pc L st h = some (.inl f)) (k : ∀ cells' slots', cells' + h.length = cells + f.2.2.2.length → slots' + x_sz h = slots + x_sz f.2.2.2 → x_go p l e R s m args below meth c Q M cl D cA b B ext j f cells' slots') : x_go p l e R s m args below meth c Q M cl D cA b B ext j (pc, L, st, h) cells slots := by
  obtain ⟨hx, hb, hml, hown, hts, hK, hini, hB, hE, hLS⟩ := hc
  have hd := x_dec hT hi 2 rfl
  obtain ⟨x, st', rfl, hs⟩ := x_i1_s hs
  obtain ⟨t, ht, hs⟩ := x_br_s hs
  intro H locs ls hw hS hl hL
  cases z <;> simp only [x_cmp, decide_eq_true_eq] at hs
  case eq =>
    refine lv_if_eq hx hb hd ht (fun z => ?_) (fun z => ?_)
    · rcases hs with ⟨hcd, hs⟩ | ⟨hcd, hs⟩
      · cases hs
        exact (k _ _ rfl rfl H locs ls hw hS hl hL)
      · first | exact absurd z hcd | exact absurd hcd z
    · rcases hs with ⟨hcd, hs⟩ | ⟨hcd, hs⟩
      · first | exact absurd hcd z | exact absurd z hcd
      · cases hs
        exact (k _ _ rfl rfl H locs ls hw hS hl hL)
  case ne =>
    refine lv_if_ne hx hb hd ht (fun z => ?_) (fun z => ?_)
    · rcases hs with ⟨hcd, hs⟩ | ⟨hcd, hs⟩
      · cases hs
        exact (k _ _ rfl rfl H locs ls hw hS hl hL)
      · first | exact absurd z hcd | exact absurd hcd z
    · rcases hs with ⟨hcd, hs⟩ | ⟨hcd, hs⟩
      · first | exact absurd hcd z | exact absurd z hcd
      · cases hs
        exact (k _ _ rfl rfl H locs ls hw hS hl hL)
  case lt =>
    refine lv_if_lt hx hb hd ht (fun z => ?_) (fun z => ?_)
    · rcases hs with ⟨hcd, hs⟩ | ⟨hcd, hs⟩
      · cases hs
        exact (k _ _ rfl rfl H locs ls hw hS hl hL)
      · first | exact absurd z hcd | exact absurd hcd z
    · rcases hs with ⟨hcd, hs⟩ | ⟨hcd, hs⟩
      · first | exact absurd hcd z | exact absurd z hcd
      · cases hs
        exact (k _ _ rfl rfl H locs ls hw hS hl hL)
  case ge =>
    refine lv_if_ge hx hb hd ht (fun z => ?_) (fun z => ?_)
    · rcases hs with ⟨hcd, hs⟩ | ⟨hcd, hs⟩
      · cases hs
        exact (k _ _ rfl rfl H locs ls hw hS hl hL)
      · first | exact absurd z hcd | exact absurd hcd z
    · rcases hs with ⟨hcd, hs⟩ | ⟨hcd, hs⟩
      · first | exact absurd hcd z | exact absurd z hcd
      · cases hs
        exact (k _ _ rfl rfl H locs ls hw hS hl hL)
  case gt =>
    refine lv_if_gt hx hb hd ht (fun z => ?_) (fun z => ?_)
    · rcases hs with ⟨hcd, hs⟩ | ⟨hcd, hs⟩
      · cases hs
        exact (k _ _ rfl rfl H locs ls hw hS hl hL)
      · first | exact absurd z hcd | exact absurd hcd z
    · rcases hs with ⟨hcd, hs⟩ | ⟨hcd, hs⟩
      · first | exact absurd hcd z | exact absurd z hcd
      · cases hs
        exact (k _ _ rfl rfl H locs ls hw hS hl hL)
  case le =>
    refine lv_if_le hx hb hd ht (fun z => ?_) (fun z => ?_)
    · rcases hs with ⟨hcd, hs⟩ | ⟨hcd, hs⟩
      · cases hs
        exact (k _ _ rfl rfl H locs ls hw hS hl hL)
      · first | exact absurd z hcd | exact absurd hcd z
    · rcases hs with ⟨hcd, hs⟩ | ⟨hcd, hs⟩
      · first | exact absurd hcd z | exact absurd z hcd
      · cases hs
        exact (k _ _ rfl rfl H locs ls hw hS hl hL)

theorem xs_if_icmp {z : ClassFile.Cond} {off : Int} (hT : x_T M nm yn bc ALL cl tys) (hc : x_cx p s m args meth c M nm yn bc ALL cl tys D cA B ext E b j) (hi : x_fe M j pc = some (.if_icmp z off)) (hs : x_ins M j (.if_icmp z off) pc L st h = some (.inl f)) (k : ∀ cells' slots', cells' + h.length = cells + f.2.2.2.length → slots' + x_sz h = slots + x_sz f.2.2.2 → x_go p l e R s m args below meth c Q M cl D cA b B ext j f cells' slots') : x_go p l e R s m args below meth c Q M cl D cA b B ext j (pc, L, st, h) cells slots := by
  obtain ⟨hx, hb, hml, hown, hts, hK, hini, hB, hE, hLS⟩ := hc
  have hd := x_dec hT hi 2 rfl
  obtain ⟨x, y, st', rfl, hs⟩ := x_i2_s hs
  obtain ⟨t, ht, hs⟩ := x_br_s hs
  intro H locs ls hw hS hl hL
  cases z <;> simp only [x_cmp, decide_eq_true_eq] at hs
  case eq =>
    refine lv_icmp_eq hx hb hd ht (fun z => ?_) (fun z => ?_)
    · rcases hs with ⟨hcd, hs⟩ | ⟨hcd, hs⟩
      · cases hs
        exact (k _ _ rfl rfl H locs ls hw hS hl hL)
      · first | exact absurd z hcd | exact absurd hcd z
    · rcases hs with ⟨hcd, hs⟩ | ⟨hcd, hs⟩
      · first | exact absurd hcd z | exact absurd z hcd
      · cases hs
        exact (k _ _ rfl rfl H locs ls hw hS hl hL)
  case ne =>
    refine lv_icmp_ne hx hb hd ht (fun z => ?_) (fun z => ?_)
    · rcases hs with ⟨hcd, hs⟩ | ⟨hcd, hs⟩
      · cases hs
        exact (k _ _ rfl rfl H locs ls hw hS hl hL)
      · first | exact absurd z hcd | exact absurd hcd z
    · rcases hs with ⟨hcd, hs⟩ | ⟨hcd, hs⟩
      · first | exact absurd hcd z | exact absurd z hcd
      · cases hs
        exact (k _ _ rfl rfl H locs ls hw hS hl hL)
  case lt =>
    refine lv_icmp_lt hx hb hd ht (fun z => ?_) (fun z => ?_)
    · rcases hs with ⟨hcd, hs⟩ | ⟨hcd, hs⟩
      · cases hs
        exact (k _ _ rfl rfl H locs ls hw hS hl hL)
      · first | exact absurd z hcd | exact absurd hcd z
    · rcases hs with ⟨hcd, hs⟩ | ⟨hcd, hs⟩
      · first | exact absurd hcd z | exact absurd z hcd
      · cases hs
        exact (k _ _ rfl rfl H locs ls hw hS hl hL)
  case ge =>
    refine lv_icmp_ge hx hb hd ht (fun z => ?_) (fun z => ?_)
    · rcases hs with ⟨hcd, hs⟩ | ⟨hcd, hs⟩
      · cases hs
        exact (k _ _ rfl rfl H locs ls hw hS hl hL)
      · first | exact absurd z hcd | exact absurd hcd z
    · rcases hs with ⟨hcd, hs⟩ | ⟨hcd, hs⟩
      · first | exact absurd hcd z | exact absurd z hcd
      · cases hs
        exact (k _ _ rfl rfl H locs ls hw hS hl hL)
  case gt =>
    refine lv_icmp_gt hx hb hd ht (fun z => ?_) (fun z => ?_)
    · rcases hs with ⟨hcd, hs⟩ | ⟨hcd, hs⟩
      · cases hs
        exact (k _ _ rfl rfl H locs ls hw hS hl hL)
      · first | exact absurd z hcd | exact absurd hcd z
    · rcases hs with ⟨hcd, hs⟩ | ⟨hcd, hs⟩
      · first | exact absurd hcd z | exact absurd z hcd
      · cases hs
        exact (k _ _ rfl rfl H locs ls hw hS hl hL)
  case le =>
    refine lv_icmp_le hx hb hd ht (fun z => ?_) (fun z => ?_)
    · rcases hs with ⟨hcd, hs⟩ | ⟨hcd, hs⟩
      · cases hs
        exact (k _ _ rfl rfl H locs ls hw hS hl hL)
      · first | exact absurd z hcd | exact absurd hcd z
    · rcases hs with ⟨hcd, hs⟩ | ⟨hcd, hs⟩
      · first | exact absurd hcd z | exact absurd z hcd
      · cases hs
        exact (k _ _ rfl rfl H locs ls hw hS hl hL)

theorem xs_goto {off : Int} (hT : x_T M nm yn bc ALL cl tys) (hc : x_cx p s m args meth c M nm yn bc ALL cl tys D cA B ext E b j) (hi : x_fe M j pc = some (.goto off)) (hs : x_ins M j (.goto off) pc L st h = some (.inl f)) (k : ∀ cells' slots', cells' + h.length = cells + f.2.2.2.length → slots' + x_sz h = slots + x_sz f.2.2.2 → x_go p l e R s m args below meth c Q M cl D cA b B ext j f cells' slots') : x_go p l e R s m args below meth c Q M cl D cA b B ext j (pc, L, st, h) cells slots := by
  obtain ⟨hx, hb, hml, hown, hts, hK, hini, hB, hE, hLS⟩ := hc
  have hd := x_dec hT hi 2 rfl
  obtain ⟨t, ht, hs⟩ := x_tg_s hs
  cases hs
  intro H locs ls hw hS hl hL
  exact lv_goto hx hb hd ht (k _ _ rfl rfl H locs ls hw hS hl hL)
theorem xs_tableswitch {d lo up : Int} {offs : Array Int} (hT : x_T M nm yn bc ALL cl tys) (hc : x_cx p s m args meth c M nm yn bc ALL cl tys D cA B ext E b j) (hi : x_fe M j pc = some (.tableswitch d lo up offs)) (hs : x_ins M j (.tableswitch d lo up offs) pc L st h = some (.inl f)) (k : ∀ cells' slots', cells' + h.length = cells + f.2.2.2.length → slots' + x_sz h = slots + x_sz f.2.2.2 → x_go p l e R s m args below meth c Q M cl D cA b B ext j f cells' slots') : x_go p l e R s m args below meth c Q M cl D cA b B ext j (pc, L, st, h) cells slots := by
  obtain ⟨hx, hb, hml, hown, hts, hK, hini, hB, hE, hLS⟩ := hc
  obtain ⟨n, hd, -⟩ := hT.1 j pc _ hi
  obtain ⟨x, st', rfl, hs2⟩ := x_i1_s hs
  intro H locs ls hw hS hl hL
  have hs := hs2
  clear hs2
  split at hs
  · rename_i h1
    obtain ⟨t, ht, hs⟩ := x_tg_s hs
    cases hs
    exact lv_tableOut hx hb hd h1 ht (k _ _ rfl rfl H locs ls hw hS hl hL)
  · rename_i h1
    split at hs
    · rename_i o ho
      obtain ⟨t, ht, hs⟩ := x_tg_s hs
      cases hs
      exact lv_tableIn hx hb hd (fun z => h1 (Or.inl z)) (fun z => h1 (Or.inr z)) ho ht (k _ _ rfl rfl H locs ls hw hS hl hL)
    · cases hs
theorem xs_ldc {z : Nat} (hT : x_T M nm yn bc ALL cl tys) (hc : x_cx p s m args meth c M nm yn bc ALL cl tys D cA B ext E b j) (hi : x_fe M j pc = some (.ldc z)) (hs : x_ins M j (.ldc z) pc L st h = some (.inl f)) (k : ∀ cells' slots', cells' + h.length = cells + f.2.2.2.length → slots' + x_sz h = slots + x_sz f.2.2.2 → x_go p l e R s m args below meth c Q M cl D cA b B ext j f cells' slots') : x_go p l e R s m args below meth c Q M cl D cA b B ext j (pc, L, st, h) cells slots := by
  obtain ⟨hx, hb, hml, hown, hts, hK, hini, hB, hE, hLS⟩ := hc
  have hd := x_dec hT hi 1 rfl
  simp only [x_ins] at hs
  split at hs
  · rename_i v hv
    cases hs
    intro H locs ls hw hS hl hL
    exact lv_ldc hx hb hown (hts _ (hT.2.2.2.2.2.2.1.1 _ _ _ hv)) hd (k _ _ rfl rfl H locs ls hw hS hl hL)
  · rename_i r hv
    cases hs
    intro H locs ls hw hS hl hL
    obtain ⟨tx, htx⟩ := hLS.1 _ _ _ hv
    exact va_ldcS hx hb hown (htx s hE) hd (k _ _ rfl rfl H locs ls hw hS hl hL)
  · cases hs
theorem xs_ldc_w {z : Nat} (hT : x_T M nm yn bc ALL cl tys) (hc : x_cx p s m args meth c M nm yn bc ALL cl tys D cA B ext E b j) (hi : x_fe M j pc = some (.ldc_w z)) (hs : x_ins M j (.ldc_w z) pc L st h = some (.inl f)) (k : ∀ cells' slots', cells' + h.length = cells + f.2.2.2.length → slots' + x_sz h = slots + x_sz f.2.2.2 → x_go p l e R s m args below meth c Q M cl D cA b B ext j f cells' slots') : x_go p l e R s m args below meth c Q M cl D cA b B ext j (pc, L, st, h) cells slots := by
  obtain ⟨hx, hb, hml, hown, hts, hK, hini, hB, hE, hLS⟩ := hc
  have hd := x_dec hT hi 2 rfl
  simp only [x_ins] at hs
  split at hs
  · rename_i v hv
    cases hs
    intro H locs ls hw hS hl hL
    exact lv_ldcw hx hb hown (hts _ (hT.2.2.2.2.2.2.1.1 _ _ _ hv)) hd (k _ _ rfl rfl H locs ls hw hS hl hL)
  · cases hs
theorem xs_ldc2_w {z : Nat} (hT : x_T M nm yn bc ALL cl tys) (hc : x_cx p s m args meth c M nm yn bc ALL cl tys D cA B ext E b j) (hi : x_fe M j pc = some (.ldc2_w z)) (hs : x_ins M j (.ldc2_w z) pc L st h = some (.inl f)) (k : ∀ cells' slots', cells' + h.length = cells + f.2.2.2.length → slots' + x_sz h = slots + x_sz f.2.2.2 → x_go p l e R s m args below meth c Q M cl D cA b B ext j f cells' slots') : x_go p l e R s m args below meth c Q M cl D cA b B ext j (pc, L, st, h) cells slots := by
  obtain ⟨hx, hb, hml, hown, hts, hK, hini, hB, hE, hLS⟩ := hc
  have hd := x_dec hT hi 2 rfl
  simp only [x_ins] at hs
  split at hs
  · rename_i v hv
    cases hs
    intro H locs ls hw hS hl hL
    exact lv_ldc2 hx hb hown (hts _ (hT.2.2.2.2.2.2.1.2 _ _ _ hv)) hd (k _ _ rfl rfl H locs ls hw hS hl hL)
  · cases hs
end XS
