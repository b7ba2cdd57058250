/-! SOUNDNESS: what the abstract machine answers, the machine answers (own work) -/
section XS
variable {p : Program} {l : Launch} {e : Env} {R : Room} {s : State} {m : MethodId} {args : Array Value} {below : List Frame} {meth : Method} {c : Code} {Q : State → Prop}
variable {M : xM} {nm : Nat → String} {yn : Nat → MethodName} {bc : Nat → ByteArray} {ALL : List Cond} {cl : List vw_C} {tys : List FieldType} {D : va_G} {cA : Nat → ClassId} {b B : Nat} {ext : Nat → Nat} {E : State → Prop} {j pc : Nat} {L : List (Option Value)} {st : List Value} {h : xH} {f : xF} {cells slots : Nat}

theorem x_walk (hT : x_T M nm yn bc ALL cl tys) (hc : x_cx p s m args meth c M nm yn bc ALL cl tys D cA B ext E b j) (hE : x_Eo B E) {d : Nat} {C : Nat → List Value → xH → Option Value × xH → Prop} (hG : x_good l M nm yn bc ALL cl tys D cA b B ext E d C) (hR : d + 1 ≤ R.frames ∧ (d + 1) * 59 ≤ R.locals) (hCm : ∀ k as h q, C k as h q → h.length ≤ q.2.length ∧ x_sz h ≤ x_sz q.2) : ∀ (n : Nat) (f : xF) (r : Option Value × xH) (cells slots : Nat), x_run C M j n f r → cells + r.2.length ≤ R.cells + f.2.2.2.length → slots + x_sz r.2 ≤ R.slots + x_sz f.2.2.2 →
    (∀ (pc : Nat) (L : List (Option Value)) (st : List Value) (cells' slots' : Nat), x_kind M j (pc, L, st, r.2) = some (.inr (.inl r)) → cells' + f.2.2.2.length = cells + r.2.length → slots' + x_sz f.2.2.2 = slots + x_sz r.2 → x_go p l e R s m args below meth c Q M cl D cA b B ext j (pc, L, st, r.2) cells' slots') → x_go p l e R s m args below meth c Q M cl D cA b B ext j f cells slots := by
  have hR1 : 1 ≤ R.frames ∧ 40 ≤ R.locals := ⟨by have := hR.1; omega, by have := hR.2; omega⟩
  intro n
  induction n with
  | zero => intro f r cells slots hr; exact hr.elim
  | succ n ih =>
    intro f r cells slots hr h1 h2 hret
    obtain ⟨pc, L, st, h⟩ := f
    rw [x_run] at hr
    simp only at h1 h2 hret
    split at hr
    · rename_i g hk
      have hm := x_run_mono hCm n g r hr
      refine x_step hT hc hR1 (by omega) (by omega) hk (fun cells' slots' e1 e2 => ih g r cells' slots' hr (by omega) (by omega) (fun pc L st c2 s2 q1 q2 q3 => hret pc L st c2 s2 q1 (by omega) (by omega)))
    · rename_i q hk
      subst hr
      obtain ⟨i, hi, hs⟩ := x_kind_i hk
      have e1 : q.2 = h := (x_ins_mono hs).2 (fun g z => by cases z)
      subst e1
      exact hret pc L st cells slots hk rfl rfl
    · rename_i k as g hk
      obtain ⟨q, hq, hr⟩ := hr
      have hm := x_run_mono hCm n _ r hr
      simp only at hm
      refine x_callstep hT hc hE hG hR hq (by omega) (by omega) hk (fun cells' slots' e1 e2 => ih _ r cells' slots' hr (by simp only; omega) (by simp only; omega) (fun pc L st c2 s2 q1 q2 q3 => hret pc L st c2 s2 q1 (by simp only at q2; omega) (by simp only at q3; omega)))
    · exact hr.elim
theorem x_as_ent (ad : Nat → Nat) (n : Nat) : ∀ (as : List Value) (i : Nat), x_as ad i (x_sp as ++ List.replicate n none) = lv_args i (as.map (x_v ad)) := by
  have hrep : ∀ (n i : Nat), x_as ad i (List.replicate n none) = [] := by
    intro n
    induction n with
    | zero => intro i; rfl
    | succ n ih => intro i; rw [List.replicate_succ, x_as]; exact ih _
  intro as
  induction as with
  | nil => intro i; exact hrep n i
  | cons v as ih =>
    intro i
    rw [x_sp, List.map_cons, lv_args, x_v_cat]
    split
    · rw [List.cons_append, List.cons_append, x_as, x_as, ih]
    · rw [List.cons_append, x_as, ih]
theorem x_sp_len : ∀ as : List Value, (x_sp as).length = x_wd as := by
  intro as
  induction as with
  | nil => rfl
  | cons v as ih =>
    rw [x_sp, x_wd]
    split
    · simp [ih]; omega
    · simp [ih]; omega
theorem x_lg_len (ad : Nat → Nat) : ∀ as : List Value, (lg_sl (as.map (x_v ad))).length = x_wd as := by
  intro as
  induction as with
  | nil => rfl
  | cons v as ih =>
    rw [x_wd, ← ih]
    simp only [lg_sl, List.map_cons, List.flatMap_cons, List.length_append, x_v_cat]
    split <;> rfl
theorem x_ent_len {n : Nat} {as : List Value} (h : x_wd as ≤ n) : (x_ent n as).length = n := by
  unfold x_ent
  rw [List.length_append, x_sp_len, List.length_replicate]
  omega
theorem x_retn {r : Option Value × xH} {mc ms : Nat} (hT : x_T M nm yn bc ALL cl tys) (hc : x_cx p s m args meth c M nm yn bc ALL cl tys D cA B ext E b j) (hr : meth.sig.returnType = x_rt M j) (hlocks : meth.locks = false) (hk : x_kind M j (pc, L, st, h) = some (.inr (.inl r))) : x_go p l e R s m args below meth c (MQ below (x_Qc cl D cA b B ext r) args s mc ms (x_A B)) M cl D cA b B ext j (pc, L, st, h) mc ms := by
  obtain ⟨i, hi, hs⟩ := x_kind_i hk
  obtain ⟨hx, hb, hml, hown, hts, hK, hini, hB, hEs, hLS⟩ := hc
  cases i with
  | ireturn =>
    have hd := x_dec hT hi 0 rfl
    simp only [x_ins] at hs
    split at hs
    · split at hs
      · rename_i ty hty
        split at hs
        · rename_i hn
          cases hs
          intro H locs ls hw hS hl hL
          exact W.zret hx hb (hr.trans hty) hn (fun t ht hW => ⟨rfl, by rw [ht]; exact hw, hS.F ht⟩) hS.2.2 hd
        · cases hs
      · cases hs
    · cases hs
  | lreturn =>
    have hd := x_dec hT hi 0 rfl
    simp only [x_ins] at hs
    split at hs
    · split at hs
      · rename_i hty
        cases hs
        intro H locs ls hw hS hl hL
        exact W.lret hx hb (hr.trans hty) (fun t ht hW => ⟨rfl, by rw [ht]; exact hw, hS.F ht⟩) hS.2.2 hd
      · cases hs
    · cases hs
  | return_ =>
    have hd := x_dec hT hi 0 rfl
    simp only [x_ins] at hs
    split at hs
    · split at hs
      · rename_i hty
        cases hs
        intro H locs ls hw hS hl hL
        exact W.vret hx hb (hr.trans hty) (fun t ht hW => ⟨rfl, by rw [ht]; exact hw, hS.F ht⟩) hS.2.2 hd
      · cases hs
    · cases hs
  | iconst z =>
    cases hs
  | bipush z =>
    cases hs
  | sipush z =>
    cases hs
  | lconst z =>
    cases hs
  | iload_n z =>
    obtain ⟨_, _, hs⟩ := x_ldi_s hs
    cases hs
  | iload z =>
    obtain ⟨_, _, hs⟩ := x_ldi_s hs
    cases hs
  | lload_n z =>
    obtain ⟨_, _, hs⟩ := x_ldl_s hs
    cases hs
  | lload z =>
    obtain ⟨_, _, hs⟩ := x_ldl_s hs
    cases hs
  | aload_n z =>
    obtain ⟨_, _, hs⟩ := x_lda_s hs
    cases hs
  | aload z =>
    obtain ⟨_, _, hs⟩ := x_lda_s hs
    cases hs
  | istore_n z =>
    obtain ⟨_, _, _, hs⟩ := x_i1_s hs
    obtain ⟨_, hs⟩ := x_sto_s hs
    cases hs
  | istore z =>
    obtain ⟨_, _, _, hs⟩ := x_i1_s hs
    obtain ⟨_, hs⟩ := x_sto_s hs
    cases hs
  | astore_n z =>
    obtain ⟨_, _, _, hs⟩ := x_r1_s hs
    obtain ⟨_, hs⟩ := x_sto_s hs
    cases hs
  | astore z =>
    obtain ⟨_, _, _, hs⟩ := x_r1_s hs
    obtain ⟨_, hs⟩ := x_sto_s hs
    cases hs
  | iinc z y =>
    obtain ⟨_, _, hs⟩ := x_ldi_s hs
    obtain ⟨_, hs⟩ := x_sto_s hs
    cases hs
  | iadd =>
    obtain ⟨_, _, _, _, hs⟩ := x_i2_s hs
    cases hs
  | isub =>
    obtain ⟨_, _, _, _, hs⟩ := x_i2_s hs
    cases hs
  | imul =>
    obtain ⟨_, _, _, _, hs⟩ := x_i2_s hs
    cases hs
  | iand =>
    obtain ⟨_, _, _, _, hs⟩ := x_i2_s hs
    cases hs
  | ior =>
    obtain ⟨_, _, _, _, hs⟩ := x_i2_s hs
    cases hs
  | ixor =>
    obtain ⟨_, _, _, _, hs⟩ := x_i2_s hs
    cases hs
  | ishl =>
    obtain ⟨_, _, _, _, hs⟩ := x_i2_s hs
    cases hs
  | ishr =>
    obtain ⟨_, _, _, _, hs⟩ := x_i2_s hs
    cases hs
  | iushr =>
    obtain ⟨_, _, _, _, hs⟩ := x_i2_s hs
    cases hs
  | ladd =>
    obtain ⟨_, _, _, _, hs⟩ := x_l2_s hs
    cases hs
  | lmul =>
    obtain ⟨_, _, _, _, hs⟩ := x_l2_s hs
    cases hs
  | land =>
    obtain ⟨_, _, _, _, hs⟩ := x_l2_s hs
    cases hs
  | lor =>
    obtain ⟨_, _, _, _, hs⟩ := x_l2_s hs
    cases hs
  | lcmp =>
    obtain ⟨_, _, _, _, hs⟩ := x_l2_s hs
    cases hs
  | lshl =>
    obtain ⟨_, _, _, _, hs⟩ := x_li_s hs
    cases hs
  | lshr =>
    obtain ⟨_, _, _, _, hs⟩ := x_li_s hs
    cases hs
  | ineg =>
    obtain ⟨_, _, _, hs⟩ := x_i1_s hs
    cases hs
  | i2l =>
    obtain ⟨_, _, _, hs⟩ := x_i1_s hs
    cases hs
  | i2b =>
    obtain ⟨_, _, _, hs⟩ := x_i1_s hs
    cases hs
  | i2s =>
    obtain ⟨_, _, _, hs⟩ := x_i1_s hs
    cases hs
  | l2i =>
    obtain ⟨_, _, _, hs⟩ := x_l1_s hs
    cases hs
  | dup =>
    obtain ⟨_, _, _, _, hs⟩ := x_v1_s hs
    cases hs
  | pop =>
    obtain ⟨_, _, _, _, hs⟩ := x_v1_s hs
    cases hs
  | dup2 =>
    obtain ⟨_, _, _, _, hs⟩ := x_v1_s hs
    obtain ⟨_, _, _, _, hs⟩ := x_v1_s hs
    cases hs
  | goto z =>
    obtain ⟨_, _, hs⟩ := x_tg_s hs
    cases hs
  | idiv =>
    obtain ⟨_, _, _, _, hs⟩ := x_i2_s hs
    split at hs
    · cases hs
    · cases hs
  | irem =>
    obtain ⟨_, _, _, _, hs⟩ := x_i2_s hs
    split at hs
    · cases hs
    · cases hs
  | ldiv =>
    obtain ⟨_, _, _, _, hs⟩ := x_l2_s hs
    split at hs
    · cases hs
    · cases hs
  | lrem =>
    obtain ⟨_, _, _, _, hs⟩ := x_l2_s hs
    split at hs
    · cases hs
    · cases hs
  | ifCond z off =>
    obtain ⟨_, _, _, hs⟩ := x_i1_s hs
    obtain ⟨t, _, hs⟩ := x_br_s hs
    rcases hs with ⟨_, hs⟩ | ⟨_, hs⟩
    · cases hs
    · cases hs
  | if_icmp z off =>
    obtain ⟨_, _, _, _, hs⟩ := x_i2_s hs
    obtain ⟨t, _, hs⟩ := x_br_s hs
    rcases hs with ⟨_, hs⟩ | ⟨_, hs⟩
    · cases hs
    · cases hs
  | tableswitch d lo up offs =>
    obtain ⟨_, _, _, hs⟩ := x_i1_s hs
    split at hs
    · obtain ⟨_, _, hs⟩ := x_tg_s hs
      cases hs
    · split at hs
      · obtain ⟨_, _, hs⟩ := x_tg_s hs
        cases hs
      · cases hs
  | ldc z =>
    simp only [x_ins] at hs
    split at hs
    · cases hs
    · cases hs
    · cases hs
  | ldc_w z =>
    simp only [x_ins] at hs
    split at hs
    · cases hs
    · cases hs
  | ldc2_w z =>
    simp only [x_ins] at hs
    split at hs
    · cases hs
    · cases hs
  | getfield z =>
    obtain ⟨_, _, _, hs⟩ := x_r1_s hs
    split at hs
    · obtain ⟨_, _, hs⟩ := x_ob_s hs
      split at hs
      · cases hs
      · cases hs
    · cases hs
  | putfield z =>
    obtain ⟨_, _, _, _, hs⟩ := x_vr_s hs
    split at hs
    · obtain ⟨_, hr, hs⟩ := x_ob_s hs
      split at hs
      · cases hs
      · cases hs
    · cases hs
  | new z =>
    simp only [x_ins] at hs
    split at hs
    · obtain ⟨_, hs⟩ := x_made_s hs
      cases hs
    · cases hs
  | newarray z =>
    obtain ⟨_, _, _, hs⟩ := x_i1_s hs
    split at hs
    · cases hs
    split at hs
    · obtain ⟨_, hs⟩ := x_made_s hs
      cases hs
    · obtain ⟨_, hs⟩ := x_made_s hs
      cases hs
    · obtain ⟨_, hs⟩ := x_made_s hs
      cases hs
    · obtain ⟨_, hs⟩ := x_made_s hs
      cases hs
    · cases hs
  | anewarray z =>
    obtain ⟨_, _, _, hs⟩ := x_i1_s hs
    split at hs
    · cases hs
    split at hs
    · obtain ⟨_, hs⟩ := x_made_s hs
      cases hs
    · cases hs
  | arraylength =>
    obtain ⟨_, _, _, hs⟩ := x_r1_s hs
    split at hs
    · cases hs
    · cases hs
  | iaload =>
    obtain ⟨_, _, _, _, hs⟩ := x_ri_s hs
    obtain ⟨_, _, _, hs⟩ := x_ri0_s hs
    split at hs
    · obtain ⟨_, _, _, hs⟩ := x_at'_s hs
      cases hs
    · cases hs
  | baload =>
    obtain ⟨_, _, _, _, hs⟩ := x_ri_s hs
    obtain ⟨_, _, _, hs⟩ := x_ri0_s hs
    split at hs
    · obtain ⟨_, _, _, hs⟩ := x_at'_s hs
      cases hs
    · cases hs
  | laload =>
    obtain ⟨_, _, _, _, hs⟩ := x_ri_s hs
    obtain ⟨_, _, hs⟩ := x_rl0_s hs
    obtain ⟨_, _, _, hs⟩ := x_at'_s hs
    cases hs
  | aaload =>
    obtain ⟨_, _, _, _, hs⟩ := x_ri_s hs
    obtain ⟨_, _, _, hs⟩ := x_rq0_s hs
    obtain ⟨_, _, _, hs⟩ := x_at'_s hs
    split at hs
    · cases hs
    · cases hs
  | iastore =>
    obtain ⟨_, _, _, _, _, hs⟩ := x_rii_s hs
    obtain ⟨_, _, hr, hs⟩ := x_ri0_s hs
    split at hs
    · obtain ⟨_, _, _, hs⟩ := x_at'_s hs
      cases hs
    · cases hs
  | bastore =>
    obtain ⟨_, _, _, _, _, hs⟩ := x_rii_s hs
    obtain ⟨_, _, hr, hs⟩ := x_ri0_s hs
    split at hs
    · obtain ⟨_, _, _, hs⟩ := x_at'_s hs
      cases hs
    · cases hs
  | lastore =>
    obtain ⟨_, _, _, _, _, hs⟩ := x_ril_s hs
    obtain ⟨_, hr, hs⟩ := x_rl0_s hs
    obtain ⟨_, _, _, hs⟩ := x_at'_s hs
    cases hs
  | aastore =>
    obtain ⟨_, _, _, _, _, hs⟩ := x_rir_s hs
    obtain ⟨_, _, hr, hs⟩ := x_rq0_s hs
    split at hs
    · split at hs
      · obtain ⟨_, _, _, hs⟩ := x_at'_s hs
        cases hs
      · cases hs
    · cases hs
  | invokevirtual z =>
    simp only [x_ins] at hs
    split at hs
    · obtain ⟨_, _, _, _, _, hs⟩ := x_cut_s hs
      obtain ⟨_, _, _, hs⟩ := x_hd_s hs
      split at hs
      · cases hs
      · cases hs
    · cases hs
  | invokespecial z =>
    simp only [x_ins] at hs
    split at hs
    · obtain ⟨_, _, _, _, _, hs⟩ := x_cut_s hs
      obtain ⟨_, _, _, hs⟩ := x_hd_s hs
      cases hs
    · obtain ⟨_, _, _, _, _, hs⟩ := x_cut_s hs
      obtain ⟨_, _, _, hs⟩ := x_hd_s hs
      cases hs
    · obtain ⟨_, _, _, hs⟩ := x_r1_s hs
      split at hs
      · cases hs
      · cases hs
    · cases hs
  | invokestatic z =>
    simp only [x_ins] at hs
    split at hs
    · obtain ⟨_, _, _, _, _, hs⟩ := x_cut_s hs
      cases hs
    · obtain ⟨_, _, _, _, _, hs⟩ := x_cut_s hs
      cases hs
    · exact absurd hs x_copy_no
    · obtain ⟨_, _, _, _, hs⟩ := x_i2_s hs
      split at hs
      · cases hs
      · cases hs
    · obtain ⟨_, _, _, _, hs⟩ := x_i2_s hs
      split at hs
      · cases hs
      · cases hs
    · cases hs
  | _ => cases hs
theorem x_ev_mono {P : Nat → List Value → Option Value} : ∀ d k as h q, x_ev M P d k as h q → h.length ≤ q.2.length ∧ x_sz h ≤ x_sz q.2 := by
  intro d
  induction d with
  | zero => intro k as h q hq; exact hq.elim
  | succ d ih =>
    intro k as h q hq
    rw [x_ev] at hq
    split at hq
    · obtain ⟨-, v, -, rfl⟩ := hq
      exact ⟨Nat.le_refl _, Nat.le_refl _⟩
    · obtain ⟨-, n, hn⟩ := hq
      exact x_run_mono ih n _ q hn
/-- what a member by law owes -/
def x_Po (l : Launch) (M : xM) (nm : Nat → String) (yn : Nat → MethodName) (bc : Nat → ByteArray) (ALL : List Cond) (cl : List vw_C) (tys : List FieldType) (D : va_G) (cA : Nat → ClassId) (b B : Nat) (ext : Nat → Nat) (E : State → Prop) (P : Nat → List Value → Option Value) : Prop :=
  ∀ k as v, x_pr M k = true → P k as = some v → x_mok M nm yn bc ALL k → (∀ r t, as = .ref r :: t → x_lim ≤ r → ∀ U : State, E U → x_ad b B ext r ≤ B ∧ ∃ cell : Cell, U.heap[x_ad b B ext r]? = some cell ∧ cell.vm.isStatics = false ∧ U.vm.findClass (yn k).cls = some cell.cls) ∧
    ∀ d h, 4 ≤ d → Met l (yn k) (x_ws M yn bc ALL k) (x_rm (d + 1) 0 0) (x_Pc cl tys D cA b B ext E as h) (x_Qc cl D cA b B ext (some v, h)) 0 0 (x_A B)
theorem x_sound {P : Nat → List Value → Option Value} (hT : x_T M nm yn bc ALL cl tys) (hE : x_Eo B E) (hP : x_Po l M nm yn bc ALL cl tys D cA b B ext E P)
    (hLS : x_LS M nm yn tys b B ext E) : ∀ d, x_good l M nm yn bc ALL cl tys D cA b B ext E d (x_ev M P d) := by
  intro d
  induction d with
  | zero => intro k as h q hq; exact hq.elim
  | succ d ih =>
    intro k as h q hq hok
    refine ⟨x_ev_mono (d + 1) k as h q hq, ?_, ?_⟩
    · intro hpr r t has hlim U hU
      rw [x_ev, if_pos hpr] at hq
      obtain ⟨-, v, hv, -⟩ := hq
      exact (hP k as v hpr hv hok).1 r t has hlim U hU
    · intro mc ms hmc hms
      have hok2 := hok
      obtain ⟨m1, m2, m3, m4, m5, m6, m7⟩ := hok
      rw [x_ev] at hq
      split at hq
      · rename_i hpr
        obtain ⟨h4, v, hv, rfl⟩ := hq
        have e1 : mc = 0 := by simp only at hmc; omega
        have e2 : ms = 0 := by simp only at hms; omega
        subst e1; subst e2
        exact (hP k as v hpr hv hok2).2 d h h4
      · obtain ⟨hwd, n, hn⟩ := hq
        refine Met.ofW (cc := bc k) (maxL := x_nL M k) (ret := x_rt M k) m2 rfl ?_
        intro p e s m args below meth c s₁ Bd hml hv
        obtain ⟨rfl, hw, hK, hEs⟩ := hv
        have hts := atoms_spec (ws := x_ws M yn bc ALL k) Bd.pre
        have hlocks := Bd.notSynchronized
        have hown : s.vm.findClass (yn k).cls = some m.cls := findClass_of_methodNamed Bd.named
        rw [m6] at hown
        have h0 : 0 < h.length := by
          obtain ⟨xs, hx0⟩ := hw.2.2.2.1
          exact (List.getElem?_eq_some_iff.mp hx0).1
        have hB : B < s.heap.size := by rw [hw.1]; omega
        have hcx : x_cx p s m (as.map (x_v (x_ad b B ext))).toArray meth c M nm yn bc ALL cl tys D cA B ext E b k := ⟨Bd.exec, Bd.bytes, hml, hown, fun w hw => hts w (List.mem_cons_of_mem _ hw), hK, fun hz => (name_of_methodNamed Bd.named Bd.method).1.trans (m7 hz), hB, hEs, hLS⟩
        have hl := lv_entry (as.map (x_v (x_ad b B ext))) (n := x_nL M k) (by rw [x_lg_len]; exact hwd)
        rw [lg_entry_eq]
        generalize (lg_sl (as.map (x_v (x_ad b B ext))) ++ List.replicate (x_nL M k - (lg_sl (as.map (x_v (x_ad b B ext)))).length) Slot.unset).toArray = ls at hl ⊢
        rw [← x_as_ent (x_ad b B ext) (x_nL M k - x_wd as) as 0] at hl
        refine x_walk hT hcx hE ih ⟨Nat.le_refl _, Nat.le_refl _⟩ (fun k as h q z => x_ev_mono d k as h q z) n (0, x_ent (x_nL M k) as, [], h) q 0 0 hn (by show 0 + q.2.length ≤ mc + h.length; omega) (by show 0 + x_sz q.2 ≤ ms + x_sz h; omega) ?_ s.heap [] ls hw va_S.rf hl (x_ent_len hwd)
        intro pc L st c2 s2 hk e1 e2
        simp only at e1 e2
        obtain rfl : c2 = mc := by omega
        obtain rfl : s2 = ms := by omega
        exact x_retn hT hcx Bd.returns hlocks hk

end XS
