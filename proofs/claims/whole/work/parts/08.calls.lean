/-! CALLS of the abstract machine (own work) -/
def x_Pc (cl : List vw_C) (tys : List FieldType) (D : va_G) (cA : Nat → ClassId) (b B : Nat) (ext : Nat → Nat) (E : State → Prop) (as : List Value) (h : xH) : Array Value → State → Prop := fun v U => v = (as.map (x_v (x_ad b B ext))).toArray ∧ x_w cl D cA b B ext h U.heap ∧ x_Kn cl tys D cA U ∧ E U
def x_Qc (cl : List vw_C) (D : va_G) (cA : Nat → ClassId) (b B : Nat) (ext : Nat → Nat) (r : Option Value × xH) : Array Value → State → Outcome → State → Prop := fun _ st oc t => oc = .returned (r.1.map (x_v (x_ad b B ext))) ∧ x_w cl D cA b B ext r.2 t.heap ∧ va_F (x_A B) st t
def x_rm (d mc ms : Nat) : Room := { frames := d, cells := mc, slots := ms, locals := d * 59 }
abbrev x_ws (M : xM) (yn : Nat → MethodName) (bc : Nat → ByteArray) (ALL : List Cond) (k : Nat) : List Cond := Cond.code (yn k) (bc k) (x_nL M k) (x_rt M k) :: ALL
/-- what is outside stays outside -/
def x_Eo (B : Nat) (E : State → Prop) : Prop := (∀ (U : State) (g : JFrame) (mk : MethodId) (a : Array Value), E U → E (U.calling g mk a)) ∧ ∀ (u U : State), E u → u.WarmedH U.vm → B < u.heap.size → (∀ q : Nat, q ≤ B → U.heap[q]? = u.heap[q]?) → E U
/-- what is called is met -/
def x_good (l : Launch) (M : xM) (nm : Nat → String) (yn : Nat → MethodName) (bc : Nat → ByteArray) (ALL : List Cond) (cl : List vw_C) (tys : List FieldType) (D : va_G) (cA : Nat → ClassId) (b B : Nat) (ext : Nat → Nat) (E : State → Prop) (d : Nat) (C : Nat → List Value → xH → Option Value × xH → Prop) : Prop :=
  ∀ k as h q, C k as h q → x_mok M nm yn bc ALL k → (h.length ≤ q.2.length ∧ x_sz h ≤ x_sz q.2) ∧
    (x_pr M k = true → ∀ r t, as = .ref r :: t → x_lim ≤ r → ∀ U : State, E U → x_ad b B ext r ≤ B ∧ ∃ cell : Cell, U.heap[x_ad b B ext r]? = some cell ∧ cell.vm.isStatics = false ∧ U.vm.findClass (yn k).cls = some cell.cls) ∧
    ∀ mc ms, mc + h.length = q.2.length → ms + x_sz h = x_sz q.2 → Met l (yn k) (x_ws M yn bc ALL k) (x_rm d mc ms) (x_Pc cl tys D cA b B ext E as h) (x_Qc cl D cA b B ext q) mc ms (x_A B)

section XS
variable {p : Program} {l : Launch} {e : Env} {R : Room} {s : State} {m : MethodId} {args : Array Value} {below : List Frame} {meth : Method} {c : Code} {Q : State → Prop}
variable {M : xM} {nm : Nat → String} {yn : Nat → MethodName} {bc : Nat → ByteArray} {ALL : List Cond} {cl : List vw_C} {tys : List FieldType} {D : va_G} {cA : Nat → ClassId} {b B : Nat} {ext : Nat → Nat} {E : State → Prop} {j pc : Nat} {L : List (Option Value)} {st : List Value} {h : xH} {f : xF} {cells slots : Nat} {H : Heap} {locs : List Loc} {ls : Array Slot}

theorem x_blind (hE : x_Eo B E) (as : List Value) : FrameBlind (x_Pc cl tys D cA b B ext E as h) := fun a U g mk q => ⟨q.1, q.2.1, q.2.2.1, hE.1 U g mk a q.2.2.2⟩
theorem x_enter (hE : x_Eo B E) (hEs : E s) (hB : B < s.heap.size) (hK : x_Kn cl tys D cA s) (hw : x_w cl D cA b B ext h H) (hS : va_S (x_A B) s.heap H locs) (as : List Value) : ∀ U : State, U.heap = H → s.WarmedH U.vm → x_Pc cl tys D cA b B ext E as h (as.map (x_v (x_ad b B ext))).toArray U := by
  intro U hU hW
  refine ⟨rfl, by rw [hU]; exact hw, hK.moved hW.alike, hE.2 s U hEs hW hB (fun q hq => ?_)⟩
  rw [hU]
  exact hS.2.1 q (by omega) (fun z => by unfold x_A at z; omega)
theorem x_goodIn (hT : x_T M nm yn bc ALL cl tys) (ws : List Cond) (hw : ∀ w ∈ ws, w ∈ ALL) : GoodIn ALL ws := fun w h => ⟨hw w h, good_of_word (hT.2.2.2.2.2.2.2.2.2.2 w (hw w h))⟩
theorem x_after {q : Option Value × xH} {mc ms : Nat} {a : Array Value} {st0 rest : List Value} (hr : va_Run p l e R s m args below meth c H locs cells slots mc ms (F0 m pc ls st0) rest (x_Qc cl D cA b B ext q a) (x_A B)) (hS : va_S (x_A B) s.heap H locs)
    (kk : ∀ (H1 : Heap) (locs1 : List Loc), x_w cl D cA b B ext q.2 H1 → va_S (x_A B) s.heap H1 locs1 → W p l e R s m args below meth c H1 locs1 (cells + mc) (slots + ms) Q (F0 m (pc + 3) ls ((q.1.map (x_v (x_ad b B ext))).toList ++ rest))) : W p l e R s m args below meth c H locs cells slots Q (F0 m pc ls st0) := by
  intro T hT X
  obtain ⟨v, st₀, t, T', L, h0, X', hL, e1, e2, ⟨hv, hwt, hz, hk⟩, st⟩ := hr T hT X
  cases hv
  rw [h0] at hz hk
  obtain ⟨t2, a1, b1⟩ := kk T'.heap (locs ++ L) (by rw [e1]; exact hwt)
    ⟨Nat.le_trans hS.1 (by rw [e1]; exact hz), fun q h1 h2 => by rw [e1, hk q (Nat.lt_of_lt_of_le h1 hS.1) h2]; exact hS.2.1 q h1 h2, fun q hq => by
      rcases List.mem_append.mp hq with h | h
      · exact hS.2.2 q h
      · exact hL q h⟩ T' rfl X'
  exact ⟨t2, st t2 a1, b1⟩
theorem x_cat_map (ad : Nat → Nat) (rest : List Value) : ((rest.map (x_v ad)).map fun v => v.category).sum = x_sum rest := by
  unfold x_sum
  rw [List.map_map]
  congr 2
  funext v
  exact x_v_cat _ v
theorem x_cut_s {n : Nat} {g : List Value → List Value → Option xK} {q : xK} (hh : x_cut n st g = some q) : ∃ as rest, st = as.reverse ++ rest ∧ as.length = n ∧ x_sum rest ≤ 8 ∧ g as rest = some q := by
  unfold x_cut at hh
  split at hh
  · rename_i e
    refine ⟨(st.take n).reverse, st.drop n, ?_, by rw [List.length_reverse]; exact e.1, e.2, hh⟩
    rw [List.reverse_reverse, List.take_append_drop]
  · cases hh
theorem x_hd_s {as : List Value} {g : Nat → Option xK} {q : xK} (hh : x_hd as g = some q) : ∃ r t, as = .ref r :: t ∧ g r = some q := by
  unfold x_hd at hh
  split at hh
  · exact ⟨_, _, rfl, hh⟩
  · cases hh
theorem x_tl (o : Option Value) (ad : Nat → Nat) (rest : List Value) : (o.map (x_v ad)).toList ++ rest.map (x_v ad) = (o.toList ++ rest).map (x_v ad) := by cases o <;> rfl

theorem xs_virt {z k y : Nat} (hT : x_T M nm yn bc ALL cl tys) (hc : x_cx p s m args meth c M nm yn bc ALL cl tys D cA B ext E b j) (hi : x_fe M j pc = some (.invokevirtual z)) (hp : x_pl M (x_ow M j) z = some (1, k, y)) (hE : x_Eo B E) {d : Nat} {C : Nat → List Value → xH → Option Value × xH → Prop} (hG : x_good l M nm yn bc ALL cl tys D cA b B ext E d C) (hR : d + 1 ≤ R.frames ∧ (d + 1) * 59 ≤ R.locals) {k' : Nat} {as : List Value} {g : xF} {q : Option Value × xH} (hC : C k' as g.2.2.2 q) (hcl : cells + q.2.length ≤ R.cells + h.length) (hsl : slots + x_sz q.2 ≤ R.slots + x_sz h) (hs : x_ins M j (.invokevirtual z) pc L st h = some (.inr (.inr (k', as, g)))) (kk : ∀ cells' slots', cells' + h.length = cells + q.2.length → slots' + x_sz h = slots + x_sz q.2 → x_go p l e R s m args below meth c Q M cl D cA b B ext j (g.1, g.2.1, q.1.toList ++ g.2.2.1, q.2) cells' slots') : x_go p l e R s m args below meth c Q M cl D cA b B ext j (pc, L, st, h) cells slots := by
  obtain ⟨hx, hb, hml, hown, hts, hK, hini, hB, hEs, hLS⟩ := hc
  have hd := x_dec hT hi 2 rfl
  simp only [x_ins, hp] at hs
  unfold x_virt at hs
  replace hs := x_cut_s hs
  obtain ⟨as1, rest, rfl, hlen, hsum, hs⟩ := hs
  replace hs := x_hd_s hs
  obtain ⟨r, as2, rfl, hs⟩ := hs
  split at hs
  · rename_i hrcv
    cases hs
    have hok : x_mok M nm yn bc ALL k := (hT.2.2.2.2.2.2.2.2.2.1.1 _ _ _ _ hp).1
    obtain ⟨m1, m2, m3, m4, m5, m6, m7⟩ := hok
    obtain ⟨⟨gl, gz⟩, gp, gm⟩ := hG _ _ _ _ hC ⟨m1, m2, m3, m4, m5, m6, m7⟩
    have gl : h.length ≤ q.2.length := gl
    have gz : x_sz h ≤ x_sz q.2 := gz
    obtain ⟨mc, hmc⟩ : ∃ mc, mc + h.length = q.2.length := ⟨q.2.length - h.length, by omega⟩
    obtain ⟨ms, hms⟩ : ∃ ms, ms + x_sz h = x_sz q.2 := ⟨x_sz q.2 - x_sz h, by omega⟩
    have hM := gm mc ms hmc hms
    have hws : ∀ w ∈ x_ws M yn bc ALL k, w ∈ ALL := fun w hw => (List.mem_cons.mp hw).elim (fun z => by rw [z]; exact m1) id
    have hRR : (x_rm d mc ms).frames + 1 ≤ R.frames ∧ 8 + (x_nL M k + 11) + (x_rm d mc ms).locals ≤ R.locals := ⟨hR.1, by show 8 + (x_nL M k + 11) + d * 59 ≤ R.locals; have := hR.2; omega⟩
    have hff : cells + mc ≤ R.cells ∧ slots + ms ≤ R.slots := ⟨by omega, by omega⟩
    intro H locs ls hw hS hl hL
    have hfin : ∀ (H1 : Heap) (locs1 : List Loc), x_w cl D cA b B ext q.2 H1 → va_S (x_A B) s.heap H1 locs1 → W p l e R s m args below meth c H1 locs1 (cells + mc) (slots + ms) Q (F0 m (pc + 3) ls ((q.1.map (x_v (x_ad b B ext))).toList ++ rest.map (x_v (x_ad b B ext)))) := by
      intro H1 locs1 w1 w2
      rw [x_tl]
      exact kk _ _ (by omega) (by omega) H1 locs1 ls w1 w2 hl hL
    obtain ⟨-, l1, l2, l3⟩ := hT.2.2.2.2.2.2.2.2.2.1.1 _ _ _ _ hp
    have hcell : ∃ cellB : Cell, H[x_ad b B ext r]? = some cellB ∧ cellB.vm.isStatics = false ∧ s.vm.findClass (yn k).cls = some cellB.cls := by
      rcases hrcv with hrcv | ⟨hpr, hlim⟩
      · unfold x_cls at hrcv
        split at hrcv
        · rename_i c2 fs2 hv2
          have hc2 := of_decide_eq_true hrcv
          subst hc2
          obtain ⟨q', hq', hlen2, cellV, g1, g2, g3, -⟩ := hw.2.2.2.2 r _ hv2
          refine ⟨cellV, g1, by rw [g3]; rfl, ?_⟩
          rw [m6, ← (hT.2.1 _ _ hq').1, g2]
          exact (hK.1 _ _ hq').2.1
        · cases hrcv
      · obtain ⟨z1, cellV, z2, z3, z4⟩ := gp hpr r as2 rfl hlim s hEs
        refine ⟨cellV, ?_, z3, z4⟩
        rw [hS.2.1 _ (by omega) (fun z => by unfold x_A at z; omega)]
        exact z2
    have hnp : as2.length = x_np M k := by simp at hlen; omega
    have cw := cwV (C := (yn k).cls) (own := nm (x_ow M j)) (index := z) (R := R) (rm := x_rm d mc ms) (mc := mc) (ms := ms) (x_np M k) hts (x_goodIn hT (wsV (nm (x_ow M j)) z (yn k).cls (yn k) (x_ws M yn bc ALL k)) (fun w hw => by
      unfold wsV at hw
      rcases List.mem_append.mp hw with hw | hw
      · simp only [List.mem_cons, List.not_mem_nil, or_false] at hw
        rcases hw with rfl | rfl | rfl | rfl
        · exact l1
        · exact l2
        · exact l3
        · exact m4
      · exact hws w hw)) rfl rfl rfl ⟨rfl, m3⟩ hRR
    have hrun := va_runV (l := l) (e := e) (below := below) (meth := meth) (locs := locs) (cells := cells) (slots := slots) (H := H) (b := x_ad b B ext r) (As := as2.map (x_v (x_ad b B ext))) (rest := rest.map (x_v (x_ad b B ext))) (g := F0 m pc ls (((Value.ref r :: as2).reverse ++ rest).map (x_v (x_ad b B ext)))) (nL := x_nL M j) (cc := bc j) (Ts := ALL) ⟨hx, hb, hml, hown, hts⟩ hM cw ⟨x_blind hE _, hcell, x_enter hE hEs hB hK hw hS _⟩ rfl (by rw [List.length_map]; exact hnp) hl.1 (by simp [List.map_reverse, x_v]) (by rw [x_cat_map]; exact (by show 2 * 0 + _ ≤ 8; omega)) hd hff
    exact x_after hrun hS hfin
  · cases hs
theorem xs_spec {z k y : Nat} (hT : x_T M nm yn bc ALL cl tys) (hc : x_cx p s m args meth c M nm yn bc ALL cl tys D cA B ext E b j) (hi : x_fe M j pc = some (.invokespecial z)) (hp : x_pl M (x_ow M j) z = some (2, k, y)) (hE : x_Eo B E) {d : Nat} {C : Nat → List Value → xH → Option Value × xH → Prop} (hG : x_good l M nm yn bc ALL cl tys D cA b B ext E d C) (hR : d + 1 ≤ R.frames ∧ (d + 1) * 59 ≤ R.locals) {k' : Nat} {as : List Value} {g : xF} {q : Option Value × xH} (hC : C k' as g.2.2.2 q) (hcl : cells + q.2.length ≤ R.cells + h.length) (hsl : slots + x_sz q.2 ≤ R.slots + x_sz h) (hs : x_ins M j (.invokespecial z) pc L st h = some (.inr (.inr (k', as, g)))) (kk : ∀ cells' slots', cells' + h.length = cells + q.2.length → slots' + x_sz h = slots + x_sz q.2 → x_go p l e R s m args below meth c Q M cl D cA b B ext j (g.1, g.2.1, q.1.toList ++ g.2.2.1, q.2) cells' slots') : x_go p l e R s m args below meth c Q M cl D cA b B ext j (pc, L, st, h) cells slots := by
  obtain ⟨hx, hb, hml, hown, hts, hK, hini, hB, hEs, hLS⟩ := hc
  have hd := x_dec hT hi 2 rfl
  simp only [x_ins, hp] at hs
  unfold x_spec at hs
  replace hs := x_cut_s hs
  obtain ⟨as1, rest, rfl, hlen, hsum, hs⟩ := hs
  replace hs := x_hd_s hs
  obtain ⟨r, as2, rfl, hs⟩ := hs
  cases hs
  have hok : x_mok M nm yn bc ALL k := (hT.2.2.2.2.2.2.2.2.2.1.2.1 _ _ _ _ hp).1
  obtain ⟨m1, m2, m3, m4, m5, m6, m7⟩ := hok
  obtain ⟨⟨gl, gz⟩, gp, gm⟩ := hG _ _ _ _ hC ⟨m1, m2, m3, m4, m5, m6, m7⟩
  have gl : h.length ≤ q.2.length := gl
  have gz : x_sz h ≤ x_sz q.2 := gz
  obtain ⟨mc, hmc⟩ : ∃ mc, mc + h.length = q.2.length := ⟨q.2.length - h.length, by omega⟩
  obtain ⟨ms, hms⟩ : ∃ ms, ms + x_sz h = x_sz q.2 := ⟨x_sz q.2 - x_sz h, by omega⟩
  have hM := gm mc ms hmc hms
  have hws : ∀ w ∈ x_ws M yn bc ALL k, w ∈ ALL := fun w hw => (List.mem_cons.mp hw).elim (fun z => by rw [z]; exact m1) id
  have hRR : (x_rm d mc ms).frames + 1 ≤ R.frames ∧ 8 + (x_nL M k + 11) + (x_rm d mc ms).locals ≤ R.locals := ⟨hR.1, by show 8 + (x_nL M k + 11) + d * 59 ≤ R.locals; have := hR.2; omega⟩
  have hff : cells + mc ≤ R.cells ∧ slots + ms ≤ R.slots := ⟨by omega, by omega⟩
  intro H locs ls hw hS hl hL
  have hfin : ∀ (H1 : Heap) (locs1 : List Loc), x_w cl D cA b B ext q.2 H1 → va_S (x_A B) s.heap H1 locs1 → W p l e R s m args below meth c H1 locs1 (cells + mc) (slots + ms) Q (F0 m (pc + 3) ls ((q.1.map (x_v (x_ad b B ext))).toList ++ rest.map (x_v (x_ad b B ext)))) := by
    intro H1 locs1 w1 w2
    rw [x_tl]
    exact kk _ _ (by omega) (by omega) H1 locs1 ls w1 w2 hl hL
  obtain ⟨-, l1, l2, l3, l4⟩ := hT.2.2.2.2.2.2.2.2.2.1.2.1 _ _ _ _ hp
  have hnp : as2.length = x_np M k := by simp at hlen; omega
  have hw2 : x_ws M yn bc ALL k = Cond.code (yn k) (bc k) (x_nL M k) none :: ALL := by rw [← l4]
  have cw := cwI (own := nm (x_ow M j)) (index := z) (R := R) (rm := x_rm d mc ms) (mc := mc) (ms := ms) (x_np M k) hts (x_goodIn hT _ hws) hw2 rfl rfl (hts _ m4) (hts _ l1) (hts _ l2) l3 m3 hRR
  have hrun := va_runI (l := l) (e := e) (below := below) (meth := meth) (locs := locs) (cells := cells) (slots := slots) (H := H) (b := x_ad b B ext r) (As := as2.map (x_v (x_ad b B ext))) (rest := rest.map (x_v (x_ad b B ext))) (g := F0 m pc ls (((Value.ref r :: as2).reverse ++ rest).map (x_v (x_ad b B ext)))) (nL := x_nL M j) (cc := bc j) (Ts := ALL) ⟨hx, hb, hml, hown, hts⟩ hM cw ⟨x_blind hE _, x_enter hE hEs hB hK hw hS (.ref r :: as2)⟩ rfl (by rw [List.length_map]; exact hnp) hl.1 (by simp [List.map_reverse, x_v]) (by rw [x_cat_map]; exact (by show 2 * 0 + _ ≤ 8; omega)) hd hff
  exact x_after hrun hS hfin
theorem xs_specN {z k y : Nat} (hT : x_T M nm yn bc ALL cl tys) (hc : x_cx p s m args meth c M nm yn bc ALL cl tys D cA B ext E b j) (hi : x_fe M j pc = some (.invokespecial z)) (hp : x_pl M (x_ow M j) z = some (4, k, y)) (hE : x_Eo B E) {d : Nat} {C : Nat → List Value → xH → Option Value × xH → Prop} (hG : x_good l M nm yn bc ALL cl tys D cA b B ext E d C) (hR : d + 1 ≤ R.frames ∧ (d + 1) * 59 ≤ R.locals) {k' : Nat} {as : List Value} {g : xF} {q : Option Value × xH} (hC : C k' as g.2.2.2 q) (hcl : cells + q.2.length ≤ R.cells + h.length) (hsl : slots + x_sz q.2 ≤ R.slots + x_sz h) (hs : x_ins M j (.invokespecial z) pc L st h = some (.inr (.inr (k', as, g)))) (kk : ∀ cells' slots', cells' + h.length = cells + q.2.length → slots' + x_sz h = slots + x_sz q.2 → x_go p l e R s m args below meth c Q M cl D cA b B ext j (g.1, g.2.1, q.1.toList ++ g.2.2.1, q.2) cells' slots') : x_go p l e R s m args below meth c Q M cl D cA b B ext j (pc, L, st, h) cells slots := by
  obtain ⟨hx, hb, hml, hown, hts, hK, hini, hB, hEs, hLS⟩ := hc
  have hd := x_dec hT hi 2 rfl
  simp only [x_ins, hp] at hs
  unfold x_spec at hs
  replace hs := x_cut_s hs
  obtain ⟨as1, rest, rfl, hlen, hsum, hs⟩ := hs
  replace hs := x_hd_s hs
  obtain ⟨r, as2, rfl, hs⟩ := hs
  cases hs
  have hok : x_mok M nm yn bc ALL k := (hT.2.2.2.2.2.2.2.2.2.1.2.2.2.1 _ _ _ _ hp).1
  obtain ⟨m1, m2, m3, m4, m5, m6, m7⟩ := hok
  obtain ⟨⟨gl, gz⟩, gp, gm⟩ := hG _ _ _ _ hC ⟨m1, m2, m3, m4, m5, m6, m7⟩
  have gl : h.length ≤ q.2.length := gl
  have gz : x_sz h ≤ x_sz q.2 := gz
  obtain ⟨mc, hmc⟩ : ∃ mc, mc + h.length = q.2.length := ⟨q.2.length - h.length, by omega⟩
  obtain ⟨ms, hms⟩ : ∃ ms, ms + x_sz h = x_sz q.2 := ⟨x_sz q.2 - x_sz h, by omega⟩
  have hM := gm mc ms hmc hms
  have hws : ∀ w ∈ x_ws M yn bc ALL k, w ∈ ALL := fun w hw => (List.mem_cons.mp hw).elim (fun z => by rw [z]; exact m1) id
  have hRR : (x_rm d mc ms).frames + 1 ≤ R.frames ∧ 8 + (x_nL M k + 11) + (x_rm d mc ms).locals ≤ R.locals := ⟨hR.1, by show 8 + (x_nL M k + 11) + d * 59 ≤ R.locals; have := hR.2; omega⟩
  have hff : cells + mc ≤ R.cells ∧ slots + ms ≤ R.slots := ⟨by omega, by omega⟩
  intro H locs ls hw hS hl hL
  have hfin : ∀ (H1 : Heap) (locs1 : List Loc), x_w cl D cA b B ext q.2 H1 → va_S (x_A B) s.heap H1 locs1 → W p l e R s m args below meth c H1 locs1 (cells + mc) (slots + ms) Q (F0 m (pc + 3) ls ((q.1.map (x_v (x_ad b B ext))).toList ++ rest.map (x_v (x_ad b B ext)))) := by
    intro H1 locs1 w1 w2
    rw [x_tl]
    exact kk _ _ (by omega) (by omega) H1 locs1 ls w1 w2 hl hL
  obtain ⟨-, l2, l3, l4⟩ := hT.2.2.2.2.2.2.2.2.2.1.2.2.2.1 _ _ _ _ hp
  have hnp : as2.length = x_np M k := by simp at hlen; omega
  have hw2 : x_ws M yn bc ALL k = Cond.code (yn k) (bc k) (x_nL M k) none :: ALL := by rw [← l4]
  have cw0 := va_cnB (own := nm (x_ow M j)) (host := "SecondWell") (index := z) (R := R) (rm := x_rm d mc ms) (mc := mc) (ms := ms) (x_np M k) hts (x_goodIn hT _ hws) hw2 rfl rfl (hLS.2.1 _ _ _ _ _ hp (Or.inl rfl) s hEs) (hts _ m4) m3 hRR
  have cw := And.intro cw0 (And.intro l3 (hts _ l2))
  have hrun := va_runIN (l := l) (e := e) (below := below) (meth := meth) (locs := locs) (cells := cells) (slots := slots) (H := H) (b := x_ad b B ext r) (As := as2.map (x_v (x_ad b B ext))) (rest := rest.map (x_v (x_ad b B ext))) (g := F0 m pc ls (((Value.ref r :: as2).reverse ++ rest).map (x_v (x_ad b B ext)))) (nL := x_nL M j) (cc := bc j) (Ts := ALL) ⟨hx, hb, hml, hown, hts⟩ hM cw ⟨x_blind hE _, x_enter hE hEs hB hK hw hS (.ref r :: as2)⟩ rfl (by rw [List.length_map]; exact hnp) hl.1 (by simp [List.map_reverse, x_v]) (by rw [x_cat_map]; exact (by show 2 * 0 + _ ≤ 8; omega)) hd hff
  exact x_after hrun hS hfin
theorem xs_stat {z k y : Nat} (hT : x_T M nm yn bc ALL cl tys) (hc : x_cx p s m args meth c M nm yn bc ALL cl tys D cA B ext E b j) (hi : x_fe M j pc = some (.invokestatic z)) (hp : x_pl M (x_ow M j) z = some (3, k, y)) (hE : x_Eo B E) {d : Nat} {C : Nat → List Value → xH → Option Value × xH → Prop} (hG : x_good l M nm yn bc ALL cl tys D cA b B ext E d C) (hR : d + 1 ≤ R.frames ∧ (d + 1) * 59 ≤ R.locals) {k' : Nat} {as : List Value} {g : xF} {q : Option Value × xH} (hC : C k' as g.2.2.2 q) (hcl : cells + q.2.length ≤ R.cells + h.length) (hsl : slots + x_sz q.2 ≤ R.slots + x_sz h) (hs : x_ins M j (.invokestatic z) pc L st h = some (.inr (.inr (k', as, g)))) (kk : ∀ cells' slots', cells' + h.length = cells + q.2.length → slots' + x_sz h = slots + x_sz q.2 → x_go p l e R s m args below meth c Q M cl D cA b B ext j (g.1, g.2.1, q.1.toList ++ g.2.2.1, q.2) cells' slots') : x_go p l e R s m args below meth c Q M cl D cA b B ext j (pc, L, st, h) cells slots := by
  obtain ⟨hx, hb, hml, hown, hts, hK, hini, hB, hEs, hLS⟩ := hc
  have hd := x_dec hT hi 2 rfl
  simp only [x_ins, hp] at hs
  replace hs := x_cut_s hs
  obtain ⟨as1, rest, rfl, hlen, hsum, hs⟩ := hs
  cases hs
  have hok : x_mok M nm yn bc ALL k := (hT.2.2.2.2.2.2.2.2.2.1.2.2.1 _ _ _ _ hp).1
  obtain ⟨m1, m2, m3, m4, m5, m6, m7⟩ := hok
  obtain ⟨⟨gl, gz⟩, gp, gm⟩ := hG _ _ _ _ hC ⟨m1, m2, m3, m4, m5, m6, m7⟩
  have gl : h.length ≤ q.2.length := gl
  have gz : x_sz h ≤ x_sz q.2 := gz
  obtain ⟨mc, hmc⟩ : ∃ mc, mc + h.length = q.2.length := ⟨q.2.length - h.length, by omega⟩
  obtain ⟨ms, hms⟩ : ∃ ms, ms + x_sz h = x_sz q.2 := ⟨x_sz q.2 - x_sz h, by omega⟩
  have hM := gm mc ms hmc hms
  have hws : ∀ w ∈ x_ws M yn bc ALL k, w ∈ ALL := fun w hw => (List.mem_cons.mp hw).elim (fun z => by rw [z]; exact m1) id
  have hRR : (x_rm d mc ms).frames + 1 ≤ R.frames ∧ 8 + (x_nL M k + 11) + (x_rm d mc ms).locals ≤ R.locals := ⟨hR.1, by show 8 + (x_nL M k + 11) + d * 59 ≤ R.locals; have := hR.2; omega⟩
  have hff : cells + mc ≤ R.cells ∧ slots + ms ≤ R.slots := ⟨by omega, by omega⟩
  intro H locs ls hw hS hl hL
  have hfin : ∀ (H1 : Heap) (locs1 : List Loc), x_w cl D cA b B ext q.2 H1 → va_S (x_A B) s.heap H1 locs1 → W p l e R s m args below meth c H1 locs1 (cells + mc) (slots + ms) Q (F0 m (pc + 3) ls ((q.1.map (x_v (x_ad b B ext))).toList ++ rest.map (x_v (x_ad b B ext)))) := by
    intro H1 locs1 w1 w2
    rw [x_tl]
    exact kk _ _ (by omega) (by omega) H1 locs1 ls w1 w2 hl hL
  obtain ⟨-, l1, l2⟩ := hT.2.2.2.2.2.2.2.2.2.1.2.2.1 _ _ _ _ hp
  have cw := va_cwS (own := nm (x_ow M j)) (index := z) (R := R) (rm := x_rm d mc ms) (mc := mc) (ms := ms) (x_np M k) hts (x_goodIn hT (va_wsS (nm (x_ow M j)) z (yn k) (x_ws M yn bc ALL k)) (fun w hw => by
    unfold va_wsS at hw
    rcases List.mem_append.mp hw with hw | hw
    · simp only [List.mem_cons, List.not_mem_nil, or_false] at hw
      rcases hw with rfl | rfl | rfl
      · exact l1
      · exact l2
      · exact m4
    · exact hws w hw)) rfl rfl rfl m3 hRR
  have hrun := va_runS (l := l) (e := e) (below := below) (meth := meth) (locs := locs) (cells := cells) (slots := slots) (H := H) (As := as.map (x_v (x_ad b B ext))) (rest := rest.map (x_v (x_ad b B ext))) (g := F0 m pc ls ((as.reverse ++ rest).map (x_v (x_ad b B ext)))) (nL := x_nL M j) (cc := bc j) (Ts := ALL) ⟨hx, hb, hml, hown, hts⟩ hM cw ⟨x_blind hE _, x_enter hE hEs hB hK hw hS as⟩ rfl (by rw [List.length_map]; exact hlen) hl.1 (by simp [List.map_reverse]) (by rw [x_cat_map]; exact (by show 2 * 0 + _ ≤ 8; omega)) hd hff
  exact x_after hrun hS hfin
theorem xs_statN {z k y : Nat} (hT : x_T M nm yn bc ALL cl tys) (hc : x_cx p s m args meth c M nm yn bc ALL cl tys D cA B ext E b j) (hi : x_fe M j pc = some (.invokestatic z)) (hp : x_pl M (x_ow M j) z = some (9, k, y)) (hE : x_Eo B E) {d : Nat} {C : Nat → List Value → xH → Option Value × xH → Prop} (hG : x_good l M nm yn bc ALL cl tys D cA b B ext E d C) (hR : d + 1 ≤ R.frames ∧ (d + 1) * 59 ≤ R.locals) {k' : Nat} {as : List Value} {g : xF} {q : Option Value × xH} (hC : C k' as g.2.2.2 q) (hcl : cells + q.2.length ≤ R.cells + h.length) (hsl : slots + x_sz q.2 ≤ R.slots + x_sz h) (hs : x_ins M j (.invokestatic z) pc L st h = some (.inr (.inr (k', as, g)))) (kk : ∀ cells' slots', cells' + h.length = cells + q.2.length → slots' + x_sz h = slots + x_sz q.2 → x_go p l e R s m args below meth c Q M cl D cA b B ext j (g.1, g.2.1, q.1.toList ++ g.2.2.1, q.2) cells' slots') : x_go p l e R s m args below meth c Q M cl D cA b B ext j (pc, L, st, h) cells slots := by
  obtain ⟨hx, hb, hml, hown, hts, hK, hini, hB, hEs, hLS⟩ := hc
  have hd := x_dec hT hi 2 rfl
  simp only [x_ins, hp] at hs
  replace hs := x_cut_s hs
  obtain ⟨as1, rest, rfl, hlen, hsum, hs⟩ := hs
  cases hs
  have hok : x_mok M nm yn bc ALL k := (hT.2.2.2.2.2.2.2.2.2.1.2.2.2.2 _ _ _ _ hp).1
  obtain ⟨m1, m2, m3, m4, m5, m6, m7⟩ := hok
  obtain ⟨⟨gl, gz⟩, gp, gm⟩ := hG _ _ _ _ hC ⟨m1, m2, m3, m4, m5, m6, m7⟩
  have gl : h.length ≤ q.2.length := gl
  have gz : x_sz h ≤ x_sz q.2 := gz
  obtain ⟨mc, hmc⟩ : ∃ mc, mc + h.length = q.2.length := ⟨q.2.length - h.length, by omega⟩
  obtain ⟨ms, hms⟩ : ∃ ms, ms + x_sz h = x_sz q.2 := ⟨x_sz q.2 - x_sz h, by omega⟩
  have hM := gm mc ms hmc hms
  have hws : ∀ w ∈ x_ws M yn bc ALL k, w ∈ ALL := fun w hw => (List.mem_cons.mp hw).elim (fun z => by rw [z]; exact m1) id
  have hRR : (x_rm d mc ms).frames + 1 ≤ R.frames ∧ 8 + (x_nL M k + 11) + (x_rm d mc ms).locals ≤ R.locals := ⟨hR.1, by show 8 + (x_nL M k + 11) + d * 59 ≤ R.locals; have := hR.2; omega⟩
  have hff : cells + mc ≤ R.cells ∧ slots + ms ≤ R.slots := ⟨by omega, by omega⟩
  intro H locs ls hw hS hl hL
  have hfin : ∀ (H1 : Heap) (locs1 : List Loc), x_w cl D cA b B ext q.2 H1 → va_S (x_A B) s.heap H1 locs1 → W p l e R s m args below meth c H1 locs1 (cells + mc) (slots + ms) Q (F0 m (pc + 3) ls ((q.1.map (x_v (x_ad b B ext))).toList ++ rest.map (x_v (x_ad b B ext)))) := by
    intro H1 locs1 w1 w2
    rw [x_tl]
    exact kk _ _ (by omega) (by omega) H1 locs1 ls w1 w2 hl hL
  obtain ⟨-, l2⟩ := hT.2.2.2.2.2.2.2.2.2.1.2.2.2.2 _ _ _ _ hp
  have cw0 := va_cnB (own := nm (x_ow M j)) (host := "SecondWell") (index := z) (R := R) (rm := x_rm d mc ms) (mc := mc) (ms := ms) (x_np M k) hts (x_goodIn hT _ hws) rfl rfl rfl (hLS.2.1 _ _ _ _ _ hp (Or.inr rfl) s hEs) (hts _ m4) m3 hRR
  have cw := And.intro cw0 (And.intro (hts _ l2) trivial)
  have hrun := va_runSN (l := l) (e := e) (below := below) (meth := meth) (locs := locs) (cells := cells) (slots := slots) (H := H) (As := as.map (x_v (x_ad b B ext))) (rest := rest.map (x_v (x_ad b B ext))) (g := F0 m pc ls ((as.reverse ++ rest).map (x_v (x_ad b B ext)))) (nL := x_nL M j) (cc := bc j) (Ts := ALL) ⟨hx, hb, hml, hown, hts⟩ hM cw ⟨x_blind hE _, x_enter hE hEs hB hK hw hS as⟩ rfl (by rw [List.length_map]; exact hlen) hl.1 (by simp [List.map_reverse]) (by rw [x_cat_map]; exact (by show 2 * 0 + _ ≤ 8; omega)) hd hff
  exact x_after hrun hS hfin
end XS
