/-! ONE STEP of the abstract machine at a row (own work) -/
section XS
variable {p : Program} {l : Launch} {e : Env} {R : Room} {s : State} {m : MethodId} {args : Array Value} {below : List Frame} {meth : Method} {c : Code} {Q : State → Prop}
variable {M : xM} {nm : Nat → String} {yn : Nat → MethodName} {bc : Nat → ByteArray} {ALL : List Cond} {cl : List vw_C} {tys : List FieldType} {D : va_G} {cA : Nat → ClassId} {b B : Nat} {ext : Nat → Nat} {E : State → Prop} {j pc : Nat} {L : List (Option Value)} {st : List Value} {h : xH} {f : xF} {cells slots : Nat}

theorem x_arr0 {a : Nat} {kd : Nat} {xs : List Int32} {H : Heap} {ad : Nat → Nat} (h9 : kd ≠ 9) (h : x_at cl D cA ad a (xI kd xs) H) : H[a]? = some (arrV (cA kd) xs.length (fun j => .int (xs.getD j 0))) := by
  simp only [x_at] at h
  rw [if_neg h9] at h
  exact h
theorem x_arr0' {a : Nat} {kd : Nat} {xs : List Int32} {H : Heap} {ad : Nat → Nat} (h9 : kd ≠ 9) (h : H[a]? = some (arrV (cA kd) xs.length (fun j => .int (xs.getD j 0)))) : x_at cl D cA ad a (xI kd xs) H := by
  simp only [x_at]
  rw [if_neg h9]
  exact h
theorem x_arr9 {a : Nat} {xs : List Int32} {H : Heap} {U : State} {ad : Nat → Nat} (hK : ArrOfT U (cA 9) .int) (h : x_at cl D cA ad a (xI 9 xs) H) : va_X a xs.length (fun j => xs.getD j 0) U H := by
  simp only [x_at] at h
  rw [if_pos trivial] at h
  obtain ⟨scr, h1, h2, h3, h4, h5, h6⟩ := h
  obtain ⟨-, kA, k1, comp, k2⟩ := hK 0 (fun _ => .null)
  exact ⟨scr, h1, ⟨h3, kA, by rw [h2]; exact k1, comp, k2⟩, h4, h5, h6⟩
theorem x_getD {α : Type} {xs : List α} {i : Nat} {x d : α} (h : xs[i]? = some x) : xs.getD i d = x := by
  rw [List.getD_eq_getElem?_getD, h]
  rfl
theorem x_clamp {i : Int32} {n : Nat} (h : vp_in i n) : i.toNatClampNeg < n := Nat.not_le.mp fun q => h (Or.inr q)
theorem x_setV (cI : ClassId) {α : Type} (mk : α → Value) (xs : List α) (d : α) {i : Nat} (hi : i < xs.length) (v : α) : (arrV cI xs.length (fun j => mk (xs.getD j d))).setSlot i (mk v) = arrV cI (xs.set i v).length (fun j => mk ((xs.set i v).getD j d)) := by
  rw [arrV_store, List.length_set]
  congr 1
  funext q
  rw [x_getD_set xs hi]
  by_cases h : q = i
  · simp [updV, h]
  · simp [updV, h]

theorem xs_stfin {c0 c1 : xC} {r i pc' : Nat} {st' : List Value} {H H1 : Heap} {locs : List Loc} {ls : Array Slot} (hw : x_w cl D cA b B ext h H) (hr : h[r]? = some c0) (h9 : ∀ xs, c0 ≠ xI 9 xs) (h1 : x_one c1 = x_one c0) (k : ∀ cells' slots', cells' + h.length = cells + (h.set r c1).length → slots' + x_sz h = slots + x_sz (h.set r c1) → x_go p l e R s m args below meth c Q M cl D cA b B ext j (pc', L, st', h.set r c1) cells' slots') (hS : va_S (x_A B) s.heap H locs) (hl : lv_has ls (x_nL M j) (x_as (x_ad b B ext) 0 L)) (hL : L.length = x_nL M j) (e2 : H1.size = H.size) (e3 : ∀ q : Nat, q ≠ x_ad b B ext r → H1[q]? = H[q]?) (hn : x_at cl D cA (x_ad b B ext) (x_ad b B ext r) c1 H1) : W p l e R s m args below meth c H1 (locs ++ [⟨x_ad b B ext r, i⟩]) cells slots Q (F0 m pc' ls (st'.map (x_v (x_ad b B ext)))) := by
  have hpos := hw.pos hr h9
  have hsz : x_sz (h.set r c1) = x_sz h := x_sz_set h1 h r hr
  exact k _ _ (by simp) (by rw [hsz]) H1 _ ls (hw.put hr h9 e2 e3 hn) (x_S_put hS e2 e3 (by rw [hpos.1]; omega)) hl hL

theorem xs_iaload (hT : x_T M nm yn bc ALL cl tys) (hc : x_cx p s m args meth c M nm yn bc ALL cl tys D cA B ext E b j) (hi : x_fe M j pc = some (.iaload)) (hR : 1 ≤ R.frames ∧ 40 ≤ R.locals) (hcl : cells + f.2.2.2.length ≤ R.cells + h.length) (hsl : slots + x_sz f.2.2.2 ≤ R.slots + x_sz h) (hs : x_ins M j (.iaload) pc L st h = some (.inl f)) (k : ∀ cells' slots', cells' + h.length = cells + f.2.2.2.length → slots' + x_sz h = slots + x_sz f.2.2.2 → x_go p l e R s m args below meth c Q M cl D cA b B ext j f cells' slots') : x_go p l e R s m args below meth c Q M cl D cA b B ext j (pc, L, st, h) cells slots := by
  obtain ⟨hx, hb, hml, hown, hts, hK, hini, hB, hE, hLS⟩ := hc
  have hd := x_dec hT hi 0 rfl
  replace hs := x_ri_s hs
  obtain ⟨r, i, st', rfl, hs⟩ := hs
  obtain ⟨kd, xs, hr, hs⟩ := x_ri0_s hs
  split at hs
  · rename_i hkd
    obtain ⟨x, hin, hv, hs⟩ := x_at'_s hs
    cases hs
    intro H locs ls hw hS hl hL
    rcases hkd with rfl | rfl
    · refine W.iald (v := .int x) hx hb (x_arr0 (by decide) (hw.2.2.2.2 r _ hr)) ((hK.2.1 0 .int hT.2.2.2.2.2.1.1).1 _ _) (fun q => by cases q) (by show ¬ (i < 0 ∨ (arrV _ _ _).slots.size ≤ _); rw [arrV_size]; exact hin) (by show (arrV _ _ _).slots[_]? = _; rw [arrV_read _ _ (x_clamp hin), x_getD hv]) rfl rfl hd (k _ _ rfl rfl H locs ls hw hS hl hL)
    · obtain ⟨scr, h1, h2, h3, h4, h5⟩ := x_arr9 hK.2.2 (hw.2.2.2.2 r _ hr)
      exact W.iald (v := .int x) hx hb h1 h2 h3 (by rw [h4]; exact hin) (by rw [h5 _ (x_clamp hin)]; show some (Value.int (xs.getD _ 0)) = _; rw [x_getD hv]) rfl rfl hd (k _ _ rfl rfl H locs ls hw hS hl hL)
  · cases hs
theorem xs_baload (hT : x_T M nm yn bc ALL cl tys) (hc : x_cx p s m args meth c M nm yn bc ALL cl tys D cA B ext E b j) (hi : x_fe M j pc = some (.baload)) (hR : 1 ≤ R.frames ∧ 40 ≤ R.locals) (hcl : cells + f.2.2.2.length ≤ R.cells + h.length) (hsl : slots + x_sz f.2.2.2 ≤ R.slots + x_sz h) (hs : x_ins M j (.baload) pc L st h = some (.inl f)) (k : ∀ cells' slots', cells' + h.length = cells + f.2.2.2.length → slots' + x_sz h = slots + x_sz f.2.2.2 → x_go p l e R s m args below meth c Q M cl D cA b B ext j f cells' slots') : x_go p l e R s m args below meth c Q M cl D cA b B ext j (pc, L, st, h) cells slots := by
  obtain ⟨hx, hb, hml, hown, hts, hK, hini, hB, hE, hLS⟩ := hc
  have hd := x_dec hT hi 0 rfl
  replace hs := x_ri_s hs
  obtain ⟨r, i, st', rfl, hs⟩ := hs
  obtain ⟨kd, xs, hr, hs⟩ := x_ri0_s hs
  split at hs
  · rename_i hkd
    obtain ⟨x, hin, hv, hs⟩ := x_at'_s hs
    cases hs
    intro H locs ls hw hS hl hL
    rcases hkd with rfl | rfl
    · refine W.bald (v := .int x) hx hb (x_arr0 (by decide) (hw.2.2.2.2 r _ hr)) ((hK.2.1 1 .byte hT.2.2.2.2.2.1.2.1).1 _ _) (fun q => by cases q) (by show ¬ (i < 0 ∨ (arrV _ _ _).slots.size ≤ _); rw [arrV_size]; exact hin) (by show (arrV _ _ _).slots[_]? = _; rw [arrV_read _ _ (x_clamp hin), x_getD hv]) rfl rfl hd (k _ _ rfl rfl H locs ls hw hS hl hL)
    · refine W.zald (v := .int x) hx hb (x_arr0 (by decide) (hw.2.2.2.2 r _ hr)) ((hK.2.1 2 .boolean hT.2.2.2.2.2.1.2.2.1).1 _ _) (fun q => by cases q) (by show ¬ (i < 0 ∨ (arrV _ _ _).slots.size ≤ _); rw [arrV_size]; exact hin) (by show (arrV _ _ _).slots[_]? = _; rw [arrV_read _ _ (x_clamp hin), x_getD hv]) rfl rfl hd (k _ _ rfl rfl H locs ls hw hS hl hL)
  · cases hs
theorem xs_laload (hT : x_T M nm yn bc ALL cl tys) (hc : x_cx p s m args meth c M nm yn bc ALL cl tys D cA B ext E b j) (hi : x_fe M j pc = some (.laload)) (hR : 1 ≤ R.frames ∧ 40 ≤ R.locals) (hcl : cells + f.2.2.2.length ≤ R.cells + h.length) (hsl : slots + x_sz f.2.2.2 ≤ R.slots + x_sz h) (hs : x_ins M j (.laload) pc L st h = some (.inl f)) (k : ∀ cells' slots', cells' + h.length = cells + f.2.2.2.length → slots' + x_sz h = slots + x_sz f.2.2.2 → x_go p l e R s m args below meth c Q M cl D cA b B ext j f cells' slots') : x_go p l e R s m args below meth c Q M cl D cA b B ext j (pc, L, st, h) cells slots := by
  obtain ⟨hx, hb, hml, hown, hts, hK, hini, hB, hE, hLS⟩ := hc
  have hd := x_dec hT hi 0 rfl
  replace hs := x_ri_s hs
  obtain ⟨r, i, st', rfl, hs⟩ := hs
  obtain ⟨xs, hr, hs⟩ := x_rl0_s hs
  obtain ⟨x, hin, hv, hs⟩ := x_at'_s hs
  cases hs
  intro H locs ls hw hS hl hL
  exact W.lald (v := .long x) hx hb (hw.2.2.2.2 r _ hr) ((hK.2.1 3 .long hT.2.2.2.2.2.1.2.2.2.1).1 _ _) (fun q => by cases q) (by show ¬ (i < 0 ∨ (arrV _ _ _).slots.size ≤ _); rw [arrV_size]; exact hin) (by show (arrV _ _ _).slots[_]? = _; rw [arrV_read _ _ (x_clamp hin), x_getD hv]) rfl rfl hd (k _ _ rfl rfl H locs ls hw hS hl hL)
theorem xs_aaload (hT : x_T M nm yn bc ALL cl tys) (hc : x_cx p s m args meth c M nm yn bc ALL cl tys D cA B ext E b j) (hi : x_fe M j pc = some (.aaload)) (hR : 1 ≤ R.frames ∧ 40 ≤ R.locals) (hcl : cells + f.2.2.2.length ≤ R.cells + h.length) (hsl : slots + x_sz f.2.2.2 ≤ R.slots + x_sz h) (hs : x_ins M j (.aaload) pc L st h = some (.inl f)) (k : ∀ cells' slots', cells' + h.length = cells + f.2.2.2.length → slots' + x_sz h = slots + x_sz f.2.2.2 → x_go p l e R s m args below meth c Q M cl D cA b B ext j f cells' slots') : x_go p l e R s m args below meth c Q M cl D cA b B ext j (pc, L, st, h) cells slots := by
  obtain ⟨hx, hb, hml, hown, hts, hK, hini, hB, hE, hLS⟩ := hc
  have hd := x_dec hT hi 0 rfl
  replace hs := x_ri_s hs
  obtain ⟨r, i, st', rfl, hs⟩ := hs
  obtain ⟨kd, xs, hr, hs⟩ := x_rq0_s hs
  obtain ⟨x, hin, hv, hs⟩ := x_at'_s hs
  split at hs
  · rename_i q0 ci hel
    cases hs
    intro H locs ls hw hS hl hL
    have hcell : H[x_ad b B ext r]? = some (arrV (cA kd) xs.length (fun j => va_rf ((xs.getD j none).map (x_ad b B ext)))) := hw.2.2.2.2 r _ hr
    obtain ⟨q, -, hC⟩ := hT.2.2.2.2.2.1.2.2.2.2.2.2.2.2 kd ci hel
    exact W.aald (v := .ref (x_ad b B ext q0)) (ty := .object q.1) hx hb hcell ((hK.2.1 kd _ hC).1 _ _) rfl (fun q => by cases q) (by show ¬ (i < 0 ∨ (arrV _ _ _).slots.size ≤ _); rw [arrV_size]; exact hin) (by show (arrV _ _ _).slots[_]? = _; rw [arrV_read _ _ (x_clamp hin), x_getD hv]; rfl) rfl rfl hd (k _ _ rfl rfl H locs ls hw hS hl hL)
  · cases hs
theorem xs_iastore (hT : x_T M nm yn bc ALL cl tys) (hc : x_cx p s m args meth c M nm yn bc ALL cl tys D cA B ext E b j) (hi : x_fe M j pc = some (.iastore)) (hR : 1 ≤ R.frames ∧ 40 ≤ R.locals) (hcl : cells + f.2.2.2.length ≤ R.cells + h.length) (hsl : slots + x_sz f.2.2.2 ≤ R.slots + x_sz h) (hs : x_ins M j (.iastore) pc L st h = some (.inl f)) (k : ∀ cells' slots', cells' + h.length = cells + f.2.2.2.length → slots' + x_sz h = slots + x_sz f.2.2.2 → x_go p l e R s m args below meth c Q M cl D cA b B ext j f cells' slots') : x_go p l e R s m args below meth c Q M cl D cA b B ext j (pc, L, st, h) cells slots := by
  obtain ⟨hx, hb, hml, hown, hts, hK, hini, hB, hE, hLS⟩ := hc
  have hd := x_dec hT hi 0 rfl
  replace hs := x_rii_s hs
  obtain ⟨r, i, v, st', rfl, hs⟩ := hs
  obtain ⟨kd, xs, hr, hs⟩ := x_ri0_s hs
  split at hs
  · rename_i hkd
    obtain ⟨x, hin, hv, hs⟩ := x_at'_s hs
    cases hs
    intro H locs ls hw hS hl hL
    subst hkd
    refine W.iast hx hb (x_arr0 (by decide) (hw.2.2.2.2 r _ hr)) ((hK.2.1 0 .int hT.2.2.2.2.2.1.1).1 _ _) (fun q => by cases q) (by show ¬ (i < 0 ∨ (arrV _ _ _).slots.size ≤ _); rw [arrV_size]; exact hin) rfl rfl hd fun H1 e1 e2 e3 => xs_stfin hw hr (fun xs z => by cases z) (by simp [x_one]) k hS hl hL e2 e3 ?_
    refine x_arr0' (by decide) ?_
    rw [e1, ← x_setV (cA 0) (fun z => Value.int z) xs 0 (x_clamp hin) v]
  · cases hs
theorem xs_bastore (hT : x_T M nm yn bc ALL cl tys) (hc : x_cx p s m args meth c M nm yn bc ALL cl tys D cA B ext E b j) (hi : x_fe M j pc = some (.bastore)) (hR : 1 ≤ R.frames ∧ 40 ≤ R.locals) (hcl : cells + f.2.2.2.length ≤ R.cells + h.length) (hsl : slots + x_sz f.2.2.2 ≤ R.slots + x_sz h) (hs : x_ins M j (.bastore) pc L st h = some (.inl f)) (k : ∀ cells' slots', cells' + h.length = cells + f.2.2.2.length → slots' + x_sz h = slots + x_sz f.2.2.2 → x_go p l e R s m args below meth c Q M cl D cA b B ext j f cells' slots') : x_go p l e R s m args below meth c Q M cl D cA b B ext j (pc, L, st, h) cells slots := by
  obtain ⟨hx, hb, hml, hown, hts, hK, hini, hB, hE, hLS⟩ := hc
  have hd := x_dec hT hi 0 rfl
  replace hs := x_rii_s hs
  obtain ⟨r, i, v, st', rfl, hs⟩ := hs
  obtain ⟨kd, xs, hr, hs⟩ := x_ri0_s hs
  split at hs
  · rename_i hkd
    obtain ⟨x, hin, hv, hs⟩ := x_at'_s hs
    cases hs
    intro H locs ls hw hS hl hL
    rcases hkd with rfl | rfl
    · refine W.bast hx hb (x_arr0 (by decide) (hw.2.2.2.2 r _ hr)) ((hK.2.1 1 .byte hT.2.2.2.2.2.1.2.1).1 _ _) (fun q => by cases q) (by show ¬ (i < 0 ∨ (arrV _ _ _).slots.size ≤ _); rw [arrV_size]; exact hin) rfl rfl hd fun H1 e1 e2 e3 => xs_stfin hw hr (fun xs z => by cases z) (by simp [x_one]) k hS hl hL e2 e3 ?_
      refine x_arr0' (by decide) ?_
      rw [e1, ← x_setV (cA 1) (fun z => Value.int z) xs 0 (x_clamp hin) (x_nr 1 v)]
      rfl
    · refine W.zast hx hb (x_arr0 (by decide) (hw.2.2.2.2 r _ hr)) ((hK.2.1 2 .boolean hT.2.2.2.2.2.1.2.2.1).1 _ _) (fun q => by cases q) (by show ¬ (i < 0 ∨ (arrV _ _ _).slots.size ≤ _); rw [arrV_size]; exact hin) rfl rfl hd fun H1 e1 e2 e3 => xs_stfin hw hr (fun xs z => by cases z) (by simp [x_one]) k hS hl hL e2 e3 ?_
      refine x_arr0' (by decide) ?_
      rw [e1, ← x_setV (cA 2) (fun z => Value.int z) xs 0 (x_clamp hin) (x_nr 2 v)]
      rfl
  · cases hs
theorem xs_lastore (hT : x_T M nm yn bc ALL cl tys) (hc : x_cx p s m args meth c M nm yn bc ALL cl tys D cA B ext E b j) (hi : x_fe M j pc = some (.lastore)) (hR : 1 ≤ R.frames ∧ 40 ≤ R.locals) (hcl : cells + f.2.2.2.length ≤ R.cells + h.length) (hsl : slots + x_sz f.2.2.2 ≤ R.slots + x_sz h) (hs : x_ins M j (.lastore) pc L st h = some (.inl f)) (k : ∀ cells' slots', cells' + h.length = cells + f.2.2.2.length → slots' + x_sz h = slots + x_sz f.2.2.2 → x_go p l e R s m args below meth c Q M cl D cA b B ext j f cells' slots') : x_go p l e R s m args below meth c Q M cl D cA b B ext j (pc, L, st, h) cells slots := by
  obtain ⟨hx, hb, hml, hown, hts, hK, hini, hB, hE, hLS⟩ := hc
  have hd := x_dec hT hi 0 rfl
  replace hs := x_ril_s hs
  obtain ⟨r, i, v, st', rfl, hs⟩ := hs
  obtain ⟨xs, hr, hs⟩ := x_rl0_s hs
  obtain ⟨x, hin, hv, hs⟩ := x_at'_s hs
  cases hs
  intro H locs ls hw hS hl hL
  refine W.last hx hb (hw.2.2.2.2 r _ hr) ((hK.2.1 3 .long hT.2.2.2.2.2.1.2.2.2.1).1 _ _) (fun q => by cases q) (by show ¬ (i < 0 ∨ (arrV _ _ _).slots.size ≤ _); rw [arrV_size]; exact hin) rfl rfl hd fun H1 e1 e2 e3 => xs_stfin hw hr (fun xs z => by cases z) (by simp [x_one]) k hS hl hL e2 e3 ?_
  show H1[_]? = _
  rw [e1, ← x_setV (cA 3) (fun z => Value.long z) xs 0 (x_clamp hin) v]
theorem xs_aastore (hT : x_T M nm yn bc ALL cl tys) (hc : x_cx p s m args meth c M nm yn bc ALL cl tys D cA B ext E b j) (hi : x_fe M j pc = some (.aastore)) (hR : 1 ≤ R.frames ∧ 40 ≤ R.locals) (hcl : cells + f.2.2.2.length ≤ R.cells + h.length) (hsl : slots + x_sz f.2.2.2 ≤ R.slots + x_sz h) (hs : x_ins M j (.aastore) pc L st h = some (.inl f)) (k : ∀ cells' slots', cells' + h.length = cells + f.2.2.2.length → slots' + x_sz h = slots + x_sz f.2.2.2 → x_go p l e R s m args below meth c Q M cl D cA b B ext j f cells' slots') : x_go p l e R s m args below meth c Q M cl D cA b B ext j (pc, L, st, h) cells slots := by
  obtain ⟨hx, hb, hml, hown, hts, hK, hini, hB, hE, hLS⟩ := hc
  have hd := x_dec hT hi 0 rfl
  replace hs := x_rir_s hs
  obtain ⟨r, i, v, st', rfl, hs⟩ := hs
  obtain ⟨kd, xs, hr, hs⟩ := x_rq0_s hs
  split at hs
  · rename_i ci hel
    split at hs
    · rename_i hcls
      obtain ⟨x, hin, hv, hs⟩ := x_at'_s hs
      cases hs
      intro H locs ls hw hS hl hL
      unfold x_cls at hcls
      split at hcls
      · rename_i c2 fs2 hv2
        have hc2 := of_decide_eq_true hcls
        subst hc2
        obtain ⟨q, hq, hC⟩ := hT.2.2.2.2.2.1.2.2.2.2.2.2.2.2 kd _ hel
        have hcell : H[x_ad b B ext r]? = some (arrV (cA kd) xs.length (fun j => va_rf ((xs.getD j none).map (x_ad b B ext)))) := hw.2.2.2.2 r _ hr
        obtain ⟨q', hq', hlen, cellV, g1, g2, g3, -⟩ := hw.2.2.2.2 v _ hv2
        have hcl2 := (hK.1 c2 q hq).2
        obtain ⟨kA, comp, k1, k2, k3, -⟩ := (hK.2.1 kd _ hC).2
        have hcomp : comp = D.1 c2 := Option.some.inj (k3.symm.trans hcl2.1)
        subst hcomp
        obtain ⟨kC, hkC, -⟩ := hcl2.2
        refine W.aast hx hb hcell (fun q h => by cases h) (fun h => by cases h) k1 k2 rfl hkC ⟨fun z => hin (Or.inl z), by show _ < (arrV _ _ _).slots.size; rw [arrV_size]; exact x_clamp hin⟩ g1 (fun q h => by rw [g3] at h; cases h) (by rw [g2]; exact hkC) (by rw [g2]; exact va_assign hcl2) rfl rfl hd fun H1 e1 e2 e3 => xs_stfin hw hr (fun xs z => by cases z) (by simp [x_one]) k hS hl hL e2 e3 ?_
        show H1[_]? = _
        rw [e1]
        exact congrArg some (x_setV (cA kd) (fun z => va_rf (z.map (x_ad b B ext))) xs none (x_clamp hin) (some v))
      · cases hcls
    · cases hs
  · cases hs
theorem xs_arraylength (hT : x_T M nm yn bc ALL cl tys) (hc : x_cx p s m args meth c M nm yn bc ALL cl tys D cA B ext E b j) (hi : x_fe M j pc = some (.arraylength)) (hR : 1 ≤ R.frames ∧ 40 ≤ R.locals) (hcl : cells + f.2.2.2.length ≤ R.cells + h.length) (hsl : slots + x_sz f.2.2.2 ≤ R.slots + x_sz h) (hs : x_ins M j (.arraylength) pc L st h = some (.inl f)) (k : ∀ cells' slots', cells' + h.length = cells + f.2.2.2.length → slots' + x_sz h = slots + x_sz f.2.2.2 → x_go p l e R s m args below meth c Q M cl D cA b B ext j f cells' slots') : x_go p l e R s m args below meth c Q M cl D cA b B ext j (pc, L, st, h) cells slots := by
  obtain ⟨hx, hb, hml, hown, hts, hK, hini, hB, hE, hLS⟩ := hc
  have hd := x_dec hT hi 0 rfl
  replace hs := x_r1_s hs
  obtain ⟨r, st', rfl, hs⟩ := hs
  split at hs
  · rename_i n hn
    cases hs
    intro H locs ls hw hS hl hL
    unfold x_len at hn
    split at hn
    · rename_i kd xs hr
      split at hn
      · rename_i hkd
        cases hn
        rcases hkd with rfl | rfl
        · exact W.alen (n := Int32.ofNat xs.length) hx hb (x_arr0 (by decide) (hw.2.2.2.2 r _ hr)) ((hK.2.1 0 .int hT.2.2.2.2.2.1.1).1 _ _) (by rw [arrV_size] <;> rfl) rfl rfl hd (k _ _ rfl rfl H locs ls hw hS hl hL)
        · obtain ⟨scr, h1, h2, h3, h4, h5⟩ := x_arr9 hK.2.2 (hw.2.2.2.2 r _ hr)
          exact W.alen (n := Int32.ofNat xs.length) hx hb h1 h2 (by rw [h4] <;> rfl) rfl rfl hd (k _ _ rfl rfl H locs ls hw hS hl hL)
      · cases hn
    · rename_i xs hr
      cases hn
      exact W.alen (n := Int32.ofNat xs.length) hx hb (hw.2.2.2.2 r _ hr) ((hK.2.1 3 .long hT.2.2.2.2.2.1.2.2.2.1).1 _ _) (by rw [arrV_size] <;> rfl) rfl rfl hd (k _ _ rfl rfl H locs ls hw hS hl hL)
    · cases hn
  · cases hs
end XS
