/-! ONE STEP: a copy of a row; Object's own constructor (own work) -/
section XS
variable {p : Program} {l : Launch} {e : Env} {R : Room} {s : State} {m : MethodId} {args : Array Value} {below : List Frame} {meth : Method} {c : Code} {Q : State → Prop}
variable {M : xM} {nm : Nat → String} {yn : Nat → MethodName} {bc : Nat → ByteArray} {ALL : List Cond} {cl : List vw_C} {tys : List FieldType} {D : va_G} {cA : Nat → ClassId} {b B : Nat} {ext : Nat → Nat} {E : State → Prop} {j pc : Nat} {L : List (Option Value)} {st : List Value} {h : xH} {f : xF} {cells slots : Nat}

theorem x_copyi {H : Heap} {locs : List Loc} {ls : Array Slot} {cc : ByteArray} (hexec : p.tables.exec = Jvm.exec) (hb : c.code = cc) (hml : c.maxLocals = ls.size) {own : String} {index : Nat} (hown : s.vm.findClass own = some m.cls) (hlink : (Cond.methodLink own index arraycopyName).before args s = true) (hnat : (Cond.native arraycopyName).before args s = true) (hstat : (Cond.static arraycopyName).before args s = true) (hini : (Cond.initialized "java/lang/System").before args s = true)
    {a0 a : Nat} {c0 : ClassId} {n0 n1 : Nat} {f g : Nat → Int32} (hK : ArrOfT s c0 .int) (hc0 : H[a0]? = some (arrV c0 n0 (fun j => Value.int (f j)))) (hc1 : H[a]? = some (arrV c0 n1 (fun j => Value.int (g j))))
    {sp dp n : Int32} (h1 : ¬ sp < 0) (h2 : ¬ dp < 0) (h3 : ¬ n < 0) (h4 : sp.toNatClampNeg + n.toNatClampNeg ≤ n0) (h5 : dp.toNatClampNeg + n.toNatClampNeg ≤ n1) {rest : List Value}
    (hframes : 1 ≤ R.frames) (hlocals : (rest.map fun v => v.category).sum + 18 ≤ R.locals) (hdg : decode cc pc = .ok (.invokestatic index, 3))
    (kk : ∀ (H1 : Heap) (L : List Loc), (∀ q ∈ L, q.base = a) → H1[a]? = some (arrV c0 n1 (fun j => Value.int (va_cpy f g sp.toNatClampNeg dp.toNatClampNeg n.toNatClampNeg j))) → H1.size = H.size → (∀ q : Nat, q ≠ a → H1[q]? = H[q]?) → W p l e R s m args below meth c H1 (locs ++ L) cells slots Q (F0 m (pc + 3) ls rest)) : W p l e R s m args below meth c H locs cells slots Q (F0 m pc ls (.int n :: .int dp :: .ref a :: .int sp :: .ref a0 :: rest)) := by
  have nn : ∀ z : Int32, ¬ z < 0 → z.toInt = (z.toNatClampNeg : Int) := by
    intro z hz
    have hz0 : (0 : Int) ≤ z.toInt := by
      have := Int32.not_lt.mp hz
      simpa using Int32.le_iff_toInt_le.mp this
    show z.toInt = ((z.toInt.toNat : Nat) : Int)
    omega
  intro T hT X
  obtain ⟨-, k0, hk0, cm0, hkk0⟩ := hK n0 (fun j => Value.int (f j))
  have hnw : nativeFrameWords "java/lang/System" "arraycopy" 5 = 7 := by decide
  obtain ⟨vm', X', step⟩ := X.arraycopy hexec hown hlink hnat hstat hini (src := a0) (dst := a) (cs := arrV c0 n0 (fun j => Value.int (f j))) (cd := arrV c0 n1 (fun j => Value.int (g j))) (srcPos := sp) (destPos := dp) (n := n) (by rw [hT]; exact hc0) (by rw [hT]; exact hc1)
    (fun _ h => by cases h) (fun _ h => by cases h) (fun h => by cases h) (fun h => by cases h) hk0 hk0 hkk0 hkk0 (by decide) h1 h2 h3
    (by rw [nn sp h1, nn n h3, arrV_size]; omega)
    (by rw [nn dp h2, nn n h3, arrV_size]; omega)
    (fun vm₁ _ i hi => by
      have e : (arrV c0 n0 (fun j => Value.int (f j))).slots.getD (sp.toNatClampNeg + i) .null = Value.int (f (sp.toNatClampNeg + i)) := by
        rw [Array.getD_eq_getD_getElem?, arrV_read _ _ (by omega)]
        rfl
      refine ⟨?_, ?_⟩
      · rw [e]
        rfl
      · rw [e]
        exact trivial)
    (g := F0 m pc ls (.int n :: .int dp :: .ref a :: .int sp :: .ref a0 :: rest)) rfl (by rw [hml]) (rest := rest) rfl (by rw [hb]; exact hdg) hframes (by show 2 * 0 + _ + _ ≤ _; rw [hnw]; omega)
  have e1 : copied (arrV c0 n0 (fun j => Value.int (f j))) (arrV c0 n1 (fun j => Value.int (g j))) sp dp n = arrV c0 n1 (fun j => Value.int (va_cpy f g sp.toNatClampNeg dp.toNatClampNeg n.toNatClampNeg j)) := va_copied (fun z => Value.int z) c0 c0 f g h4
  rw [e1] at X' step
  have hl : a < H.size := (Array.getElem?_eq_some_iff.mp hc1).1
  have hheap : ∀ z : Cell, ((T.setVm vm').setCell a z).heap = H.setIfInBounds a z := fun z => by rw [← hT]; rfl
  obtain ⟨t, a1, b1⟩ := kk _ _ (fun q hq => by
      obtain ⟨z, -, hz⟩ := List.mem_map.mp hq
      rw [← hz]) (show (H.setIfInBounds a _)[a]? = some _ by simp [Array.getElem?_setIfInBounds, hl]) (by simp) (fun q hq => by simp [Array.getElem?_setIfInBounds, Ne.symm hq]) _ (hheap _) X'
  exact ⟨t, step t a1, b1⟩

theorem x_copyl {H : Heap} {locs : List Loc} {ls : Array Slot} {cc : ByteArray} (hexec : p.tables.exec = Jvm.exec) (hb : c.code = cc) (hml : c.maxLocals = ls.size) {own : String} {index : Nat} (hown : s.vm.findClass own = some m.cls) (hlink : (Cond.methodLink own index arraycopyName).before args s = true) (hnat : (Cond.native arraycopyName).before args s = true) (hstat : (Cond.static arraycopyName).before args s = true) (hini : (Cond.initialized "java/lang/System").before args s = true)
    {a0 a : Nat} {c0 : ClassId} {n0 n1 : Nat} {f g : Nat → Int64} (hK : ArrOfT s c0 .long) (hc0 : H[a0]? = some (arrV c0 n0 (fun j => Value.long (f j)))) (hc1 : H[a]? = some (arrV c0 n1 (fun j => Value.long (g j))))
    {sp dp n : Int32} (h1 : ¬ sp < 0) (h2 : ¬ dp < 0) (h3 : ¬ n < 0) (h4 : sp.toNatClampNeg + n.toNatClampNeg ≤ n0) (h5 : dp.toNatClampNeg + n.toNatClampNeg ≤ n1) {rest : List Value}
    (hframes : 1 ≤ R.frames) (hlocals : (rest.map fun v => v.category).sum + 18 ≤ R.locals) (hdg : decode cc pc = .ok (.invokestatic index, 3))
    (kk : ∀ (H1 : Heap) (L : List Loc), (∀ q ∈ L, q.base = a) → H1[a]? = some (arrV c0 n1 (fun j => Value.long (va_cpy f g sp.toNatClampNeg dp.toNatClampNeg n.toNatClampNeg j))) → H1.size = H.size → (∀ q : Nat, q ≠ a → H1[q]? = H[q]?) → W p l e R s m args below meth c H1 (locs ++ L) cells slots Q (F0 m (pc + 3) ls rest)) : W p l e R s m args below meth c H locs cells slots Q (F0 m pc ls (.int n :: .int dp :: .ref a :: .int sp :: .ref a0 :: rest)) := by
  have nn : ∀ z : Int32, ¬ z < 0 → z.toInt = (z.toNatClampNeg : Int) := by
    intro z hz
    have hz0 : (0 : Int) ≤ z.toInt := by
      have := Int32.not_lt.mp hz
      simpa using Int32.le_iff_toInt_le.mp this
    show z.toInt = ((z.toInt.toNat : Nat) : Int)
    omega
  intro T hT X
  obtain ⟨-, k0, hk0, cm0, hkk0⟩ := hK n0 (fun j => Value.long (f j))
  have hnw : nativeFrameWords "java/lang/System" "arraycopy" 5 = 7 := by decide
  obtain ⟨vm', X', step⟩ := X.arraycopy hexec hown hlink hnat hstat hini (src := a0) (dst := a) (cs := arrV c0 n0 (fun j => Value.long (f j))) (cd := arrV c0 n1 (fun j => Value.long (g j))) (srcPos := sp) (destPos := dp) (n := n) (by rw [hT]; exact hc0) (by rw [hT]; exact hc1)
    (fun _ h => by cases h) (fun _ h => by cases h) (fun h => by cases h) (fun h => by cases h) hk0 hk0 hkk0 hkk0 (by decide) h1 h2 h3
    (by rw [nn sp h1, nn n h3, arrV_size]; omega)
    (by rw [nn dp h2, nn n h3, arrV_size]; omega)
    (fun vm₁ _ i hi => by
      have e : (arrV c0 n0 (fun j => Value.long (f j))).slots.getD (sp.toNatClampNeg + i) .null = Value.long (f (sp.toNatClampNeg + i)) := by
        rw [Array.getD_eq_getD_getElem?, arrV_read _ _ (by omega)]
        rfl
      refine ⟨?_, ?_⟩
      · rw [e]
        rfl
      · rw [e]
        exact trivial)
    (g := F0 m pc ls (.int n :: .int dp :: .ref a :: .int sp :: .ref a0 :: rest)) rfl (by rw [hml]) (rest := rest) rfl (by rw [hb]; exact hdg) hframes (by show 2 * 0 + _ + _ ≤ _; rw [hnw]; omega)
  have e1 : copied (arrV c0 n0 (fun j => Value.long (f j))) (arrV c0 n1 (fun j => Value.long (g j))) sp dp n = arrV c0 n1 (fun j => Value.long (va_cpy f g sp.toNatClampNeg dp.toNatClampNeg n.toNatClampNeg j)) := va_copied (fun z => Value.long z) c0 c0 f g h4
  rw [e1] at X' step
  have hl : a < H.size := (Array.getElem?_eq_some_iff.mp hc1).1
  have hheap : ∀ z : Cell, ((T.setVm vm').setCell a z).heap = H.setIfInBounds a z := fun z => by rw [← hT]; rfl
  obtain ⟨t, a1, b1⟩ := kk _ _ (fun q hq => by
      obtain ⟨z, -, hz⟩ := List.mem_map.mp hq
      rw [← hz]) (show (H.setIfInBounds a _)[a]? = some _ by simp [Array.getElem?_setIfInBounds, hl]) (by simp) (fun q hq => by simp [Array.getElem?_setIfInBounds, Ne.symm hq]) _ (hheap _) X'
  exact ⟨t, step t a1, b1⟩

theorem xs_cpfin {c0 c1 : xC} {r pc' : Nat} {st' : List Value} {H H1 : Heap} {locs Lc : List Loc} {ls : Array Slot} (hw : x_w cl D cA b B ext h H) (hr : h[r]? = some c0) (h9 : ∀ xs, c0 ≠ xI 9 xs) (h1 : x_one c1 = x_one c0) (k : ∀ cells' slots', cells' + h.length = cells + (h.set r c1).length → slots' + x_sz h = slots + x_sz (h.set r c1) → x_go p l e R s m args below meth c Q M cl D cA b B ext j (pc', L, st', h.set r c1) cells' slots') (hS : va_S (x_A B) s.heap H locs) (hl : lv_has ls (x_nL M j) (x_as (x_ad b B ext) 0 L)) (hL : L.length = x_nL M j) (hLc : ∀ q ∈ Lc, q.base = x_ad b B ext r) (e2 : H1.size = H.size) (e3 : ∀ q : Nat, q ≠ x_ad b B ext r → H1[q]? = H[q]?) (hn : x_at cl D cA (x_ad b B ext) (x_ad b B ext r) c1 H1) : W p l e R s m args below meth c H1 (locs ++ Lc) cells slots Q (F0 m pc' ls (st'.map (x_v (x_ad b B ext)))) := by
  have hpos := hw.pos hr h9
  have hsz : x_sz (h.set r c1) = x_sz h := x_sz_set h1 h r hr
  refine k _ _ (by simp) (by rw [hsz]) H1 _ ls (hw.put hr h9 e2 e3 hn) ⟨by rw [e2]; exact hS.1, fun q g1 g2 => ?_, fun q hq => ?_⟩ hl hL
  · rw [e3 q (fun z => g2 (by rw [z, hpos.1]; show B < B + r; have := hpos.2.1; omega))]
    exact hS.2.1 q g1 g2
  · rcases List.mem_append.mp hq with z | z
    · exact hS.2.2 q z
    · rw [hLc q z, hpos.1]
      show B < B + r
      have := hpos.2.1
      omega

theorem xs_copy {z : Nat} {y : Nat × Nat} (hT : x_T M nm yn bc ALL cl tys) (hc : x_cx p s m args meth c M nm yn bc ALL cl tys D cA B ext E b j) (hi : x_fe M j pc = some (.invokestatic z)) (hp : x_pl M (x_ow M j) z = some (8, y)) (hR : 1 ≤ R.frames ∧ 40 ≤ R.locals) (hcl : cells + f.2.2.2.length ≤ R.cells + h.length) (hsl : slots + x_sz f.2.2.2 ≤ R.slots + x_sz h) (hs : x_ins M j (.invokestatic z) pc L st h = some (.inl f)) (k : ∀ cells' slots', cells' + h.length = cells + f.2.2.2.length → slots' + x_sz h = slots + x_sz f.2.2.2 → x_go p l e R s m args below meth c Q M cl D cA b B ext j f cells' slots') : x_go p l e R s m args below meth c Q M cl D cA b B ext j (pc, L, st, h) cells slots := by
  obtain ⟨hx, hb, hml, hown, hts, hK, hini, hB, hE, hLS⟩ := hc
  have hd := x_dec hT hi 2 rfl
  simp only [x_ins, hp] at hs
  unfold x_copy at hs
  obtain ⟨c1, c2, c3, c4⟩ := hT.2.2.2.2.2.2.2.2.1.1 _ _ _ hp
  split at hs
  · rename_i n dp d sp sr rest
    split at hs
    · cases hs
    rename_i hb0
    have b1 : ¬ n < 0 := fun z => hb0 (Or.inl z)
    have b2 : ¬ dp < 0 := fun z => hb0 (Or.inr (Or.inl z))
    have b3 : ¬ sp < 0 := fun z => hb0 (Or.inr (Or.inr (Or.inl z)))
    have b4 : x_sum rest ≤ 8 := Nat.not_lt.mp fun z => hb0 (Or.inr (Or.inr (Or.inr z)))
    have b5 : ((rest.map (x_v (x_ad b B ext))).map fun v => v.category).sum + 18 ≤ R.locals := by
      have : ((rest.map (x_v (x_ad b B ext))).map fun v => v.category) = rest.map fun v => v.category := by
        rw [List.map_map]
        congr 1
        funext v
        exact x_v_cat _ v
      rw [this]
      unfold x_sum at b4
      omega
    split at hs
    · rename_i ka f ka2 g hf hg
      split at hs
      · rename_i hcond
        obtain ⟨rfl, rfl, d1, d2⟩ := hcond
        cases hs
        intro H locs ls hw hS hl hL
        refine x_copyi hx hb (by rw [hml]; exact hl.1.symm) hown (hts _ c1) (hts _ c2) (hts _ c3) (hts _ c4) (hK.2.1 0 .int hT.2.2.2.2.2.1.1).1 (x_arr0 (by decide) (hw.2.2.2.2 sr _ hf)) (x_arr0 (by decide) (hw.2.2.2.2 d _ hg)) b3 b2 b1 d1 d2 hR.1 b5 hd fun H1 Lc q1 q2 q3 q4 => xs_cpfin hw hg (fun xs z => by cases z) (by simp [x_one, x_cpy_len f g d1 d2]) k hS hl hL q1 q3 q4 ?_
        refine x_arr0' (by decide) ?_
        rw [q2, x_cpy_len f g d1 d2]
        congr 2
        funext q
        rw [x_getD_cpy f g 0 d1 d2]
      · cases hs
    · rename_i f g hf hg
      split at hs
      · rename_i hcond
        obtain ⟨d1, d2⟩ := hcond
        cases hs
        intro H locs ls hw hS hl hL
        refine x_copyl hx hb (by rw [hml]; exact hl.1.symm) hown (hts _ c1) (hts _ c2) (hts _ c3) (hts _ c4) (hK.2.1 3 .long hT.2.2.2.2.2.1.2.2.2.1).1 (hw.2.2.2.2 sr _ hf) (hw.2.2.2.2 d _ hg) b3 b2 b1 d1 d2 hR.1 b5 hd fun H1 Lc q1 q2 q3 q4 => xs_cpfin hw hg (fun xs z => by cases z) (by simp [x_one, x_cpy_len f g d1 d2]) k hS hl hL q1 q3 q4 ?_
        show H1[_]? = _
        rw [q2, x_cpy_len f g d1 d2]
        congr 2
        funext q
        rw [x_getD_cpy f g 0 d1 d2]
      · cases hs
    · cases hs
  · cases hs
theorem xs_objInit {z : Nat} {y : Nat × Nat} (hT : x_T M nm yn bc ALL cl tys) (hc : x_cx p s m args meth c M nm yn bc ALL cl tys D cA B ext E b j) (hi : x_fe M j pc = some (.invokespecial z)) (hp : x_pl M (x_ow M j) z = some (5, y)) (hR : 1 ≤ R.frames ∧ 40 ≤ R.locals) (hcl : cells + f.2.2.2.length ≤ R.cells + h.length) (hsl : slots + x_sz f.2.2.2 ≤ R.slots + x_sz h) (hs : x_ins M j (.invokespecial z) pc L st h = some (.inl f)) (k : ∀ cells' slots', cells' + h.length = cells + f.2.2.2.length → slots' + x_sz h = slots + x_sz f.2.2.2 → x_go p l e R s m args below meth c Q M cl D cA b B ext j f cells' slots') : x_go p l e R s m args below meth c Q M cl D cA b B ext j (pc, L, st, h) cells slots := by
  obtain ⟨hx, hb, hml, hown, hts, hK, hini, hB, hE, hLS⟩ := hc
  have hd := x_dec hT hi 2 rfl
  simp only [x_ins, hp] at hs
  replace hs := x_r1_s hs
  obtain ⟨r, st', rfl, hs⟩ := hs
  obtain ⟨c1, c2, c3⟩ := hT.2.2.2.2.2.2.2.1 _ _ _ hp
  split at hs
  · rename_i b4
    cases hs
    intro H locs ls hw hS hl hL
    have b5 : 2 * (F0 m pc ls (List.map (x_v (x_ad b B ext)) (Value.ref r :: st'))).monitorRoom + ((st'.map (x_v (x_ad b B ext))).map fun v => v.category).sum + 12 ≤ R.locals := by
      have : ((st'.map (x_v (x_ad b B ext))).map fun v => v.category) = st'.map fun v => v.category := by
        rw [List.map_map]
        congr 1
        funext v
        exact x_v_cat _ v
      rw [this]
      unfold x_sum at b4
      have e0 : (F0 m pc ls (List.map (x_v (x_ad b B ext)) (Value.ref r :: st'))).monitorRoom = 0 := rfl
      rw [e0]
      omega
    exact W.objInit hx hb hown (hts _ c1) (hts _ c2) (hts _ c3) rfl (by rw [hml]; exact hl.1) rfl hd hR.1 b5 (k _ _ rfl rfl H locs ls hw hS hl hL)
  · cases hs
theorem xs_mmax {z : Nat} {y : Nat × Nat} (hT : x_T M nm yn bc ALL cl tys) (hc : x_cx p s m args meth c M nm yn bc ALL cl tys D cA B ext E b j) (hi : x_fe M j pc = some (.invokestatic z)) (hp : x_pl M (x_ow M j) z = some (10, y)) (hR : 1 ≤ R.frames ∧ 40 ≤ R.locals) (hcl : cells + f.2.2.2.length ≤ R.cells + h.length) (hsl : slots + x_sz f.2.2.2 ≤ R.slots + x_sz h) (hs : x_ins M j (.invokestatic z) pc L st h = some (.inl f)) (k : ∀ cells' slots', cells' + h.length = cells + f.2.2.2.length → slots' + x_sz h = slots + x_sz f.2.2.2 → x_go p l e R s m args below meth c Q M cl D cA b B ext j f cells' slots') : x_go p l e R s m args below meth c Q M cl D cA b B ext j (pc, L, st, h) cells slots := by
  obtain ⟨hx, hb, hml, hown, hts, hK, hini, hB, hE, hLS⟩ := hc
  have hd := x_dec hT hi 2 rfl
  simp only [x_ins, hp] at hs
  replace hs := x_i2_s hs
  obtain ⟨x, y, st', rfl, hs⟩ := hs
  obtain ⟨c1, c2, c3, c4⟩ := hT.2.2.2.2.2.2.2.2.1.2.1 _ _ _ hp
  split at hs
  · rename_i b4
    cases hs
    intro H locs ls hw hS hl hL
    have b5 : ((st'.map (x_v (x_ad b B ext))).map fun v => v.category).sum + 13 ≤ R.locals := by
      have : ((st'.map (x_v (x_ad b B ext))).map fun v => v.category) = st'.map fun v => v.category := by
        rw [List.map_map]
        congr 1
        funext v
        exact x_v_cat _ v
      rw [this]
      unfold x_sum at b4
      omega
    exact va_mmax hx hb (by rw [hml]; exact hl.1.symm) hown (hts _ c1) (hts _ c2) (hts _ c3) (hts _ c4) hR.1 b5 (by simp only at hcl; omega) (by simp only at hsl; omega) hd (k _ _ rfl rfl H locs ls hw hS hl hL)
  · cases hs
theorem xs_mmin {z : Nat} {y : Nat × Nat} (hT : x_T M nm yn bc ALL cl tys) (hc : x_cx p s m args meth c M nm yn bc ALL cl tys D cA B ext E b j) (hi : x_fe M j pc = some (.invokestatic z)) (hp : x_pl M (x_ow M j) z = some (11, y)) (hR : 1 ≤ R.frames ∧ 40 ≤ R.locals) (hcl : cells + f.2.2.2.length ≤ R.cells + h.length) (hsl : slots + x_sz f.2.2.2 ≤ R.slots + x_sz h) (hs : x_ins M j (.invokestatic z) pc L st h = some (.inl f)) (k : ∀ cells' slots', cells' + h.length = cells + f.2.2.2.length → slots' + x_sz h = slots + x_sz f.2.2.2 → x_go p l e R s m args below meth c Q M cl D cA b B ext j f cells' slots') : x_go p l e R s m args below meth c Q M cl D cA b B ext j (pc, L, st, h) cells slots := by
  obtain ⟨hx, hb, hml, hown, hts, hK, hini, hB, hE, hLS⟩ := hc
  have hd := x_dec hT hi 2 rfl
  simp only [x_ins, hp] at hs
  replace hs := x_i2_s hs
  obtain ⟨x, y, st', rfl, hs⟩ := hs
  obtain ⟨c1, c2, c3, c4⟩ := hT.2.2.2.2.2.2.2.2.1.2.2 _ _ _ hp
  split at hs
  · rename_i b4
    cases hs
    intro H locs ls hw hS hl hL
    have b5 : ((st'.map (x_v (x_ad b B ext))).map fun v => v.category).sum + 13 ≤ R.locals := by
      have : ((st'.map (x_v (x_ad b B ext))).map fun v => v.category) = st'.map fun v => v.category := by
        rw [List.map_map]
        congr 1
        funext v
        exact x_v_cat _ v
      rw [this]
      unfold x_sum at b4
      omega
    exact va_mmin hx hb (by rw [hml]; exact hl.1.symm) hown (hts _ c1) (hts _ c2) (hts _ c3) (hts _ c4) hR.1 b5 (by simp only at hcl; omega) (by simp only at hsl; omega) hd (k _ _ rfl rfl H locs ls hw hS hl hL)
  · cases hs
end XS
