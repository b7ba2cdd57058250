/-! ONE STEP of the abstract machine that reads or writes cells (own work) -/
section XS
variable {p : Program} {l : Launch} {e : Env} {R : Room} {s : State} {m : MethodId} {args : Array Value} {below : List Frame} {meth : Method} {c : Code} {Q : State → Prop}
variable {M : xM} {nm : Nat → String} {yn : Nat → MethodName} {bc : Nat → ByteArray} {ALL : List Cond} {cl : List vw_C} {tys : List FieldType} {D : va_G} {cA : Nat → ClassId} {b B : Nat} {ext : Nat → Nat} {E : State → Prop} {j pc : Nat} {L : List (Option Value)} {st : List Value} {h : xH} {f : xF} {cells slots : Nat}

theorem x_S_put {H H1 : Heap} {locs : List Loc} {a i : Nat} (hS : va_S (x_A B) s.heap H locs) (z : H1.size = H.size) (o : ∀ q : Nat, q ≠ a → H1[q]? = H[q]?) (ha : B < a) : va_S (x_A B) s.heap H1 (locs ++ [⟨a, i⟩]) := hS.put z o ha
theorem x_S_push {H H1 : Heap} {locs : List Loc} (hS : va_S (x_A B) s.heap H locs) (z : H1.size = H.size + 1) (o : ∀ q : Nat, q < H.size → H1[q]? = H[q]?) : va_S (x_A B) s.heap H1 locs := ⟨by have := hS.1; omega, fun x h1 h2 => (o x (Nat.lt_of_lt_of_le h1 hS.1)).trans (hS.2.1 x h1 h2), hS.2.2⟩
theorem x_Kv (hK : x_Kn cl tys D cA s) : va_K D cl [] s := ⟨hK.1, fun k q hk => by cases hk⟩
theorem x_V_map {ad : Nat → Nat} {fs : List Value} {k : Nat} {v : Value} (hv : fs[k]? = some v) : vp_V (fs.map (x_v ad)) k = x_v ad v := by
  simp [vp_V, List.getD_eq_getElem?_getD, hv]

theorem xs_getfield {z : Nat} (hT : x_T M nm yn bc ALL cl tys) (hc : x_cx p s m args meth c M nm yn bc ALL cl tys D cA B ext E b j) (hi : x_fe M j pc = some (.getfield z)) (hR : 1 ≤ R.frames ∧ 40 ≤ R.locals) (hcl : cells + f.2.2.2.length ≤ R.cells + h.length) (hsl : slots + x_sz f.2.2.2 ≤ R.slots + x_sz h) (hs : x_ins M j (.getfield z) pc L st h = some (.inl f)) (k : ∀ cells' slots', cells' + h.length = cells + f.2.2.2.length → slots' + x_sz h = slots + x_sz f.2.2.2 → x_go p l e R s m args below meth c Q M cl D cA b B ext j f cells' slots') : x_go p l e R s m args below meth c Q M cl D cA b B ext j (pc, L, st, h) cells slots := by
  obtain ⟨hx, hb, hml, hown, hts, hK, hini, hB, hE, hLS⟩ := hc
  have hd := x_dec hT hi 2 rfl
  replace hs := x_r1_s hs
  obtain ⟨r, st', rfl, hs⟩ := hs
  split at hs
  · rename_i ci kf hp
    obtain ⟨fs, hr, hs⟩ := x_ob_s hs
    split at hs
    · rename_i v hv
      cases hs
      intro H locs ls hw hS hl hL
      obtain ⟨q, hq, hkq, hlk⟩ := hT.2.2.1 _ _ _ _ hp
      obtain ⟨t1, t2, t3, t4, t5, t6, t7⟩ := hT.2.1 ci q hq
      obtain ⟨q', hq', hlen, cell, q1, q2, q3, q4⟩ := hw.2.2.2.2 r _ hr
      obtain rfl : q' = q := Option.some.inj (hq'.symm.trans hq)
      obtain ⟨hSl, hfc, kC, hkC, hkind⟩ := hK.1 ci _ hq
      obtain ⟨cf, kf2, fi, fd, hfi, hsl2⟩ := hSl kf hkq
      have hfi2 := hfi
      rw [(t7 kf hkq).1] at hfi2
      refine W.getf hx hb hown (hts _ hlk) hfi2 (u_facts hfc hkC (u_lays hts t2 hkq) hfi).1 q1 (by rw [q3]; exact fun z => by cases z) (v := x_v (x_ad b B ext) v) ?_ rfl rfl hd (k _ _ rfl rfl H locs ls hw hS hl hL)
      rw [hsl2, q4 kf hkq, x_V_map hv]
    · cases hs
  · cases hs
theorem xs_putfield {z : Nat} (hT : x_T M nm yn bc ALL cl tys) (hc : x_cx p s m args meth c M nm yn bc ALL cl tys D cA B ext E b j) (hi : x_fe M j pc = some (.putfield z)) (hR : 1 ≤ R.frames ∧ 40 ≤ R.locals) (hcl : cells + f.2.2.2.length ≤ R.cells + h.length) (hsl : slots + x_sz f.2.2.2 ≤ R.slots + x_sz h) (hs : x_ins M j (.putfield z) pc L st h = some (.inl f)) (k : ∀ cells' slots', cells' + h.length = cells + f.2.2.2.length → slots' + x_sz h = slots + x_sz f.2.2.2 → x_go p l e R s m args below meth c Q M cl D cA b B ext j f cells' slots') : x_go p l e R s m args below meth c Q M cl D cA b B ext j (pc, L, st, h) cells slots := by
  obtain ⟨hx, hb, hml, hown, hts, hK, hini, hB, hE, hLS⟩ := hc
  have hd := x_dec hT hi 2 rfl
  replace hs := x_vr_s hs
  obtain ⟨v, r, st', rfl, hs⟩ := hs
  split at hs
  · rename_i ci kf hp
    obtain ⟨fs, hr, hs⟩ := x_ob_s hs
    split at hs
    · rename_i hcond
      obtain ⟨hkl, hok, hfin⟩ := hcond
      cases hs
      intro H locs ls hw hS hl hL
      obtain ⟨q, hq, hkq, hlk⟩ := hT.2.2.1 _ _ _ _ hp
      obtain ⟨t1, t2, t3, t4, t5, t6, t7⟩ := hT.2.1 ci q hq
      obtain ⟨q', hq', hlen, cell, q1, q2, q3, q4⟩ := hw.2.2.2.2 r _ hr
      obtain rfl : q' = q := Option.some.inj (hq'.symm.trans hq)
      have hap := va_apart (own := q'.1) (C := q'.1) (T := q'.2.1) (N := q'.2.2) hts t2 (x_ft M ci) t3 t4 (x_Kv hK) hq
      obtain ⟨hSl, hfc, kC, hkC, hkind⟩ := hK.1 ci _ hq
      obtain ⟨cf, kf2, fi, fd, hfi, hsl2⟩ := hSl kf hkq
      have hfi2 := hfi
      rw [(t7 kf hkq).1] at hfi2
      have hst := (u_facts hfc hkC (u_lays hts t2 hkq) hfi).1
      obtain ⟨hn, hfit⟩ := x_ok_s (ad := x_ad b B ext) hok
      have hpos := hw.pos hr (fun xs z => by cases z)
      have hsz : x_sz (h.set r (xO ci (fs.set kf v))) = x_sz h := x_sz_set (by simp [x_one]) h r hr
      have fin : ∀ H' : Heap, H'[x_ad b B ext r]? = some (cell.setSlot fd.slot (x_v (x_ad b B ext) v)) → H'.size = H.size → (∀ q, q ≠ x_ad b B ext r → H'[q]? = H[q]?) → W p l e R s m args below meth c H' (locs ++ [⟨x_ad b B ext r, fd.slot⟩]) cells slots Q (F0 m (pc + 3) ls (st'.map (x_v (x_ad b B ext)))) := by
        intro H' e1 e2 e3
        rw [hsl2] at e1
        refine k _ _ (by simp) (by rw [hsz]) H' _ ls (hw.put hr (fun xs z => by cases z) e2 e3 ⟨q', hq, by simp [hlen], ?_⟩) (x_S_put hS e2 e3 (by rw [hpos.1]; omega)) hl hL
        rw [List.map_set]
        exact t_OB.to (V := updV (vp_V (fs.map (x_v (x_ad b B ext)))) kf (x_v (x_ad b B ext) v)) ⟨_, e1, q2, q3, t_set q4 hap hkq _⟩ (fun j _ => vp_updV_set (by rw [List.length_map]; exact hkl) _ j)
      by_cases hff : x_ff M ci kf = true
      · have hlay := hts _ (t2 _ (u_in_lay hkq))
        unfold u_lay at hlay
        rw [if_pos (by rw [(t7 kf hkq).2]; exact hff)] at hlay
        obtain ⟨hin1, hin2⟩ := hfin hff
        have hcf : m.cls = cf := by
          obtain ⟨_, _, c', _, _, _, -, -, hf', -, -, -, hown2, -⟩ := Cond.laysFinal_spec hlay
          have e1 : c' = cf := by have := hfi.symm.trans hf'; simp at this; exact this.1.symm
          rw [(t7 kf hkq).1, t1, ← hin2] at hown2
          rw [← e1]; exact Option.some.inj (hown.symm.trans hown2)
        have h6 := u_fits hfc hkC hkind (Or.inr hlay) hfi (t3 kf hkq) hn hfit
        exact W.putFinK hx hb hown (hts _ hlk) hfi2 hst hcf (hini hin1) (by rw [q2]; exact h6) q1 q3 (by rw [hsl2]; exact k2_hasslot (q4 kf hkq)) rfl rfl hd fin
      · have hlay := hts _ (t2 _ (u_in_lay hkq))
        unfold u_lay at hlay
        rw [if_neg (by rw [(t7 kf hkq).2]; exact hff)] at hlay
        have h6 := u_store hfc hkC hkind hlay hfi (t3 kf hkq) hn hfit
        exact W.putK hx hb (f := fd) ⟨hown, hts _ hlk, ⟨_, _, _, hfi2⟩, hst⟩ (by rw [q2]; exact h6) q1 q3 (by rw [hsl2]; exact k2_hasslot (q4 kf hkq)) rfl rfl hd fin
    · cases hs
  · cases hs
theorem xs_new {z : Nat} (hT : x_T M nm yn bc ALL cl tys) (hc : x_cx p s m args meth c M nm yn bc ALL cl tys D cA B ext E b j) (hi : x_fe M j pc = some (.new z)) (hR : 1 ≤ R.frames ∧ 40 ≤ R.locals) (hcl : cells + f.2.2.2.length ≤ R.cells + h.length) (hsl : slots + x_sz f.2.2.2 ≤ R.slots + x_sz h) (hs : x_ins M j (.new z) pc L st h = some (.inl f)) (k : ∀ cells' slots', cells' + h.length = cells + f.2.2.2.length → slots' + x_sz h = slots + x_sz f.2.2.2 → x_go p l e R s m args below meth c Q M cl D cA b B ext j f cells' slots') : x_go p l e R s m args below meth c Q M cl D cA b B ext j (pc, L, st, h) cells slots := by
  obtain ⟨hx, hb, hml, hown, hts, hK, hini, hB, hE, hLS⟩ := hc
  have hd := x_dec hT hi 2 rfl
  simp only [x_ins] at hs
  split at hs
  · rename_i ci n hp
    obtain ⟨hlim, hs⟩ := x_made_s hs
    cases hs
    intro H locs ls hw hS hl hL
    obtain ⟨q, hq, hqn, hlk⟩ := hT.2.2.2.1 _ _ _ _ hp
    obtain ⟨t1, t2, t3, t4, t5, t6, t7⟩ := hT.2.1 ci q hq
    have hKn := hK.1 ci q hq
    have e1 : x_one (xO ci (x_df M ci n)) = n := by simp [x_one, x_df]
    rw [x_sz_push, e1] at hsl
    rw [List.length_append, List.length_singleton] at hcl
    refine W.newcK hx hb hown (hts _ hlk) (hts _ t5) (hts _ t6) rfl hd (by omega) (by rw [hqn]; omega) hKn.2.1 rfl fun H1 kC hkC g1 z1 o1 => ?_
    have hat : x_at cl D cA (x_ad b B ext) H.size (xO ci (x_df M ci n)) H1 := by
      refine ⟨q, hq, by simp [x_df, hqn], (u_born (x_ft M ci) hts t2 hKn hkC g1 t3).to (fun i hi2 => ?_)⟩
      have : (x_df M ci n)[i]? = some (defaultValue (x_ft M ci i)) := by
        unfold x_df
        rw [List.getElem?_map, List.getElem?_range (by omega)]
        rfl
      rw [x_V_map this, x_v_dflt]
    obtain ⟨hw1, ead⟩ := hw.push hlim z1 o1 hat
    have := k (cells + 1) (slots + q.2.2) (by simp; omega) (by rw [x_sz_push, e1]; omega) H1 locs ls hw1 (x_S_push hS z1 o1) hl hL
    simp only [List.map_cons, x_v, ead] at this
    exact this
  · cases hs
theorem xs_newarray {z : ArrayType} (hT : x_T M nm yn bc ALL cl tys) (hc : x_cx p s m args meth c M nm yn bc ALL cl tys D cA B ext E b j) (hi : x_fe M j pc = some (.newarray z)) (hR : 1 ≤ R.frames ∧ 40 ≤ R.locals) (hcl : cells + f.2.2.2.length ≤ R.cells + h.length) (hsl : slots + x_sz f.2.2.2 ≤ R.slots + x_sz h) (hs : x_ins M j (.newarray z) pc L st h = some (.inl f)) (k : ∀ cells' slots', cells' + h.length = cells + f.2.2.2.length → slots' + x_sz h = slots + x_sz f.2.2.2 → x_go p l e R s m args below meth c Q M cl D cA b B ext j f cells' slots') : x_go p l e R s m args below meth c Q M cl D cA b B ext j (pc, L, st, h) cells slots := by
  obtain ⟨hx, hb, hml, hown, hts, hK, hini, hB, hE, hLS⟩ := hc
  have hd := x_dec hT hi 1 rfl
  replace hs := x_i1_s hs
  obtain ⟨n, st', rfl, hs⟩ := hs
  obtain ⟨y0, y1, y2, y3, y4, y5, y6, y7, -⟩ := hT.2.2.2.2.2.1
  split at hs
  · cases hs
  rename_i hb0
  split at hs
  · obtain ⟨hlim, hs⟩ := x_made_s hs
    cases hs
    intro H locs ls hw hS hl hL
    have e1 : x_one (xI 0 (List.replicate n.toNatClampNeg 0)) = n.toNatClampNeg := by simp [x_one]
    rw [x_sz_push, e1] at hsl
    rw [List.length_append, List.length_singleton] at hcl
    have h2 : n.toNatClampNeg ≤ 60000000 := Nat.not_lt.mp (fun z => hb0 (Or.inr z))
    have hby : n.toNatClampNeg * componentBytes .int ≤ 536870912 := Nat.le_trans (Nat.mul_le_mul h2 (show componentBytes .int ≤ 8 by decide)) (by decide)
    refine va_newaK (atype := .int) hx hb (hts _ y4) rfl hd rfl (fun z => hb0 (Or.inl z)) rfl hby (by omega) (by omega) rfl fun H1 cA1 g1 z1 o1 hAr hNm => ?_
    have ecA : cA1 = cA 0 := Option.some.inj (hNm.symm.trans (hK.2.1 0 .int y0).2)
    have hat : x_at cl D cA (x_ad b B ext) H.size (xI 0 (List.replicate n.toNatClampNeg 0)) H1 := by
      show H1[H.size]? = _
      rw [g1, ecA, List.length_replicate]
      congr 2
      funext q
      simp [List.getD_eq_getElem?_getD, List.getElem?_replicate]
      first | rfl | (split <;> rfl)
    obtain ⟨hw1, ead⟩ := hw.push hlim z1 o1 hat
    have := k (cells + 1) (slots + n.toNatClampNeg) (by simp; omega) (by rw [x_sz_push, e1]; omega) H1 locs ls hw1 (x_S_push hS z1 o1) hl hL
    simp only [List.map_cons, x_v, ead] at this
    exact this
  · obtain ⟨hlim, hs⟩ := x_made_s hs
    cases hs
    intro H locs ls hw hS hl hL
    have e1 : x_one (xI 1 (List.replicate n.toNatClampNeg 0)) = n.toNatClampNeg := by simp [x_one]
    rw [x_sz_push, e1] at hsl
    rw [List.length_append, List.length_singleton] at hcl
    have h2 : n.toNatClampNeg ≤ 60000000 := Nat.not_lt.mp (fun z => hb0 (Or.inr z))
    have hby : n.toNatClampNeg * componentBytes .byte ≤ 536870912 := Nat.le_trans (Nat.mul_le_mul h2 (show componentBytes .byte ≤ 8 by decide)) (by decide)
    refine va_newaK (atype := .byte) hx hb (hts _ y5) rfl hd rfl (fun z => hb0 (Or.inl z)) rfl hby (by omega) (by omega) rfl fun H1 cA1 g1 z1 o1 hAr hNm => ?_
    have ecA : cA1 = cA 1 := Option.some.inj (hNm.symm.trans (hK.2.1 1 .byte y1).2)
    have hat : x_at cl D cA (x_ad b B ext) H.size (xI 1 (List.replicate n.toNatClampNeg 0)) H1 := by
      show H1[H.size]? = _
      rw [g1, ecA, List.length_replicate]
      congr 2
      funext q
      simp [List.getD_eq_getElem?_getD, List.getElem?_replicate]
      first | rfl | (split <;> rfl)
    obtain ⟨hw1, ead⟩ := hw.push hlim z1 o1 hat
    have := k (cells + 1) (slots + n.toNatClampNeg) (by simp; omega) (by rw [x_sz_push, e1]; omega) H1 locs ls hw1 (x_S_push hS z1 o1) hl hL
    simp only [List.map_cons, x_v, ead] at this
    exact this
  · obtain ⟨hlim, hs⟩ := x_made_s hs
    cases hs
    intro H locs ls hw hS hl hL
    have e1 : x_one (xI 2 (List.replicate n.toNatClampNeg 0)) = n.toNatClampNeg := by simp [x_one]
    rw [x_sz_push, e1] at hsl
    rw [List.length_append, List.length_singleton] at hcl
    have h2 : n.toNatClampNeg ≤ 60000000 := Nat.not_lt.mp (fun z => hb0 (Or.inr z))
    have hby : n.toNatClampNeg * componentBytes .boolean ≤ 536870912 := Nat.le_trans (Nat.mul_le_mul h2 (show componentBytes .boolean ≤ 8 by decide)) (by decide)
    refine va_newaK (atype := .boolean) hx hb (hts _ y6) rfl hd rfl (fun z => hb0 (Or.inl z)) rfl hby (by omega) (by omega) rfl fun H1 cA1 g1 z1 o1 hAr hNm => ?_
    have ecA : cA1 = cA 2 := Option.some.inj (hNm.symm.trans (hK.2.1 2 .boolean y2).2)
    have hat : x_at cl D cA (x_ad b B ext) H.size (xI 2 (List.replicate n.toNatClampNeg 0)) H1 := by
      show H1[H.size]? = _
      rw [g1, ecA, List.length_replicate]
      congr 2
      funext q
      simp [List.getD_eq_getElem?_getD, List.getElem?_replicate]
      first | rfl | (split <;> rfl)
    obtain ⟨hw1, ead⟩ := hw.push hlim z1 o1 hat
    have := k (cells + 1) (slots + n.toNatClampNeg) (by simp; omega) (by rw [x_sz_push, e1]; omega) H1 locs ls hw1 (x_S_push hS z1 o1) hl hL
    simp only [List.map_cons, x_v, ead] at this
    exact this
  · obtain ⟨hlim, hs⟩ := x_made_s hs
    cases hs
    intro H locs ls hw hS hl hL
    have e1 : x_one (xL (List.replicate n.toNatClampNeg 0)) = n.toNatClampNeg := by simp [x_one]
    rw [x_sz_push, e1] at hsl
    rw [List.length_append, List.length_singleton] at hcl
    have h2 : n.toNatClampNeg ≤ 60000000 := Nat.not_lt.mp (fun z => hb0 (Or.inr z))
    have hby : n.toNatClampNeg * componentBytes .long ≤ 536870912 := Nat.le_trans (Nat.mul_le_mul h2 (show componentBytes .long ≤ 8 by decide)) (by decide)
    refine va_newaK (atype := .long) hx hb (hts _ y7) rfl hd rfl (fun z => hb0 (Or.inl z)) rfl hby (by omega) (by omega) rfl fun H1 cA1 g1 z1 o1 hAr hNm => ?_
    have ecA : cA1 = cA 3 := Option.some.inj (hNm.symm.trans (hK.2.1 3 .long y3).2)
    have hat : x_at cl D cA (x_ad b B ext) H.size (xL (List.replicate n.toNatClampNeg 0)) H1 := by
      show H1[H.size]? = _
      rw [g1, ecA, List.length_replicate]
      congr 2
      funext q
      simp [List.getD_eq_getElem?_getD, List.getElem?_replicate]
      first | rfl | (split <;> rfl)
    obtain ⟨hw1, ead⟩ := hw.push hlim z1 o1 hat
    have := k (cells + 1) (slots + n.toNatClampNeg) (by simp; omega) (by rw [x_sz_push, e1]; omega) H1 locs ls hw1 (x_S_push hS z1 o1) hl hL
    simp only [List.map_cons, x_v, ead] at this
    exact this
  · cases hs
theorem xs_anewarray {z : Nat} (hT : x_T M nm yn bc ALL cl tys) (hc : x_cx p s m args meth c M nm yn bc ALL cl tys D cA B ext E b j) (hi : x_fe M j pc = some (.anewarray z)) (hR : 1 ≤ R.frames ∧ 40 ≤ R.locals) (hcl : cells + f.2.2.2.length ≤ R.cells + h.length) (hsl : slots + x_sz f.2.2.2 ≤ R.slots + x_sz h) (hs : x_ins M j (.anewarray z) pc L st h = some (.inl f)) (k : ∀ cells' slots', cells' + h.length = cells + f.2.2.2.length → slots' + x_sz h = slots + x_sz f.2.2.2 → x_go p l e R s m args below meth c Q M cl D cA b B ext j f cells' slots') : x_go p l e R s m args below meth c Q M cl D cA b B ext j (pc, L, st, h) cells slots := by
  obtain ⟨hx, hb, hml, hown, hts, hK, hini, hB, hE, hLS⟩ := hc
  have hd := x_dec hT hi 2 rfl
  replace hs := x_i1_s hs
  obtain ⟨n, st', rfl, hs⟩ := hs
  split at hs
  · cases hs
  rename_i hb0
  split at hs
  · rename_i kd z2 hp
    obtain ⟨hlim, hs⟩ := x_made_s hs
    cases hs
    intro H locs ls hw hS hl hL
    obtain ⟨C, hC, hlk⟩ := hT.2.2.2.2.1 _ _ _ _ hp
    have e1 : x_one (xQ kd (List.replicate n.toNatClampNeg none)) = n.toNatClampNeg := by simp [x_one]
    rw [x_sz_push, e1] at hsl
    rw [List.length_append, List.length_singleton] at hcl
    have h2 : n.toNatClampNeg ≤ 60000000 := Nat.not_lt.mp (fun z => hb0 (Or.inr z))
    refine W.anew hx hb hown (hts _ hlk) (va_AO.use (hLS.2.2 _ _ _ _ _ hp hC s hE)) rfl hd rfl (fun z => hb0 (Or.inl z)) (by omega) (by omega) (by omega) fun cA1 kA comp f1 f2 f3 f4 => ?_
    generalize hH1 : H.push ({ cls := cA1, slots := Array.replicate n.toNatClampNeg .null, vm := .none } : Cell) = H1
    have z1 : H1.size = H.size + 1 := by rw [← hH1, Array.size_push]
    have g1 : H1[H.size]? = some (arrV cA1 n.toNatClampNeg (fun _ => .null)) := by rw [← hH1, Array.getElem?_push_size, ← arrV_new]
    have o1 : ∀ q : Nat, q < H.size → H1[q]? = H[q]? := fun q hq => by rw [← hH1, Array.getElem?_push, if_neg (Nat.ne_of_lt hq)]
    obtain ⟨-, kA2, comp2, v1, v2, v3, v4⟩ := hK.2.1 kd _ hC
    have ecA : cA1 = cA kd := Option.some.inj (f1.symm.trans v4)
    have hat : x_at cl D cA (x_ad b B ext) H.size (xQ kd (List.replicate n.toNatClampNeg none)) H1 := by
      show H1[H.size]? = _
      rw [g1, ecA, List.length_replicate]
      congr 2
      funext q
      simp [List.getD_eq_getElem?_getD, List.getElem?_replicate]
      first | rfl | (split <;> rfl)
    obtain ⟨hw1, ead⟩ := hw.push hlim z1 o1 hat
    have := k (cells + 1) (slots + n.toNatClampNeg) (by simp; omega) (by rw [x_sz_push, e1]; omega) H1 locs ls hw1 (x_S_push hS z1 o1) hl hL
    simp only [List.map_cons, x_v, ead] at this
    exact this
  · cases hs
end XS
