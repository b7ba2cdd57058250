/-! THE WORLD of the abstract machine: where its cells lie (own work) -/
/-- addresses: cell 0 is the script, at b; cell r is at B + r; what is beyond x_lim lies elsewhere (texts) -/
def x_ad (b B : Nat) (ext : Nat → Nat) (r : Nat) : Nat := if r = 0 then b else if r < x_lim then B + r else ext r
def x_v (ad : Nat → Nat) (v : Value) : Value := match v with
  | .ref r => .ref (ad r)
  | v => v
def x_at (cl : List vw_C) (D : va_G) (cA : Nat → ClassId) (ad : Nat → Nat) (a : Nat) (c : xC) (H : Heap) : Prop := match c with
  | .inl (ci, fs) => ∃ r : vw_C, cl[ci]? = some r ∧ fs.length = r.2.2 ∧ t_OB a (D.1 ci) r.2.2 (D.2 ci) H (vp_V (fs.map (x_v ad)))
  | .inr (.inl (kd, xs)) => if kd = 9 then (∃ scr : Cell, H[a]? = some scr ∧ scr.cls = cA 9 ∧ (∀ q, scr.vm ≠ .statics q) ∧ scr.vm ≠ .unknown ∧ scr.slots.size = xs.length ∧ ∀ j : Nat, j < xs.length → scr.slots[j]? = some (.int (xs.getD j 0))) else H[a]? = some (arrV (cA kd) xs.length (fun j => .int (xs.getD j 0)))
  | .inr (.inr (.inl xs)) => H[a]? = some (arrV (cA 3) xs.length (fun j => .long (xs.getD j 0)))
  | .inr (.inr (.inr (kd, rs))) => H[a]? = some (arrV (cA kd) rs.length (fun j => va_rf ((rs.getD j none).map ad)))
/-- which cells may be written -/
def x_A (B : Nat) : Nat → Prop := fun q => B < q
def x_w (cl : List vw_C) (D : va_G) (cA : Nat → ClassId) (b B : Nat) (ext : Nat → Nat) (h : xH) (H : Heap) : Prop :=
  H.size = B + h.length ∧ h.length ≤ x_lim ∧ b ≤ B ∧ (∃ xs, h[0]? = some (xI 9 xs)) ∧ ∀ (k : Nat) (c : xC), h[k]? = some c → x_at cl D cA (x_ad b B ext) (x_ad b B ext k) c H
def x_Kn (cl : List vw_C) (tys : List FieldType) (D : va_G) (cA : Nat → ClassId) (U : State) : Prop := (∀ (c : Nat) (q : vw_C), cl[c]? = some q → u_Kn U q.1 q.2.1 q.2.2 (D.1 c) (D.2 c)) ∧ (∀ (k : Nat) (ty : FieldType), tys[k]? = some ty → ArrOfT U (cA k) ty ∧ va_RA U (cA k) ty) ∧ ArrOfT U (cA 9) .int
theorem x_Kn.moved {cl : List vw_C} {tys : List FieldType} {D : va_G} {cA : Nat → ClassId} {u U : State} (hvm : u.vm.Alike U.vm) (h : x_Kn cl tys D cA u) : x_Kn cl tys D cA U := ⟨fun c q hq => u_Kn_moved hvm (h.1 c q hq), fun k ty hk => ⟨arrOfT_moved hvm (h.2.1 k ty hk).1, (h.2.1 k ty hk).2.moved hvm⟩, arrOfT_moved hvm h.2.2⟩
theorem x_at.kept {cl : List vw_C} {D : va_G} {cA : Nat → ClassId} {ad : Nat → Nat} {a : Nat} {c : xC} {H H1 : Heap} (h : x_at cl D cA ad a c H) (hq : H1[a]? = H[a]?) : x_at cl D cA ad a c H1 := by
  match c with
  | .inl (ci, fs) =>
    obtain ⟨r, h1, h2, h3⟩ := h
    exact ⟨r, h1, h2, h3.kept hq⟩
  | .inr (.inl (kd, xs)) =>
    simp only [x_at] at h ⊢
    split
    · rename_i e
      rw [if_pos e] at h
      rw [hq]
      exact h
    · rename_i e
      rw [if_neg e] at h
      rw [hq]
      exact h
  | .inr (.inr (.inl xs)) => show H1[a]? = _; rw [hq]; exact h
  | .inr (.inr (.inr (kd, rs))) => show H1[a]? = _; rw [hq]; exact h
theorem x_ad_pos {b B : Nat} {ext : Nat → Nat} {r : Nat} (h0 : r ≠ 0) (h1 : r < x_lim) : x_ad b B ext r = B + r := by
  unfold x_ad
  rw [if_neg h0, if_pos h1]
/-- a cell that is no script lies behind B -/
theorem x_w.pos {cl : List vw_C} {D : va_G} {cA : Nat → ClassId} {b B : Nat} {ext : Nat → Nat} {h : xH} {H : Heap} {r : Nat} {c : xC} (hw : x_w cl D cA b B ext h H) (hr : h[r]? = some c) (hc : ∀ xs, c ≠ xI 9 xs) : x_ad b B ext r = B + r ∧ r ≠ 0 ∧ r < h.length := by
  have hl : r < h.length := (List.getElem?_eq_some_iff.mp hr).1
  have h0 : r ≠ 0 := by
    intro e
    subst e
    obtain ⟨xs, hx⟩ := hw.2.2.2.1
    rw [hr] at hx
    exact hc xs (Option.some.inj hx)
  exact ⟨x_ad_pos h0 (Nat.lt_of_lt_of_le hl hw.2.1), h0, hl⟩
/-- a cell is written -/
theorem x_w.put {cl : List vw_C} {D : va_G} {cA : Nat → ClassId} {b B : Nat} {ext : Nat → Nat} {h : xH} {H H1 : Heap} {r : Nat} {c c1 : xC} (hw : x_w cl D cA b B ext h H) (hr : h[r]? = some c) (hc : ∀ xs, c ≠ xI 9 xs) (z : H1.size = H.size) (o : ∀ q : Nat, q ≠ x_ad b B ext r → H1[q]? = H[q]?) (hn : x_at cl D cA (x_ad b B ext) (x_ad b B ext r) c1 H1) : x_w cl D cA b B ext (h.set r c1) H1 := by
  obtain ⟨e, h0, hl⟩ := hw.pos hr hc
  obtain ⟨w1, w2, w3, ⟨xs, w4⟩, w5⟩ := hw
  refine ⟨by rw [z, w1, List.length_set], by rw [List.length_set]; exact w2, w3, ⟨xs, ?_⟩, fun k d hk => ?_⟩
  · rw [List.getElem?_set]
    rw [if_neg h0]
    exact w4
  · rw [List.getElem?_set] at hk
    by_cases hkr : r = k
    · rw [if_pos hkr, if_pos hl] at hk
      cases hk
      rw [← hkr]
      exact hn
    · rw [if_neg hkr] at hk
      refine (w5 k d hk).kept (o _ ?_)
      have hkl : k < h.length := (List.getElem?_eq_some_iff.mp hk).1
      rw [e]
      unfold x_ad
      split
      · omega
      · rw [if_pos (Nat.lt_of_lt_of_le hkl w2)]
        omega
/-- a cell is made -/
theorem x_w.push {cl : List vw_C} {D : va_G} {cA : Nat → ClassId} {b B : Nat} {ext : Nat → Nat} {h : xH} {H H1 : Heap} {c1 : xC} (hw : x_w cl D cA b B ext h H) (hl : h.length < x_lim) (z : H1.size = H.size + 1) (o : ∀ q : Nat, q < H.size → H1[q]? = H[q]?) (hn : x_at cl D cA (x_ad b B ext) H.size c1 H1) : x_w cl D cA b B ext (h ++ [c1]) H1 ∧ x_ad b B ext h.length = H.size := by
  obtain ⟨w1, w2, w3, ⟨xs, w4⟩, w5⟩ := hw
  have h0 : 0 < h.length := (List.getElem?_eq_some_iff.mp w4).1
  have e : x_ad b B ext h.length = H.size := by
    rw [x_ad_pos (by omega) hl, w1]
  refine ⟨⟨by rw [z, w1, List.length_append]; simp; omega, by rw [List.length_append]; simp; omega, w3, ⟨xs, ?_⟩, fun k d hk => ?_⟩, e⟩
  · rw [List.getElem?_append_left h0]
    exact w4
  · by_cases hkl : k < h.length
    · rw [List.getElem?_append_left hkl] at hk
      refine (w5 k d hk).kept (o _ ?_)
      unfold x_ad
      split
      · omega
      · rw [if_pos (Nat.lt_of_lt_of_le hkl w2)]
        omega
    · rw [List.getElem?_append_right (by omega)] at hk
      have hz : k - h.length < 1 := (List.getElem?_eq_some_iff.mp hk).1
      rw [show k - h.length = 0 by omega] at hk
      cases hk
      rw [show k = h.length by omega, e]
      exact hn
/-- locals -/
def x_as (ad : Nat → Nat) : Nat → List (Option Value) → List (Nat × Value)
  | _, [] => []
  | i, none :: L => x_as ad (i + 1) L
  | i, some v :: L => (i, x_v ad v) :: x_as ad (i + 1) L
theorem x_v_cat (ad : Nat → Nat) (v : Value) : (x_v ad v).category = v.category := by cases v <;> rfl
theorem x_as_mem {ad : Nat → Nat} {q : Nat × Value} : ∀ (L : List (Option Value)) (i : Nat), q ∈ x_as ad i L ↔ ∃ k v, L[k]? = some (some v) ∧ q = (i + k, x_v ad v) := by
  intro L
  induction L with
  | nil => intro i; simp [x_as]
  | cons o L ih =>
    intro i
    cases o with
    | none =>
      rw [x_as, ih]
      constructor
      · rintro ⟨k, v, h1, h2⟩
        exact ⟨k + 1, v, by simpa using h1, by rw [h2]; congr 1; omega⟩
      · rintro ⟨k, v, h1, h2⟩
        cases k with
        | zero => simp at h1
        | succ k => exact ⟨k, v, by simpa using h1, by rw [h2]; congr 1; omega⟩
    | some w =>
      rw [x_as, List.mem_cons, ih]
      constructor
      · rintro (h | ⟨k, v, h1, h2⟩)
        · exact ⟨0, w, by simp, by rw [h]; rfl⟩
        · exact ⟨k + 1, v, by simpa using h1, by rw [h2]; congr 1; omega⟩
      · rintro ⟨k, v, h1, h2⟩
        cases k with
        | zero =>
          have e : w = v := by simpa using h1
          subst e
          exact Or.inl h2
        | succ k => exact Or.inr ⟨k, v, by simpa using h1, by rw [h2]; congr 1; omega⟩
theorem x_ld_get {L : List (Option Value)} {i : Nat} {v : Value} (h : x_ld L i = some v) : L[i]? = some (some v) := by
  unfold x_ld at h
  split at h
  · rename_i e
    rw [e]
    cases h
    rfl
  · cases h
/-- a local is read -/
theorem x_ld_at {ad : Nat → Nat} {ls : Array Slot} {nL : Nat} {L : List (Option Value)} {i : Nat} {v : Value} (hl : lv_has ls nL (x_as ad 0 L)) (h : x_ld L i = some v) : ls[i]? = some (.val (x_v ad v)) :=
  hl.2.2 (i, x_v ad v) ((x_as_mem L 0).mpr ⟨i, v, x_ld_get h, by simp⟩)
theorem x_kl_len (L : List (Option Value)) (i : Nat) : (x_kl L i).length = L.length := by
  cases i with
  | zero => rfl
  | succ i =>
    rw [x_kl]
    split
    · split
      · simp
      · rfl
    · rfl
theorem x_st_len (L : List (Option Value)) (i : Nat) (v : Value) : (x_st L i v).length = L.length := by
  unfold x_st
  rw [List.length_set, x_kl_len]
/-- a local is written: what the kit's row knows behind it is what the abstract list says -/
theorem x_st_has {ad : Nat → Nat} {ls' : Array Slot} {nL : Nat} {L : List (Option Value)} {i : Nat} {v : Value} (hl : lv_has ls' nL ((i, x_v ad v) :: (x_as ad 0 L).filter (fun q => !(q.1 == i) && !(q.1 + 1 == i && q.2.category == 2)))) : lv_has ls' nL (x_as ad 0 (x_st L i v)) := by
  refine ⟨hl.1, hl.2.1, fun q hq => hl.2.2 q ?_⟩
  obtain ⟨k, w, h1, h2⟩ := (x_as_mem _ 0).mp hq
  rw [Nat.zero_add] at h2
  unfold x_st at h1
  rw [List.getElem?_set] at h1
  by_cases hk : i = k
  · rw [if_pos hk] at h1
    split at h1
    · cases h1
      rw [h2, ← hk]
      exact List.mem_cons_self
    · cases h1
  · rw [if_neg hk] at h1
    refine List.mem_cons_of_mem _ (List.mem_filter.mpr ⟨(x_as_mem L 0).mpr ⟨k, w, ?_, by rw [h2]; simp⟩, ?_⟩)
    · cases i with
      | zero => exact h1
      | succ i =>
        rw [x_kl] at h1
        split at h1
        · split at h1
          · rw [List.getElem?_set] at h1
            split at h1
            · split at h1 <;> cases h1
            · exact h1
          · exact h1
        · exact h1
    · rw [h2]
      have a1 : ¬ k = i := fun z => hk z.symm
      simp only [x_v_cat]
      cases i with
      | zero => simp [a1]
      | succ i =>
        have : ¬ (k = i ∧ w.category = 2) := by
          rintro ⟨rfl, hc⟩
          rw [x_kl] at h1
          split at h1
          · rename_i u hu
            split at h1
            · rw [List.getElem?_set] at h1
              rw [if_pos rfl] at h1
              split at h1 <;> cases h1
            · rename_i hn
              have := x_ld_get hu
              rw [h1] at this
              cases this
              exact hn hc
          · rename_i hu
            unfold x_ld at hu
            rw [h1] at hu
            cases hu
        by_cases e : k = i
        · have hc : ¬ w.category = 2 := fun hc => this ⟨e, hc⟩
          simp [a1, hc]
        · simp [a1, e]
theorem x_v_dflt (ad : Nat → Nat) (ty : FieldType) : x_v ad (defaultValue ty) = defaultValue ty := by cases ty <;> rfl
theorem x_sz_push (h : xH) (c : xC) : x_sz (h ++ [c]) = x_sz h + x_one c := by simp [x_sz]
theorem x_sz_set {c c1 : xC} (e : x_one c1 = x_one c) : ∀ (h : xH) (r : Nat), h[r]? = some c → x_sz (h.set r c1) = x_sz h := by
  intro h
  induction h with
  | nil => intro r hr; simp at hr
  | cons d h ih =>
    intro r hr
    cases r with
    | zero =>
      have : d = c := by simpa using hr
      subst this
      simp [x_sz, e]
    | succ r =>
      have h1 := ih r (by simpa using hr)
      simp only [x_sz, List.set_cons_succ, List.map_cons, List.sum_cons] at h1 ⊢
      omega
theorem x_getD_set {α : Type} (xs : List α) {i : Nat} (hi : i < xs.length) (v d : α) (j : Nat) : (xs.set i v).getD j d = if j = i then v else xs.getD j d := by
  simp only [List.getD_eq_getElem?_getD, List.getElem?_set]
  by_cases h : i = j
  · subst h
    simp [hi]
  · rw [if_neg h, if_neg (fun z => h z.symm)]
theorem x_getD_cpy {α : Type} (f g : List α) (d : α) {sp dp n : Nat} (h1 : sp + n ≤ f.length) (h2 : dp + n ≤ g.length) (j : Nat) : (x_cpy f g sp dp n).getD j d = va_cpy (fun k => f.getD k d) (fun k => g.getD k d) sp dp n j := by
  unfold x_cpy va_cpy
  simp only [List.getD_eq_getElem?_getD]
  have l1 : (g.take dp).length = dp := by rw [List.length_take]; omega
  have l2 : ((f.drop sp).take n).length = n := by rw [List.length_take, List.length_drop]; omega
  by_cases c1 : j < dp
  · rw [if_neg (by omega), List.getElem?_append_left (by omega), List.getElem?_take_of_lt c1]
  · rw [List.getElem?_append_right (by omega), l1]
    by_cases c2 : j < dp + n
    · rw [if_pos (by omega), List.getElem?_append_left (by omega), List.getElem?_take_of_lt (by omega), List.getElem?_drop]
    · rw [if_neg (by omega), List.getElem?_append_right (by omega), l2, List.getElem?_drop]
      congr 2
      omega
theorem x_cpy_len {α : Type} (f g : List α) {sp dp n : Nat} (h1 : sp + n ≤ f.length) (h2 : dp + n ≤ g.length) : (x_cpy f g sp dp n).length = g.length := by
  unfold x_cpy
  simp only [List.length_append, List.length_take, List.length_drop]
  omega
