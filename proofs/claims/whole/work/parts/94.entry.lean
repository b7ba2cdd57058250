/-! WHAT STANDS at the law's entry (own work) -/
def zr_i : Nat → Nat
  | 0 => 71
  | 1 => 77
  | 2 => 85
  | 3 => 89
  | 4 => 53
  | 5 => 96
  | 6 => 98
  | 7 => 62
  | 8 => 137
  | 9 => 139
  | 10 => 130
  | 11 => 132
  | 12 => 133
  | _ => 0
def zm_i : Nat → Nat
  | 0 => 213
  | 1 => 215
  | 2 => 217
  | 3 => 219
  | 4 => 203
  | 5 => 176
  | 6 => 182
  | 7 => 205
  | 8 => 186
  | 9 => 184
  | 10 => 194
  | 11 => 199
  | 12 => 201
  | _ => 0
abbrev zr_t (w : Nat) : Term := Term.string "SecondWell$Reader" (zr_i w)
abbrev zm_t (w : Nat) : Term := Term.string "SecondWellModel" (zm_i w)
abbrev zx_pre0 : List Cond := flatC (Jvm.Cond.and given_1 narrow_1)
theorem zp_ex : ∀ w, w < 13 → Cond.exactly (zr_t w) "java/lang/String" ∈ zx_pre0 := by decide +kernel
theorem zp_co : ∀ w, w < 13 → Cond.eq (.field (zr_t w) "java/lang/String" "coder" "B") (.int 0) ∈ zx_pre0 := by decide +kernel
theorem zp_ar : ∀ w, w < 13 → Cond.arrayOf (.field (zr_t w) "java/lang/String" "value" "[B") .byte ∈ zx_pre0 := by decide +kernel
theorem zp_le : ∀ w, w < 13 → Cond.eq (.length (.field (zr_t w) "java/lang/String" "value" "[B")) (.int (Int32.ofNat (zx_b w).length)) ∈ zx_pre0 := by decide +kernel
theorem zp_el : ∀ w, w < 13 → ∀ j, j < (zx_b w).length → Cond.eq (.elem (.field (zr_t w) "java/lang/String" "value" "[B") (.int (Int32.ofNat j))) (.int (nI ((zx_b w).getD j 0))) ∈ zx_pre0 := by decide +kernel
theorem zp_mx : ∀ w, w < 13 → Cond.exactly (zm_t w) "java/lang/String" ∈ zx_pre0 := by decide +kernel
theorem zp_eq : ∀ w, w < 13 → Cond.eq (zr_t w) (zm_t w) ∈ zx_pre0 := by decide +kernel
theorem zp_cs : Cond.eq (.static "java/lang/String" "COMPACT_STRINGS" "Z") (.int 1) ∈ zx_pre0 := by decide +kernel
theorem zp_si : Cond.isRef (.static "jdk/internal/util/Preconditions" "SIOOBE_FORMATTER" "Ljava/util/function/BiFunction;") ∈ zx_pre0 := by decide +kernel
theorem zx_lits_t : ∀ q ∈ zx_lits, q.2.2.1 < 13 ∧ ((g_nm q.1 = "SecondWell$Reader" ∧ q.2.1 = zr_i q.2.2.1) ∨ (g_nm q.1 = "SecondWellModel" ∧ q.2.1 = zm_i q.2.2.1)) := by decide +kernel
theorem zx_eqR {args : Array Value} {s : State} {t u : Term} {a b : Nat} (h : (Cond.eq t u).before args s = true) (ht : t.eval args s none [] s = some (.ref a)) (hu : u.eval args s none [] s = some (.ref b)) : a = b := by
  simpa [Cond.before, Cond.holds, Cond.value, ht, hu] using h
theorem zx_entry {s : State} {args : Array Value} {b B : Nat} (hB : B + 1 = s.heap.size) (hts : ∀ w ∈ lw_tbl, w.before args s = true) (hgv : (Jvm.Cond.and given_1 narrow_1).before args s = true) : ∃ (ext : Nat → Nat) (zv : Value), zv.category = 1 ∧ zx_E (x_ad b B ext) B zv s := by
  have hs : ∀ c ∈ zx_pre0, c.before args s = true := flat_of_before _ hgv
  have hA : ∀ a : Nat, a < s.heap.size → ¬ x_A B a := fun a ha => by unfold x_A; omega
  have hlim : x_lim = 1000000 := rfl
  have h0 : ∀ w : Nat, ∃ q : Nat × Nat, w < 13 → (zr_t w).eval args s none [] s = some (.ref q.1) ∧ va_O "java/lang/String" q.1 (x_A B) s s.heap ∧ va_OF "java/lang/String" "coder" "B" (.int 0) q.1 (x_A B) s s.heap ∧ va_OF "java/lang/String" "value" "[B" (.ref q.2) q.1 (x_A B) s s.heap ∧ va_T .byte q.2 (zx_b w).length (fun j => .int (nI ((zx_b w).getD j 0))) (x_A B) s s.heap := by
    intro w
    by_cases hw : w < 13
    · obtain ⟨a, c, cA, kA, q1, q2, q3, q4, q5, q6, -⟩ := Cond.exactly_spec (args := args) (first := s) (o := none) (s := s) (idx := []) (t := zr_t w) (cls := "java/lang/String") (hs _ (zp_ex w hw))
      obtain ⟨t, ht, hT⟩ := va_Tof (f := fun j => .int (nI ((zx_b w).getD j 0))) (A := x_A B) (by have := (zx_ch w hw).1; omega) (hs _ (zp_ar w hw)) (va_eqt (hs _ (zp_le w hw))) (fun j hj => va_eqt (hs _ (zp_el w hw j hj))) hA
      exact ⟨(a, t), fun _ => ⟨q1, ⟨cA, q3, q5, by rw [q6]; exact q2, hA a (Array.getElem?_eq_some_iff.mp q3).1⟩, vk_OFof q1 (va_eqt (hs _ (zp_co w hw))) hA, vk_OFof q1 ht hA, hT⟩⟩
    · exact ⟨(0, 0), fun h => absurd h hw⟩
  obtain ⟨ad, had⟩ := Classical.axiomOfChoice h0
  have hzq : va_Zq "jdk/internal/util/Preconditions" "SIOOBE_FORMATTER" "Ljava/util/function/BiFunction;" (x_A B) s s.heap := va_Zqof (hts _ zt_si) (hts _ (List.mem_filter.mp zn_P).1) (hs _ zp_si) hA
  have key : ∀ (t : Nat) (zv : Value), va_Z "jdk/internal/util/Preconditions" "SIOOBE_FORMATTER" "Ljava/util/function/BiFunction;" (x_v (x_ad b B (fun r => if r < x_lim + 100 then (ad (r - x_lim)).1 else if r < x_lim + 200 then (ad (r - (x_lim + 100))).2 else t)) zv) (x_A B) s s.heap → zx_E (x_ad b B (fun r => if r < x_lim + 100 then (ad (r - x_lim)).1 else if r < x_lim + 200 then (ad (r - (x_lim + 100))).2 else t)) B zv s := by
    intro t zv hv
    have a1 : ∀ w, w < 13 → x_ad b B (fun r => if r < x_lim + 100 then (ad (r - x_lim)).1 else if r < x_lim + 200 then (ad (r - (x_lim + 100))).2 else t) (x_lim + w) = (ad w).1 := by
      intro w hw
      unfold x_ad
      rw [if_neg (by omega), if_neg (by omega)]
      simp only
      rw [if_pos (by omega), Nat.add_sub_cancel_left]
    have a2 : ∀ w, w < 13 → x_ad b B (fun r => if r < x_lim + 100 then (ad (r - x_lim)).1 else if r < x_lim + 200 then (ad (r - (x_lim + 100))).2 else t) (x_lim + 100 + w) = (ad w).2 := by
      intro w hw
      unfold x_ad
      rw [if_neg (by omega), if_neg (by omega)]
      simp only
      rw [if_neg (by omega), if_pos (by omega), Nat.add_sub_cancel_left]
    refine ⟨fun q hq => ?_, fun q hq => va_Nw.of rfl (hts _ (zx_nest_in q hq)), fun C hC => va_AO.of (hts _ (zx_arr_in C hC)), fun w hw => ?_, va_Zof (hts _ zt_cs) (hts _ (List.mem_filter.mp zn_S).1) (va_eqi (hs _ zp_cs)) hA, hv⟩
    · obtain ⟨hw, ht⟩ := zx_lits_t q hq
      refine vk_R.of (hts _ (zx_lits_in q hq)) ?_
      rw [a1 _ hw]
      have hr := (had _ hw).1
      rcases ht with ⟨t1, t2⟩ | ⟨t1, t2⟩
      · rw [t1, t2]; exact hr
      · rw [t1, t2]
        obtain ⟨a, c, cA, kA, q1, -⟩ := Cond.exactly_spec (args := args) (first := s) (o := none) (s := s) (idx := []) (t := zm_t q.2.2.1) (cls := "java/lang/String") (hs _ (zp_mx _ hw))
        rw [zx_eqR (hs _ (zp_eq _ hw)) hr q1]
        exact q1
    · rw [a1 w hw, a2 w hw]
      exact (had w hw).2
  rcases hzq with hq | ⟨t, hq⟩
  · exact ⟨_, .null, rfl, key 0 .null hq⟩
  · refine ⟨_, .ref (x_lim + 200), rfl, key t (.ref (x_lim + 200)) ?_⟩
    have a3 : x_ad b B (fun r => if r < x_lim + 100 then (ad (r - x_lim)).1 else if r < x_lim + 200 then (ad (r - (x_lim + 100))).2 else t) (x_lim + 200) = t := by
      unfold x_ad
      rw [if_neg (by omega), if_neg (by omega)]
      simp only
      rw [if_neg (by omega), if_neg (by omega)]
    show va_Z _ _ _ (.ref (x_ad b B _ (x_lim + 200))) _ _ _
    rw [a3]
    exact hq
theorem zx_prim {s : State} {args : Array Value} {ty : FieldType} (h : (Cond.arrayClass ty).before args s = true) : ∃ c : ClassId, ArrOfT s c ty ∧ s.vm.findClass ("[" ++ ty.toString) = some c := by
  obtain ⟨c, k, comp, h1, h2, h3⟩ := Cond.arrayClass_spec h
  exact ⟨c, fun n z => ⟨(fun k h => by cases h), k, h2, comp, h3⟩, h1⟩
theorem zx_obj {s : State} {C : String} (h : va_AO C s) : ∃ c : ClassId, ArrOfT s c (.object C) ∧ va_RA s c (.object C) := by
  obtain ⟨comp, c, k, h1, -, h2, h3, h4⟩ := Cond.arrayOver_spec h
  exact ⟨c, fun n z => ⟨(fun k h => by cases h), k, h2, comp, h3⟩, k, comp, h2, h3, h1, h4⟩
theorem zx_Kn {s : State} {args : Array Value} {scr : Cell} (hts : ∀ w ∈ lw_tbl, w.before args s = true) (h9 : s.isArrayOf scr .int) : ∃ (D : va_G) (cA : Nat → ClassId), x_Kn g_cl g_tys D cA s ∧ cA 9 = scr.cls := by
  have htg : ∀ w ∈ g_all, w.before args s = true := fun w hw => hts w (List.mem_filter.mp hw).1
  have h1 : ∀ ci : Nat, ∃ d : ClassId × (Nat → Nat), ∀ q : vw_C, g_cl[ci]? = some q → u_Kn s q.1 q.2.1 q.2.2 d.1 d.2 := by
    intro ci
    cases hq : g_cl[ci]? with
    | none => exact ⟨(scr.cls, fun _ => 0), fun q h => by cases h⟩
    | some q =>
      obtain ⟨-, hin, -, -, hinst, -⟩ := g_T.2.1 ci q hq
      obtain ⟨cC, iS, hk⟩ := u_known (ws := g_all) (C := q.1) (T := q.2.1) (N := q.2.2) (n := q.2.2) htg hin (htg _ hinst)
      exact ⟨(cC, iS), fun q' h => by cases h; exact hk⟩
  have h2 : ∀ k : Nat, ∃ c : ClassId, ∀ ty : FieldType, g_tys[k]? = some ty → ArrOfT s c ty ∧ va_RA s c ty := by
    obtain ⟨-, -, -, -, w0, w1, w2, w3, -⟩ := g_T.2.2.2.2.2.1
    have ao : ∀ C ∈ zx_arr, va_AO C s := fun C hC => va_AO.of (hts _ (zx_arr_in C hC))
    intro k
    match k with
    | 0 => obtain ⟨c, a1, a2⟩ := zx_prim (htg _ w0); exact ⟨c, fun ty h => by cases h; exact ⟨a1, a2⟩⟩
    | 1 => obtain ⟨c, a1, a2⟩ := zx_prim (htg _ w1); exact ⟨c, fun ty h => by cases h; exact ⟨a1, a2⟩⟩
    | 2 => obtain ⟨c, a1, a2⟩ := zx_prim (htg _ w2); exact ⟨c, fun ty h => by cases h; exact ⟨a1, a2⟩⟩
    | 3 => obtain ⟨c, a1, a2⟩ := zx_prim (htg _ w3); exact ⟨c, fun ty h => by cases h; exact ⟨a1, a2⟩⟩
    | 4 => obtain ⟨c, a1⟩ := zx_obj (ao "SecondWell$State" (by decide)); exact ⟨c, fun ty h => by cases h; exact a1⟩
    | 5 => obtain ⟨c, a1⟩ := zx_obj (ao "SecondWell$Slot" (by decide)); exact ⟨c, fun ty h => by cases h; exact a1⟩
    | 6 => obtain ⟨c, a1⟩ := zx_obj (ao "SecondWell$Image" (by decide)); exact ⟨c, fun ty h => by cases h; exact a1⟩
    | k + 7 => exact ⟨scr.cls, fun ty h => by simp [g_tys] at h⟩
  obtain ⟨d, hd⟩ := Classical.axiomOfChoice h1
  obtain ⟨cc, hcc⟩ := Classical.axiomOfChoice h2
  refine ⟨(fun c => (d c).1, fun c => (d c).2), fun k => if k = 9 then scr.cls else cc k, ⟨fun c q hq => hd c q hq, fun k ty hk => ?_, ?_⟩, rfl⟩
  · have hk7 : k < 7 := (List.getElem?_eq_some_iff.mp hk).1
    simp only
    rw [if_neg (by omega)]
    exact hcc k ty hk
  · obtain ⟨-, kA, a1, comp, a2⟩ := h9
    exact fun n z => ⟨(fun k h => by cases h), kA, a1, comp, a2⟩
