/-! the reference walks all orders of a set, one after the other (own work) -/
theorem refS_121 {s s' : xS} {T : Tw} {B : As} (h : offX 121 s s') (hB : refS s T B) : refS s' T B := offR.S (h.1 110 (by omega)) (h.1 117 (by omega)) (h.1 118 (by omega)) hB
theorem offX.keR {c : Nat} {s s' : xS} (h1 : 115 ≤ c) (h2 : c < 127) (h : offX c s s') : keR s s' := ⟨fun q _ b => h.1 q (by omega), fun k _ => by rw [h.1 110 (by omega)], fun q _ _ => by rw [h.2]⟩
theorem refT_ke {s s' : xS} {T : Tw} (h : keR s s') (hT : refT s 111 0 T) : refT s' 111 0 T := refT_off (h.1 111 (by omega) (by omega)) hT
theorem aOk_bare {T : Tw} {A : As} {σ : List Nat} (hO : aOk T A) (hw : aWf T (bare A σ)) : aOk T (bare A σ) := ⟨hw, hO.2⟩
theorem aWf_perm {T : Tw} {A : As} {σ τ : List Nat} (h : σ.Perm τ) (hw : aWf T (bare A σ)) : aWf T (bare A τ) := ⟨fun m hm => hw.1 m (h.mem_iff.mpr hm), h.nodup_iff.mp hw.2.1, by have := hw.2.2; rw [show (bare A τ).1 = τ from rfl, ← h.length_eq]; exact this⟩
section ENUM
variable {P : Nat → List Value → Option Value} {d : Nat} {xs : List Int32} {T : Tw} {A : As}
def stL (set one : Int32) (c : Nat) (o : Option Value) : List (Option Value) := [some (.ref 110), some (.int set), some (.int one), some (.int (nI c)), o]
theorem r_copyF {s : xS} {set one : Int32} {c : Nat} {o : Option Value} {σ : List Nat} (h8 : σ.length ≤ 8) (hB : refS s T (bare A σ)) : ∃ z, (∀ r, x_R (x_ev g_M P d) 285 (69, stL set one c o, [], mkH xs s) r ↔ x_R (x_ev g_M P d) 285 (101, stL set one c (some (.int (nI σ.length))), [], mkH xs z) r) ∧ offX 121 s z ∧ ∀ i, i < σ.length → z.1 121 i = nI (lo σ i) := by
  obtain ⟨a1, a2, a3, a4, a5⟩ := hB
  have a1 : s.1 110 16 = nI σ.length := a1
  have a2 : ∀ i, i < σ.length → s.1 117 i = nI (lo σ i) := a2
  obtain ⟨z, ⟨h1, h2⟩, e⟩ := x_upY (C := x_ev g_M P d) (k := 285) (N := σ.length) (β := xS) (R := fun m z => offX 121 s z ∧ ∀ i, i < m → z.1 121 i = nI (lo σ i)) (F := fun m z => (72, stL set one c (some (.int (nI m))), [], mkH xs z)) (fun m z hm hz => by
    obtain ⟨hz, hr⟩ := hz
    have hc : ¬ nI σ.length ≤ nI m := nI_ge hm (by omega)
    have e1 : z.1 110 16 = nI σ.length := by rw [hz.1 110 (by omega)]; exact a1
    have hx : x_rd (z.1 117) 8 (nI m) = some (nI (lo σ m)) := by rw [x_rd_nI (by omega) (by omega), hz.1 117 (by omega), a2 m hm]
    have hx2 : x_rd (z.1 121) 8 (nI m) = some (z.1 121 m) := x_rd_nI (by omega) (by omega)
    refine ⟨s_p z 121 m (nI (lo σ m)), ⟨⟨fun q hq => by rw [s_p_o.1 q hq, hz.1 q hq], hz.2⟩, fun i hi => ?_⟩, fun r => ?_⟩
    · by_cases h : i = m
      · subst h; simp [s_p]
      · simp only [s_p, h, and_false, if_false]
        exact hr i (by omega)
    · unfold stL
      simp only [w_Ref_standsBy_4, w_Ref_standsBy_9, w_Ref_standsBy_12, w_Ref_standsBy_14, w_Ref_standsBy_21, w_Ref_standsBy_23, w_Ref_standsBy_26, w_Ref_standsBy_31, w_Ref_standsBy_35, w_Ref_standsBy_40, w_Ref_standsBy_46, w_Ref_standsBy_52, w_Ref_standsBy_55, w_Ref_standsBy_59, w_Ref_standsBy_62, w_Ref_standsBy_65, w_Ref_standsBy_69, w_Ref_standsBy_78, w_Ref_standsBy_81, w_Ref_standsBy_85, w_Ref_standsBy_91, w_Ref_standsBy_94, w_Ref_standsBy_95, w_Ref_standsBy_101, w_Ref_standsBy_108, w_Ref_standsBy_110, w_Ref_standsBy_115, w_Ref_standsBy_118, w_Ref_standsBy_121, w_Ref_standsBy_72 (l4 := nI m), c_110, f_110_0, p_110_0, f_110_1, f_110_2, f_110_3, f_110_4, f_110_5, p_110_5, f_110_6, f_110_7, p_110_7, f_110_8, p_110_8, f_110_9, p_110_9, f_110_10, p_110_10, f_110_11, p_110_11, f_110_12, p_110_12, f_110_13, p_110_13, f_110_14, f_110_15, f_110_16, p_110_16, f_110_17, f_110_18, p_110_18, f_110_19, p_110_19, f_110_20, f_110_21, p_110_21, f_110_22, p_110_22, f_110_23, f_110_24, f_110_25, p_110_25, f_110_26, f_110_27, f_110_28, f_110_29, f_110_30, f_110_31, p_110_31, f_110_32, p_110_32, f_110_33, p_110_33, f_110_34, p_110_34, f_110_35, f_110_36, f_110_37, f_110_38, e_117, i_117, e_121, i_121, Option.some.injEq, exists_eq_left', exists_eq_left, Option.toList_some, Option.toList_none, List.cons_append, List.nil_append, true_and, and_true, Option.map_some, Option.map_none, e1, hc, if_false, hx, hx2, nI_clamp (show m < 2 ^ 31 by omega), nI_1]) σ.length 0 s (by omega) ⟨⟨fun _ _ => rfl, rfl⟩, fun i hi => absurd hi (Nat.not_lt_zero _)⟩
  refine ⟨z, fun r => ?_, h1, h2⟩
  have e1 : z.1 110 16 = nI σ.length := by rw [h1.1 110 (by omega)]; exact a1
  have s1 : x_R (x_ev g_M P d) 285 (69, stL set one c o, [], mkH xs s) r ↔ x_R (x_ev g_M P d) 285 (72, stL set one c (some (.int (nI 0))), [], mkH xs s) r := by
    unfold stL
    rw [w_Ref_standsBy_69]
    exact Iff.rfl
  rw [s1, e r]
  unfold stL
  simp only [w_Ref_standsBy_72 (l4 := nI σ.length), w_Ref_standsBy_78, c_110, f_110_0, p_110_0, f_110_1, f_110_2, f_110_3, f_110_4, f_110_5, p_110_5, f_110_6, f_110_7, p_110_7, f_110_8, p_110_8, f_110_9, p_110_9, f_110_10, p_110_10, f_110_11, p_110_11, f_110_12, p_110_12, f_110_13, p_110_13, f_110_14, f_110_15, f_110_16, p_110_16, f_110_17, f_110_18, p_110_18, f_110_19, p_110_19, f_110_20, f_110_21, p_110_21, f_110_22, p_110_22, f_110_23, f_110_24, f_110_25, p_110_25, f_110_26, f_110_27, f_110_28, f_110_29, f_110_30, f_110_31, p_110_31, f_110_32, p_110_32, f_110_33, p_110_33, f_110_34, p_110_34, f_110_35, f_110_36, f_110_37, f_110_38, Option.some.injEq, exists_eq_left', exists_eq_left, Option.toList_some, Option.toList_none, List.cons_append, List.nil_append, true_and, and_true, Option.map_some, Option.map_none, e1, show nI σ.length ≤ nI σ.length from Int32.le_refl _, if_true]
theorem r_visNo (hd : 8 ≤ d) (hW : tWf T) {s : xS} {set one : Int32} {c : Nat} {o : Option Value} {σ : List Nat} (hT : refT s 111 0 T) (hB : refS s T (bare A σ)) (hO : aOk T (bare A σ)) (hk : okR T A σ = false) : ∀ r, x_R (x_ev g_M P d) 285 (48, stL set one c o, [], mkH xs s) r ↔ x_R (x_ev g_M P d) 285 (110, stL set one c o, [], mkH xs s) r := by
  intro r
  rw [okR_b] at hk
  unfold stL
  by_cases h1 : lawN T 0 σ = true
  · have h1' : lawN T 0 (bare A σ).1 = true := h1
    rw [h1, Bool.true_and] at hk
    simp only [w_Ref_standsBy_48, w_Ref_standsBy_52, w_Ref_standsBy_55, w_Ref_standsBy_59, w_Ref_standsBy_62, c_110, f_110_0, p_110_0, f_110_1, f_110_2, f_110_3, f_110_4, f_110_5, p_110_5, f_110_6, f_110_7, p_110_7, f_110_8, p_110_8, f_110_9, p_110_9, f_110_10, p_110_10, f_110_11, p_110_11, f_110_12, p_110_12, f_110_13, p_110_13, f_110_14, f_110_15, f_110_16, p_110_16, f_110_17, f_110_18, p_110_18, f_110_19, p_110_19, f_110_20, f_110_21, p_110_21, f_110_22, p_110_22, f_110_23, f_110_24, f_110_25, p_110_25, f_110_26, f_110_27, f_110_28, f_110_29, f_110_30, f_110_31, p_110_31, f_110_32, p_110_32, f_110_33, p_110_33, f_110_34, p_110_34, f_110_35, f_110_36, f_110_37, f_110_38, Option.some.injEq, exists_eq_left', exists_eq_left, Option.toList_some, Option.toList_none, List.cons_append, List.nil_append, true_and, and_true, Option.map_some, Option.map_none, r_isLawful (d := d) (by omega) hW hT hB hO.1, h1', r_isRest (d := d) (by omega) hW hT hB hO, hk, b01, if_true, if_false, Bool.false_eq_true, show ¬ ((1 : Int32) = 0) by decide, not_true_eq_false]
  · have h1' : lawN T 0 (bare A σ).1 = false := (show lawN T 0 σ = false by simpa using h1)
    simp only [w_Ref_standsBy_48, w_Ref_standsBy_52, c_110, f_110_0, p_110_0, f_110_1, f_110_2, f_110_3, f_110_4, f_110_5, p_110_5, f_110_6, f_110_7, p_110_7, f_110_8, p_110_8, f_110_9, p_110_9, f_110_10, p_110_10, f_110_11, p_110_11, f_110_12, p_110_12, f_110_13, p_110_13, f_110_14, f_110_15, f_110_16, p_110_16, f_110_17, f_110_18, p_110_18, f_110_19, p_110_19, f_110_20, f_110_21, p_110_21, f_110_22, p_110_22, f_110_23, f_110_24, f_110_25, p_110_25, f_110_26, f_110_27, f_110_28, f_110_29, f_110_30, f_110_31, p_110_31, f_110_32, p_110_32, f_110_33, p_110_33, f_110_34, p_110_34, f_110_35, f_110_36, f_110_37, f_110_38, Option.some.injEq, exists_eq_left', exists_eq_left, Option.toList_some, Option.toList_none, List.cons_append, List.nil_append, true_and, and_true, Option.map_some, Option.map_none, r_isLawful (d := d) (by omega) hW hT hB hO.1, h1', b01, if_true, Bool.false_eq_true, if_false]
theorem r_visYes (hd : 8 ≤ d) (hW : tWf T) {s : xS} {set one : Int32} {c : Nat} {o : Option Value} {σ : List Nat} (hc : c < 2 ^ 31) (hT : refT s 111 0 T) (hB : refS s T (bare A σ)) (hO : aOk T (bare A σ)) (hk : okR T A σ = true) : ∃ z o', (∀ r, x_R (x_ev g_M P d) 285 (48, stL set one c o, [], mkH xs s) r ↔ x_R (x_ev g_M P d) 285 (101, stL set one c o', [], mkH xs z) r) ∧ offX 121 s z ∧ (c = 0 → ∀ i, i < σ.length → z.1 121 i = nI (lo σ i)) := by
  rw [okR_b, Bool.and_eq_true] at hk
  have h1 : lawN T 0 (bare A σ).1 = true := hk.1
  have st : ∀ r, x_R (x_ev g_M P d) 285 (48, stL set one c o, [], mkH xs s) r ↔ x_R (x_ev g_M P d) 285 (65, stL set one c o, [], mkH xs s) r := fun r => by
    unfold stL
    simp only [w_Ref_standsBy_48, w_Ref_standsBy_52, w_Ref_standsBy_55, w_Ref_standsBy_59, c_110, f_110_0, p_110_0, f_110_1, f_110_2, f_110_3, f_110_4, f_110_5, p_110_5, f_110_6, f_110_7, p_110_7, f_110_8, p_110_8, f_110_9, p_110_9, f_110_10, p_110_10, f_110_11, p_110_11, f_110_12, p_110_12, f_110_13, p_110_13, f_110_14, f_110_15, f_110_16, p_110_16, f_110_17, f_110_18, p_110_18, f_110_19, p_110_19, f_110_20, f_110_21, p_110_21, f_110_22, p_110_22, f_110_23, f_110_24, f_110_25, p_110_25, f_110_26, f_110_27, f_110_28, f_110_29, f_110_30, f_110_31, p_110_31, f_110_32, p_110_32, f_110_33, p_110_33, f_110_34, p_110_34, f_110_35, f_110_36, f_110_37, f_110_38, Option.some.injEq, exists_eq_left', exists_eq_left, Option.toList_some, Option.toList_none, List.cons_append, List.nil_append, true_and, and_true, Option.map_some, Option.map_none, r_isLawful (d := d) (by omega) hW hT hB hO.1, h1, r_isRest (d := d) (by omega) hW hT hB hO, hk.2, b01, if_true, if_false, show ¬ ((1 : Int32) = 0) by decide, not_false_eq_true]
  by_cases h0 : c = 0
  · subst h0
    obtain ⟨z, e, o1, row⟩ := r_copyF (P := P) (d := d) (xs := xs) (set := set) (one := one) (c := 0) (o := o) (σ := σ) hO.1.2.2 hB
    refine ⟨z, some (.int (nI σ.length)), fun r => ?_, o1, fun _ => row⟩
    rw [st r, ← e r]
    unfold stL
    simp only [w_Ref_standsBy_65, show nI 0 = 0 from rfl, not_true_eq_false, if_false]
  · refine ⟨s, o, fun r => ?_, ⟨fun _ _ => rfl, rfl⟩, fun h => absurd h h0⟩
    rw [st r]
    unfold stL
    simp only [w_Ref_standsBy_65, nI_ne0 (show 0 < c by omega) hc, not_false_eq_true, if_true]
/-- what comes of walking through some orders -/
def outB (P : Nat → List Value → Option Value) (d : Nat) (xs : List Int32) (T : Tw) (A : As) (set one : Int32) (s z : xS) (c : Nat) (o : Option Value) (L : List (List Nat)) (σe : List Nat) : Prop :=
  (one ≠ 0 ∧ ∃ τ z', (L.filter (okR T A)).head? = some τ ∧ x_R (x_ev g_M P d) 285 (48, stL set one c o, [], mkH xs z) (some (.int 1), mkH xs z') ∧ keR s z' ∧ ∀ i, i < τ.length → z'.1 121 i = nI (lo τ i)) ∨
  ((one ≠ 0 → L.filter (okR T A) = []) ∧ ∃ z' o', keR s z' ∧ refS z' T (bare A σe) ∧ ∀ r, x_R (x_ev g_M P d) 285 (48, stL set one c o, [], mkH xs z) r ↔ x_R (x_ev g_M P d) 285 (110, stL set one (c + (L.filter (okR T A)).length) o', [], mkH xs z') r)
theorem r_visit (hd : 8 ≤ d) (hW : tWf T) {s z : xS} {set one : Int32} {c : Nat} {o : Option Value} {σ : List Nat} (hc : c < 2 ^ 31) (hc1 : one ≠ 0 → c = 0) (hs : keR s z) (hT : refT s 111 0 T) (hB : refS z T (bare A σ)) (hO : aOk T (bare A σ)) : outB P d xs T A set one s z c o [σ] σ := by
  have hTz := refT_ke hs hT
  by_cases hk : okR T A σ = true
  · obtain ⟨z1, o1, e, of, row⟩ := r_visYes (P := P) (d := d) (xs := xs) (set := set) (one := one) (o := o) hd hW hc hTz hB hO hk
    have ef : [σ].filter (okR T A) = [σ] := by simp [hk]
    by_cases h1 : one = 0
    · right
      refine ⟨fun h => absurd h1 h, z1, o1, hs.tr (of.keR (by omega) (by omega)), refS_121 of hB, fun r => ?_⟩
      rw [e r, ef]
      subst h1
      unfold stL
      simp only [w_Ref_standsBy_101, if_true, nI_1, List.length_singleton]
    · left
      refine ⟨h1, σ, z1, by rw [ef]; rfl, ?_, hs.tr (of.keR (by omega) (by omega)), row (hc1 h1)⟩
      rw [e, hc1 h1]
      unfold stL
      simp only [w_Ref_standsBy_101, w_Ref_standsBy_108, h1, if_false]
      rfl
  · have hk' : okR T A σ = false := by simpa using hk
    have ef : [σ].filter (okR T A) = [] := by simp [hk']
    right
    refine ⟨fun _ => ef, z, o, hs, hB, fun r => ?_⟩
    rw [ef]
    exact r_visNo hd hW hTz hB hO hk' r
theorem rowF_S {s s' : xS} {σ τ : List Nat} (hl : τ.length = σ.length) (h : offX 117 s s') (hB : refS s T (bare A σ)) (hr : rowF s' σ.length (lo τ)) : refS s' T (bare A τ) := by
  obtain ⟨a1, a2, a3, a4, a5⟩ := hB
  refine ⟨?_, fun i hi => ?_, fun j hj => ?_, ?_, ?_⟩
  · rw [h.1 110 (by omega), a1]; show nI σ.length = nI τ.length; rw [hl]
  · exact hr i (by rw [← hl]; exact hi)
  · rw [h.1 118 (by omega)]; exact a3 j hj
  · rw [h.1 110 (by omega)]; exact a4
  · rw [h.1 110 (by omega)]; exact a5
/-- one falls over to the next block of orders -/
theorem r_stepN (hd : 4 ≤ d) {s : xS} {set one : Int32} {c : Nat} {o : Option Value} {pre R1 R4 : List Nat} {m m' : Nat} (h31 : ∀ x ∈ pre ++ m :: (R4.reverse ++ m' :: R1.reverse), x < 2 ^ 31) (h8 : (pre ++ m :: (R4.reverse ++ m' :: R1.reverse)).length ≤ 8) (hs : (R1 ++ m :: m' :: R4).Pairwise (· < ·)) (hB : refS s T (bare A (pre ++ m :: (R4.reverse ++ m' :: R1.reverse)))) : ∃ z, (∀ r, x_R (x_ev g_M P d) 285 (110, stL set one c o, [], mkH xs s) r ↔ x_R (x_ev g_M P d) 285 (48, stL set one c o, [], mkH xs z) r) ∧ offX 117 s z ∧ refS z T (bare A (pre ++ m' :: (R1 ++ m :: R4))) := by
  rw [List.pairwise_append, List.pairwise_cons, List.pairwise_cons] at hs
  obtain ⟨p1, ⟨p2, p3, p4⟩, p5⟩ := hs
  generalize hσ : pre ++ m :: (R4.reverse ++ m' :: R1.reverse) = σ at *
  have hlen : σ.length = pre.length + R4.length + R1.length + 2 := by
    rw [← hσ]; simp; omega
  have hdec : (R4.reverse ++ m' :: R1.reverse).Pairwise (fun a b => b < a) := by
    rw [List.pairwise_append, List.pairwise_cons, List.pairwise_reverse, List.pairwise_reverse]
    refine ⟨p4, ⟨fun a ha => ?_, p1⟩, fun a ha b hb => ?_⟩
    · have := p5 a (List.mem_reverse.mp ha) m' (by simp)
      exact this
    · have ha := List.mem_reverse.mp ha
      rcases List.mem_cons.mp hb with rfl | hb
      · exact p3 a ha
      · exact p5 b (List.mem_reverse.mp hb) a (by simp [ha])
  have hlo : ∀ k, pre.length < k → lo σ k = lo (R4.reverse ++ m' :: R1.reverse) (k - pre.length - 1) := fun k hk => by
    rw [← hσ, lo_ap2, if_neg (by omega), lo_cons', if_neg (by omega)]
  have hl0 : lo σ pre.length = m := by rw [← hσ, lo_ap2, if_neg (by omega), Nat.sub_self, lo_c0]
  have hll : (R4.reverse ++ m' :: R1.reverse).length = R4.length + R1.length + 1 := by simp; omega
  have hlj : lo σ (pre.length + 1 + R4.length) = m' := by
    rw [hlo _ (by omega), lo_ap2, List.length_reverse, if_neg (by omega), show pre.length + 1 + R4.length - pre.length - 1 - R4.length = 0 by omega, lo_c0]
  have hmem : ∀ k, k < σ.length → lo σ k ∈ σ := fun k hk => by
    unfold lo
    rw [List.getD_eq_getElem?_getD, List.getElem?_eq_getElem hk]
    exact List.getElem_mem hk
  have hmm : m < m' := p2 m' (by simp)
  obtain ⟨z, e, of, row⟩ := r_nxYes (P := P) (d := d) (xs := xs) (s := s) (n := σ.length) (i := pre.length) (j := pre.length + 1 + R4.length) (f := lo σ) (by omega) h8 (fun i hi => h31 _ (hmem i hi)) hB.2.1 (by omega) (by
    rw [hl0, hlo _ (by omega), show pre.length + 1 - pre.length - 1 = 0 by omega]
    rw [lo_ap2]
    by_cases h : 0 < R4.reverse.length
    · rw [if_pos h]
      have hm2 : lo R4.reverse 0 ∈ R4.reverse := by
        unfold lo
        rw [List.getD_eq_getElem?_getD, List.getElem?_eq_getElem h]
        exact List.getElem_mem h
      have := p2 (lo R4.reverse 0) (List.mem_cons_of_mem _ (List.mem_reverse.mp hm2))
      omega
    · rw [if_neg h, Nat.zero_sub, lo_c0]
      omega) (fun k h1 h2 => by
    rw [hlo k h1, hlo (k + 1) (by omega)]
    exact pw_lo hdec (by omega) (by omega)) (by omega) (by omega) (by rw [hl0, hlj]; omega) (fun k h1 h2 => by
    have hm2 : lo σ k ∈ R1 := by
      rw [hlo k (by omega), lo_ap2, List.length_reverse, if_neg (by omega), lo_cons', if_neg (by omega)]
      have hk2 : k - pre.length - 1 - R4.length - 1 < R1.reverse.length := by rw [List.length_reverse]; omega
      unfold lo
      rw [List.getD_eq_getElem?_getD, List.getElem?_eq_getElem hk2]
      exact List.mem_reverse.mp (List.getElem_mem hk2)
    rw [hl0]
    exact p5 _ hm2 m (by simp))
  refine ⟨z, fun r => ?_, of, rowF_S (by rw [hlen]; simp; omega) of hB (fun k hk => ?_)⟩
  · unfold stL
    have a1 : s.1 110 16 = nI σ.length := hB.1
    simp only [w_Ref_standsBy_110, w_Ref_standsBy_115, w_Ref_standsBy_118, c_110, f_110_0, p_110_0, f_110_1, f_110_2, f_110_3, f_110_4, f_110_5, p_110_5, f_110_6, f_110_7, p_110_7, f_110_8, p_110_8, f_110_9, p_110_9, f_110_10, p_110_10, f_110_11, p_110_11, f_110_12, p_110_12, f_110_13, p_110_13, f_110_14, f_110_15, f_110_16, p_110_16, f_110_17, f_110_18, p_110_18, f_110_19, p_110_19, f_110_20, f_110_21, p_110_21, f_110_22, p_110_22, f_110_23, f_110_24, f_110_25, p_110_25, f_110_26, f_110_27, f_110_28, f_110_29, f_110_30, f_110_31, p_110_31, f_110_32, p_110_32, f_110_33, p_110_33, f_110_34, p_110_34, f_110_35, f_110_36, f_110_37, f_110_38, Option.some.injEq, exists_eq_left', exists_eq_left, Option.toList_some, Option.toList_none, List.cons_append, List.nil_append, true_and, and_true, Option.map_some, Option.map_none, a1, x_ev_iff e, show ¬ ((1 : Int32) = 0) by decide, not_false_eq_true, if_true]
  · rw [row k hk]
    have := nx_list pre R4.reverse R1.reverse m m' k (by rw [hσ]; exact hk)
    rw [hσ, List.length_reverse, List.reverse_reverse, List.reverse_reverse] at this
    rw [this]
theorem outB_app {set one : Int32} {s z : xS} {c : Nat} {o : Option Value} {L1 L2 : List (List Nat)} {σ1 σ2 : List Nat} (h1 : outB P d xs T A set one s z c o L1 σ1) (h2 : ∀ z' o', (one ≠ 0 → L1.filter (okR T A) = []) → keR s z' → refS z' T (bare A σ1) → ∃ z2, keR s z2 ∧ (∀ r, x_R (x_ev g_M P d) 285 (110, stL set one (c + (L1.filter (okR T A)).length) o', [], mkH xs z') r ↔ x_R (x_ev g_M P d) 285 (48, stL set one (c + (L1.filter (okR T A)).length) o', [], mkH xs z2) r) ∧ outB P d xs T A set one s z2 (c + (L1.filter (okR T A)).length) o' L2 σ2) : outB P d xs T A set one s z c o (L1 ++ L2) σ2 := by
  rcases h1 with ⟨g1, τ, z', g2, g3, g4, g5⟩ | ⟨g1, z', o', g2, g3, g4⟩
  · left
    refine ⟨g1, τ, z', ?_, g3, g4, g5⟩
    rw [List.filter_append, List.head?_append, g2]
    rfl
  · obtain ⟨z2, k1, k2, k3⟩ := h2 z' o' g1 g2 g3
    rcases k3 with ⟨j1, τ, z3, j2, j3, j4, j5⟩ | ⟨j1, z3, o3, j2, j3, j4⟩
    · left
      refine ⟨j1, τ, z3, ?_, ?_, j4, j5⟩
      · rw [List.filter_append, g1 j1, List.nil_append]; exact j2
      · rw [g4, k2]; exact j3
    · right
      refine ⟨fun h => by rw [List.filter_append, g1 h, j1 h]; rfl, z3, o3, j2, j3, fun r => ?_⟩
      rw [g4, k2, j4, List.filter_append, List.length_append, Nat.add_assoc]
theorem r_enum (hd : 8 ≤ d) (hW : tWf T) (hO : aOk T A) {s : xS} {set one : Int32} (hT : refT s 111 0 T) : ∀ (k : Nat) (x : Int32) (pre : List Nat) (z : xS) (c : Nat) (o : Option Value), (lst (tM T) x).length = k → keR s z → refS z T (bare A (pre ++ lst (tM T) x)) → aWf T (bare A (pre ++ lst (tM T) x)) → (one ≠ 0 → c = 0) → c + (((pm (tM T) k x).map (fun t => pre ++ t)).filter (okR T A)).length < 2 ^ 30 → outB P d xs T A set one s z c o ((pm (tM T) k x).map (fun t => pre ++ t)) (pre ++ (lst (tM T) x).reverse) := by
  have w2 := hW.2.1
  intro k
  induction k with
  | zero =>
    intro x pre z c o hk hs hB hw hc1 hc
    have h0 : lst (tM T) x = [] := List.eq_nil_of_length_eq_zero hk
    rw [h0] at hB hw ⊢
    rw [List.append_nil] at hB hw
    have := r_visit (P := P) (d := d) (xs := xs) (set := set) (one := one) (o := o) hd hW (show c < 2 ^ 31 by omega) hc1 hs hT hB (aOk_bare hO hw)
    rw [pm]
    simpa using this
  | succ k ih =>
    intro x pre z c o hk hs hB hw hc1 hc
    have inner : ∀ (R3 R1 : List Nat) (m : Nat) (z : xS) (c : Nat) (o : Option Value), lst (tM T) x = R1 ++ m :: R3 → keR s z → refS z T (bare A (pre ++ m :: (R1 ++ R3))) → (one ≠ 0 → c = 0) → c + ((((m :: R3).flatMap (fun m => (pm (tM T) k (mnus x m)).map (fun t => m :: t))).map (fun t => pre ++ t)).filter (okR T A)).length < 2 ^ 30 → outB P d xs T A set one s z c o (((m :: R3).flatMap (fun m => (pm (tM T) k (mnus x m)).map (fun t => m :: t))).map (fun t => pre ++ t)) (pre ++ (lst (tM T) x).reverse) := by
      intro R3
      induction R3 with
      | nil =>
        intro R1 m z c o hx hs hB hc1 hc
        have hl := lst_mnus w2 hx
        have e : (([m]).flatMap (fun m => (pm (tM T) k (mnus x m)).map (fun t => m :: t))).map (fun t => pre ++ t) = (pm (tM T) k (mnus x m)).map (fun t => (pre ++ [m]) ++ t) := by
          simp
        rw [e] at hc ⊢
        have hk2 : (lst (tM T) (mnus x m)).length = k := by
          rw [hl]; rw [hx] at hk; simp at hk ⊢; omega
        have e2 : (pre ++ [m]) ++ lst (tM T) (mnus x m) = pre ++ m :: (R1 ++ []) := by rw [hl]; simp
        have e3 : pre ++ (lst (tM T) x).reverse = (pre ++ [m]) ++ (lst (tM T) (mnus x m)).reverse := by rw [hl, hx]; simp
        rw [e3]
        refine ih (mnus x m) (pre ++ [m]) z c o hk2 hs (by rw [e2]; exact hB) ?_ hc1 hc
        rw [e2]
        refine aWf_perm ?_ hw
        rw [hx]
        exact List.Perm.append_left pre (by simpa using List.perm_append_comm (l₁ := R1) (l₂ := [m]))
      | cons m' R4 ih3 =>
        intro R1 m z c o hx hs hB hc1 hc
        have hl := lst_mnus w2 hx
        have e : ((m :: m' :: R4).flatMap (fun m => (pm (tM T) k (mnus x m)).map (fun t => m :: t))).map (fun t => pre ++ t) = (pm (tM T) k (mnus x m)).map (fun t => (pre ++ [m]) ++ t) ++ ((m' :: R4).flatMap (fun m => (pm (tM T) k (mnus x m)).map (fun t => m :: t))).map (fun t => pre ++ t) := by
          rw [List.flatMap_cons, List.map_append]
          congr 1
          simp
        rw [e] at hc ⊢
        rw [List.filter_append, List.length_append] at hc
        have hk2 : (lst (tM T) (mnus x m)).length = k := by
          rw [hl]; rw [hx] at hk; simp at hk ⊢; omega
        have e2 : (pre ++ [m]) ++ lst (tM T) (mnus x m) = pre ++ m :: (R1 ++ m' :: R4) := by rw [hl]; simp
        have e3 : (pre ++ [m]) ++ (lst (tM T) (mnus x m)).reverse = pre ++ m :: (R4.reverse ++ m' :: R1.reverse) := by rw [hl]; simp
        have hp : (pre ++ lst (tM T) x).Perm (pre ++ m :: (R1 ++ m' :: R4)) := by
          rw [hx]
          exact List.Perm.append_left pre List.perm_middle
        have hw2 := aWf_perm (A := A) hp hw
        have hp2 : (pre ++ lst (tM T) x).Perm (pre ++ m :: (R4.reverse ++ m' :: R1.reverse)) := by
          refine hp.trans (List.Perm.append_left pre (List.Perm.cons m ?_))
          have : R4.reverse ++ m' :: R1.reverse = (R1 ++ m' :: R4).reverse := by simp
          rw [this]
          exact (List.reverse_perm _).symm
        have hw3 := aWf_perm (A := A) hp2 hw
        refine outB_app (ih (mnus x m) (pre ++ [m]) z c o hk2 hs (by rw [e2]; exact hB) (by rw [e2]; exact hw2) hc1 (by omega)) (fun z' o' g1 g2 g3 => ?_)
        rw [e3] at g3
        have hsrt := lst_sorted (tM T) x
        rw [hx] at hsrt
        obtain ⟨z2, k1, k2, k3⟩ := r_stepN (P := P) (d := d) (xs := xs) (set := set) (one := one) (c := c + (((pm (tM T) k (mnus x m)).map (fun t => (pre ++ [m]) ++ t)).filter (okR T A)).length) (o := o') (by omega) (fun a ha => by have := hw3.1 a ha; omega) hw3.2.2 hsrt g3
        refine ⟨z2, g2.tr (k2.keR (by omega) (by omega)), k1, ?_⟩
        refine ih3 (R1 ++ [m]) m' z2 _ o' (by rw [hx]; simp) (g2.tr (k2.keR (by omega) (by omega))) ?_ ?_ ?_
        · rw [show R1 ++ [m] ++ R4 = R1 ++ m :: R4 by simp]; exact k3
        · intro h1; rw [hc1 h1, g1 h1]; rfl
        · omega
    cases hx : lst (tM T) x with
    | nil => rw [hx] at hk; cases hk
    | cons m R3 =>
      have := inner R3 [] m z c o hx hs (by rw [hx] at hB; exact hB) hc1 (by rw [pm, hx] at hc; exact hc)
      rw [hx] at this
      rw [pm, hx]
      exact this
end ENUM
