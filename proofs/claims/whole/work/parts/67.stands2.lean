/-! the reference: in which orders a set can stand (own work) -/
def bare (A : As) (σ : List Nat) : As := (σ, 0, A.2.2.1, A.2.2.2)
theorem okR_b (T : Tw) (A : As) (σ : List Nat) : okR T A σ = (lawN T 0 σ && (frst (fun p => aWil T (bare A σ) p) 0 (tP T)).isNone) := rfl
section STREF
variable {P : Nat → List Value → Option Value} {d : Nat} {xs : List Int32} {T : Tw} {A : As}
theorem r_lawL (hd : 1 ≤ d) (hW : tWf T) {s : xS} (hT : refT s 111 0 T) {B : As} (hB : refS s T B) (hw : aWf T B) {q : Option Value × xH} : ∀ (t pre : List Nat) (dn : Int32), B.1 = pre ++ t → (x_R (x_ev g_M P d) 282 (4, [some (.ref 110), some (.int dn), some (.int (nI pre.length))], [], mkH xs s) q ↔ q = (some (.int (b01 (lawN T dn t))), mkH xs s)) := by
  have h8 := hw.2.2
  have w2 := hW.2.1
  obtain ⟨a1, a2, a3, a4, a5⟩ := hB
  intro t
  induction t with
  | nil =>
    intro pre dn h
    rw [List.append_nil] at h
    rw [← h]
    simp only [w_Ref_isLawful_0, w_Ref_isLawful_9, w_Ref_isLawful_12, w_Ref_isLawful_17, w_Ref_isLawful_19, w_Ref_isLawful_23, w_Ref_isLawful_30, w_Ref_isLawful_32, w_Ref_isLawful_38, w_Ref_isLawful_40, w_Ref_isLawful_49, w_Ref_isLawful_4 (l2 := nI B.1.length), c_110, f_110_0, p_110_0, f_110_1, f_110_2, f_110_3, f_110_4, f_110_5, p_110_5, f_110_6, f_110_7, p_110_7, f_110_8, p_110_8, f_110_9, p_110_9, f_110_10, p_110_10, f_110_11, p_110_11, f_110_12, p_110_12, f_110_13, p_110_13, f_110_14, f_110_15, f_110_16, p_110_16, f_110_17, f_110_18, p_110_18, f_110_19, p_110_19, f_110_20, f_110_21, p_110_21, f_110_22, p_110_22, f_110_23, f_110_24, f_110_25, p_110_25, f_110_26, f_110_27, f_110_28, f_110_29, f_110_30, f_110_31, p_110_31, f_110_32, p_110_32, f_110_33, p_110_33, f_110_34, p_110_34, f_110_35, f_110_36, f_110_37, f_110_38, Option.some.injEq, exists_eq_left', exists_eq_left, Option.toList_some, Option.toList_none, List.cons_append, List.nil_append, true_and, and_true, Option.map_some, Option.map_none, a1, show nI B.1.length ≤ nI B.1.length from Int32.le_refl _, if_true, x_nb1, lawN, b01]
    exact eq_comm
  | cons m t ih =>
    intro pre dn h
    have hl : pre.length < B.1.length := by rw [h]; simp
    have hlo : lo B.1 pre.length = m := by rw [h, lo_ap2, if_neg (by omega), Nat.sub_self, lo_c0]
    have hm : m < tM T := hw.1 m (by rw [h]; simp)
    have hx : x_rd (s.1 117) 8 (nI pre.length) = some (nI m) := by rw [x_rd_nI (by omega) (by omega), a2 _ hl, hlo]
    have hc : ¬ nI B.1.length ≤ nI pre.length := nI_ge hl (by omega)
    have ih' := ih (pre ++ [m]) (dn ||| on1 m) (by rw [h]; simp)
    rw [List.length_append, List.length_singleton] at ih'
    rw [lawN]
    by_cases h0 : (tOn T m &&& (dn ^^^ (-1))) = 0
    · simp only [w_Ref_isLawful_0, w_Ref_isLawful_9, w_Ref_isLawful_12, w_Ref_isLawful_17, w_Ref_isLawful_19, w_Ref_isLawful_23, w_Ref_isLawful_30, w_Ref_isLawful_32, w_Ref_isLawful_38, w_Ref_isLawful_40, w_Ref_isLawful_49, w_Ref_isLawful_4 (l2 := nI pre.length), c_110, f_110_0, p_110_0, f_110_1, f_110_2, f_110_3, f_110_4, f_110_5, p_110_5, f_110_6, f_110_7, p_110_7, f_110_8, p_110_8, f_110_9, p_110_9, f_110_10, p_110_10, f_110_11, p_110_11, f_110_12, p_110_12, f_110_13, p_110_13, f_110_14, f_110_15, f_110_16, p_110_16, f_110_17, f_110_18, p_110_18, f_110_19, p_110_19, f_110_20, f_110_21, p_110_21, f_110_22, p_110_22, f_110_23, f_110_24, f_110_25, p_110_25, f_110_26, f_110_27, f_110_28, f_110_29, f_110_30, f_110_31, p_110_31, f_110_32, p_110_32, f_110_33, p_110_33, f_110_34, p_110_34, f_110_35, f_110_36, f_110_37, f_110_38, e_117, i_117, Option.some.injEq, exists_eq_left', exists_eq_left, Option.toList_some, Option.toList_none, List.cons_append, List.nil_append, true_and, and_true, Option.map_some, Option.map_none, a1, hc, if_false, hx, r_of4 (d := d) (by omega) hT hW hm, h0, if_true, nI_1, decide_true, Bool.true_and]
      exact ih'
    · simp only [w_Ref_isLawful_0, w_Ref_isLawful_9, w_Ref_isLawful_12, w_Ref_isLawful_17, w_Ref_isLawful_19, w_Ref_isLawful_23, w_Ref_isLawful_30, w_Ref_isLawful_32, w_Ref_isLawful_38, w_Ref_isLawful_40, w_Ref_isLawful_49, w_Ref_isLawful_4 (l2 := nI pre.length), c_110, f_110_0, p_110_0, f_110_1, f_110_2, f_110_3, f_110_4, f_110_5, p_110_5, f_110_6, f_110_7, p_110_7, f_110_8, p_110_8, f_110_9, p_110_9, f_110_10, p_110_10, f_110_11, p_110_11, f_110_12, p_110_12, f_110_13, p_110_13, f_110_14, f_110_15, f_110_16, p_110_16, f_110_17, f_110_18, p_110_18, f_110_19, p_110_19, f_110_20, f_110_21, p_110_21, f_110_22, p_110_22, f_110_23, f_110_24, f_110_25, p_110_25, f_110_26, f_110_27, f_110_28, f_110_29, f_110_30, f_110_31, p_110_31, f_110_32, p_110_32, f_110_33, p_110_33, f_110_34, p_110_34, f_110_35, f_110_36, f_110_37, f_110_38, e_117, i_117, Option.some.injEq, exists_eq_left', exists_eq_left, Option.toList_some, Option.toList_none, List.cons_append, List.nil_append, true_and, and_true, Option.map_some, Option.map_none, a1, hc, if_false, hx, r_of4 (d := d) (by omega) hT hW hm, h0, decide_false, Bool.false_and, b01, Bool.false_eq_true, x_nb0]
      exact eq_comm
theorem r_isLawful (hd : 2 ≤ d) (hW : tWf T) {s : xS} (hT : refT s 111 0 T) {B : As} (hB : refS s T B) (hw : aWf T B) {q : Option Value × xH} : x_ev g_M P d 282 [.ref 110] (mkH xs s) q ↔ q = (some (.int (b01 (lawN T 0 B.1))), mkH xs s) := by
  obtain ⟨d, rfl⟩ := x_1 (d := d) (by omega)
  rw [x_ev_in rfl (Nat.le_of_ble_eq_true rfl)]
  rw [show x_ent (x_nL g_M 282) [.ref 110] = [some (.ref 110), none, none] from rfl]
  rw [w_Ref_isLawful_0]
  exact r_lawL (by omega) hW hT hB hw B.1 [] 0 rfl
theorem r_isRest (hd : 8 ≤ d) (hW : tWf T) {s : xS} (hT : refT s 111 0 T) {B : As} (hB : refS s T B) (hO : aOk T B) {q : Option Value × xH} : x_ev g_M P d 281 [.ref 110] (mkH xs s) q ↔ q = (some (.int (b01 (frst (fun p => aWil T B p) 0 (tP T)).isNone)), mkH xs s) := by
  have w1 := hW.1
  obtain ⟨d, rfl⟩ := x_1 (d := d) (by omega)
  rw [x_ev_in rfl (Nat.le_of_ble_eq_true rfl)]
  rw [show x_ent (x_nL g_M 281) [.ref 110] = [some (.ref 110), none] from rfl]
  rw [w_Ref_isRest_0]
  have key := x_fstI (C := x_ev g_M P d) (k := 281) (r := q) (N := tP T) (H := mkH xs s) (f := fun m => aWil T B m) (e := 1) (g := fun _ => 0) (F := fun m => (2, [some (.ref 110), some (.int (nI m))], [], mkH xs s)) (fun m hm hf => by
    have hc : ¬ nI (tP T) ≤ nI m := nI_ge hm (by omega)
    simp only [w_Ref_isRest_0, w_Ref_isRest_7, w_Ref_isRest_9, w_Ref_isRest_12, w_Ref_isRest_17, w_Ref_isRest_20, w_Ref_isRest_22, w_Ref_isRest_28, w_Ref_isRest_2 (l1 := nI m), c_110, f_110_0, p_110_0, f_110_1, f_110_2, f_110_3, f_110_4, f_110_5, p_110_5, f_110_6, f_110_7, p_110_7, f_110_8, p_110_8, f_110_9, p_110_9, f_110_10, p_110_10, f_110_11, p_110_11, f_110_12, p_110_12, f_110_13, p_110_13, f_110_14, f_110_15, f_110_16, p_110_16, f_110_17, f_110_18, p_110_18, f_110_19, p_110_19, f_110_20, f_110_21, p_110_21, f_110_22, p_110_22, f_110_23, f_110_24, f_110_25, p_110_25, f_110_26, f_110_27, f_110_28, f_110_29, f_110_30, f_110_31, p_110_31, f_110_32, p_110_32, f_110_33, p_110_33, f_110_34, p_110_34, f_110_35, f_110_36, f_110_37, f_110_38, e_111, i_111, Option.some.injEq, exists_eq_left', exists_eq_left, Option.toList_some, Option.toList_none, List.cons_append, List.nil_append, true_and, and_true, Option.map_some, Option.map_none, x_w3 hT, hc, if_false, r_wishes (d := d) (by omega) hT hW hB hO hm, hf, b01, Bool.false_eq_true, if_true, nI_1]) (fun m hm hf => by
    have hc : ¬ nI (tP T) ≤ nI m := nI_ge hm (by omega)
    simp only [w_Ref_isRest_0, w_Ref_isRest_7, w_Ref_isRest_9, w_Ref_isRest_12, w_Ref_isRest_17, w_Ref_isRest_20, w_Ref_isRest_22, w_Ref_isRest_28, w_Ref_isRest_2 (l1 := nI m), c_110, f_110_0, p_110_0, f_110_1, f_110_2, f_110_3, f_110_4, f_110_5, p_110_5, f_110_6, f_110_7, p_110_7, f_110_8, p_110_8, f_110_9, p_110_9, f_110_10, p_110_10, f_110_11, p_110_11, f_110_12, p_110_12, f_110_13, p_110_13, f_110_14, f_110_15, f_110_16, p_110_16, f_110_17, f_110_18, p_110_18, f_110_19, p_110_19, f_110_20, f_110_21, p_110_21, f_110_22, p_110_22, f_110_23, f_110_24, f_110_25, p_110_25, f_110_26, f_110_27, f_110_28, f_110_29, f_110_30, f_110_31, p_110_31, f_110_32, p_110_32, f_110_33, p_110_33, f_110_34, p_110_34, f_110_35, f_110_36, f_110_37, f_110_38, e_111, i_111, Option.some.injEq, exists_eq_left', exists_eq_left, Option.toList_some, Option.toList_none, List.cons_append, List.nil_append, true_and, and_true, Option.map_some, Option.map_none, x_w3 hT, hc, if_false, r_wishes (d := d) (by omega) hT hW hB hO hm, hf, b01, if_true, show ¬ ((1 : Int32) = 0) by decide, x_nb0]
    exact eq_comm) (by
    simp only [w_Ref_isRest_0, w_Ref_isRest_7, w_Ref_isRest_9, w_Ref_isRest_12, w_Ref_isRest_17, w_Ref_isRest_20, w_Ref_isRest_22, w_Ref_isRest_28, w_Ref_isRest_2 (l1 := nI (tP T)), c_110, f_110_0, p_110_0, f_110_1, f_110_2, f_110_3, f_110_4, f_110_5, p_110_5, f_110_6, f_110_7, p_110_7, f_110_8, p_110_8, f_110_9, p_110_9, f_110_10, p_110_10, f_110_11, p_110_11, f_110_12, p_110_12, f_110_13, p_110_13, f_110_14, f_110_15, f_110_16, p_110_16, f_110_17, f_110_18, p_110_18, f_110_19, p_110_19, f_110_20, f_110_21, p_110_21, f_110_22, p_110_22, f_110_23, f_110_24, f_110_25, p_110_25, f_110_26, f_110_27, f_110_28, f_110_29, f_110_30, f_110_31, p_110_31, f_110_32, p_110_32, f_110_33, p_110_33, f_110_34, p_110_34, f_110_35, f_110_36, f_110_37, f_110_38, e_111, i_111, Option.some.injEq, exists_eq_left', exists_eq_left, Option.toList_some, Option.toList_none, List.cons_append, List.nil_append, true_and, and_true, Option.map_some, Option.map_none, x_w3 hT, show nI (tP T) ≤ nI (tP T) from Int32.le_refl _, if_true, x_nb1]
    exact eq_comm)
  refine key.trans ?_
  unfold b01
  cases frst (fun p => aWil T B p) 0 (tP T) <;> exact Iff.rfl
theorem r_beBare (hd : 7 ≤ d) {s : xS} {acts : List Int32} (hR : refW s T acts) (hK : tOk T) (hr : aRun T (aBegin T) acts = some A) : ∃ s', x_ev g_M P d 280 [.ref 110] (mkH xs s) (none, mkH xs s') ∧ offR s s' ∧ refS s' T (bare A []) := by
  obtain ⟨d, rfl⟩ := x_1 (d := d) (by omega)
  obtain ⟨s1, q1, q2, q3⟩ := r_asItIs (P := P) (d := d) (xs := xs) (by omega) hR hK hr
  obtain ⟨a1, a2, a3, a4, a5⟩ := q3
  refine ⟨s_p (s_p s1 110 16 0) 110 19 0, ?_, q2.tr ⟨fun q h1 h2 h3 => ?_, fun k h1 h2 h3 => ?_, rfl⟩, ?_⟩
  · rw [x_ev_in rfl (Nat.le_of_ble_eq_true rfl)]
    rw [show x_ent (x_nL g_M 280) [.ref 110] = [some (.ref 110)] from rfl]
    simp only [w_Ref_beBare_0, w_Ref_beBare_4, w_Ref_beBare_9, w_Ref_beBare_14, c_110, f_110_0, p_110_0, f_110_1, f_110_2, f_110_3, f_110_4, f_110_5, p_110_5, f_110_6, f_110_7, p_110_7, f_110_8, p_110_8, f_110_9, p_110_9, f_110_10, p_110_10, f_110_11, p_110_11, f_110_12, p_110_12, f_110_13, p_110_13, f_110_14, f_110_15, f_110_16, p_110_16, f_110_17, f_110_18, p_110_18, f_110_19, p_110_19, f_110_20, f_110_21, p_110_21, f_110_22, p_110_22, f_110_23, f_110_24, f_110_25, p_110_25, f_110_26, f_110_27, f_110_28, f_110_29, f_110_30, f_110_31, p_110_31, f_110_32, p_110_32, f_110_33, p_110_33, f_110_34, p_110_34, f_110_35, f_110_36, f_110_37, f_110_38, Option.some.injEq, exists_eq_left', exists_eq_left, Option.toList_some, Option.toList_none, List.cons_append, List.nil_append, true_and, and_true, Option.map_some, Option.map_none, x_ev_iff q1]
  · funext k
    simp [s_p, h1]
  · simp [s_p, h1, h3]
  · refine ⟨?_, fun i hi => absurd hi (Nat.not_lt_zero _), fun j hj => ?_, ?_, ?_⟩
    · simp [s_p, bare]; rfl
    · simp [s_p, a3 j hj, bare]
    · simp [s_p, a4, bare]
    · simp [s_p, bare]
end STREF
