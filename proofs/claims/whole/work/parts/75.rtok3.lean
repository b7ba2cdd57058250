/-! THE READER of the reference: is, takes, needs, number, told; gains on both sides (own work) -/
def tkT (b : Nat → Int32) (n w : Nat) (t : Tk) : Bool × Tk := if decide (t.2 = none) && isW b n w t.1 then (true, nxT b n t.1, t.2) else (false, t)
def tkG (b : Nat → Int32) (n : Nat) (t : Tk) : Int32 × Tk := if decide (t.2 = none) && isW b n 8 t.1 then (-(tkN b n 99 (-1) (nxT b n t.1, t.2)).1, (tkN b n 99 (-1) (nxT b n t.1, t.2)).2) else tkN b n 99 (-1) (tkW b n 9 t)
theorem tkT_ok {b : Nat → Int32} {n w : Nat} {t : Tk} (h : tkOk n t) : tkOk n (tkT b n w t).2 := by
  unfold tkT
  split
  · exact ⟨(nxT_le h.1).2, h.2⟩
  · exact h
theorem tkG_ok {b : Nat → Int32} {n : Nat} {t : Tk} (hn : n ≤ 900) (h : tkOk n t) : tkOk n (tkG b n t).2 := by
  unfold tkG
  split
  · exact tkN_ok hn ⟨(nxT_le h.1).2, h.2⟩
  · exact tkN_ok hn (tkW_ok hn h)
theorem tkN_s {b : Nat → Int32} {n : Nat} {x u : Int32} {t : Tk} (h : t.2 ≠ none) : tkN b n x u t = (0, t) := by unfold tkN; rw [if_neg h]
theorem tkW_s {b : Nat → Int32} {n w : Nat} {t : Tk} (h : t.2 ≠ none) : tkW b n w t = t := by unfold tkW; rw [if_neg h]
theorem isW_0 {b : Nat → Int32} {n w i : Nat} (h : isW b n w i = true) (hw : 0 < (wdL w).length) : b i = nI (lo (wdL w) 0) := by
  unfold isW at h
  rw [Bool.and_eq_true, Bool.and_eq_true] at h
  have h3 := h.2.2
  cases hf : frst (fun j => !decide (b (i + j) = nI (lo (wdL w) j))) 0 (wdL w).length with
  | some m => rw [hf] at h3; cases h3
  | none =>
    have := frst_none hf 0 (Nat.zero_le _) (by omega)
    simpa using this
theorem isW_89 {b : Nat → Int32} {n i : Nat} (h : isW b n 8 i = true) : isW b n 9 i = false := by
  cases h9 : isW b n 9 i
  · rfl
  · have a := isW_0 h (by decide)
    have c := isW_0 h9 (by decide)
    rw [a] at c
    exact absurd c (by decide)
section RTOK3
variable {P : Nat → List Value → Option Value} {d : Nat} {xs : List Int32} {b : Nat → Int32} {n : Nat}
theorem r_is (hd : 6 ≤ d) (hP : wdP P) {s : xS} (ht : tpR s b n) {t : Tk} (hi : tkOk n t) (h : tkR s b n t) {w : Nat} (hw : w < 13) {q : Option Value × xH} : x_ev g_M P d 212 [.ref 110, .ref (1000000 + w)] (mkH xs s) q ↔ q = (some (.int (b01 (decide (t.2 = none) && isW b n w t.1))), mkH xs s) := by
  have h0 := h
  obtain ⟨a1, a2, a3, a4, a5, a6, a7⟩ := h
  obtain ⟨h9, hb, -⟩ := ht
  obtain ⟨p1, p2⟩ := hP w hw
  have hlim : x_lim ≤ 1000000 + w := Nat.le_add_right _ _
  have hen := enT_le (b := b) hi.1
  have hln := wd_len w hw
  have hk4 := kdT_4 b n t.1
  obtain ⟨d, rfl⟩ := x_1 (d := d) (by omega)
  rw [x_ev_in rfl (Nat.le_of_ble_eq_true rfl)]
  rw [show x_ent (x_nL g_M 212) [.ref 110, .ref (1000000 + w)] = [some (.ref 110), some (.ref (1000000 + w)), none, none] from rfl]
  have c1 : ∀ (h : xH) (r : Option Value × xH), x_ev g_M P d 340 [.ref (1000000 + w)] h r ↔ r = (some (.int (nI (wdL w).length)), h) := fun h r => x_ev_P (by omega) rfl p1
  have hs : nI (enT b n t.1) - nI t.1 = nI (enT b n t.1 - t.1) := pk_sub hen.1
  have no : ∀ (j : Nat), x_R (x_ev g_M P d) 212 (39, [some (.ref 110), some (.ref (1000000 + w)), some (.int 0), some (.int (nI j))], [], mkH xs s) q ↔ q = (some (.int 0), mkH xs s) := fun j => by
    by_cases hj : nI (wdL w).length ≤ nI j
    · simp only [w_Ref_is_39 (l3 := nI j) hlim, w_Ref_is_44, w_Ref_is_82, Option.some.injEq, exists_eq_left', exists_eq_left, Option.toList_some, Option.toList_none, List.cons_append, List.nil_append, true_and, and_true, Option.map_some, Option.map_none, c1, hj, if_true, x_nb0]
      exact eq_comm
    · simp only [w_Ref_is_39 (l3 := nI j) hlim, w_Ref_is_44, w_Ref_is_47, w_Ref_is_82, Option.some.injEq, exists_eq_left', exists_eq_left, Option.toList_some, Option.toList_none, List.cons_append, List.nil_append, true_and, and_true, Option.map_some, Option.map_none, c1, hj, if_true, if_false, x_nb0]
      exact eq_comm
  unfold isW
  by_cases hn : t.2 = none
  · rw [decide_eq_true hn, Bool.true_and]
    by_cases h1 : kdT b n t.1 = 1
    · have k1 : nI (kdT b n t.1) = 1 := by rw [h1]; rfl
      by_cases h2 : enT b n t.1 - t.1 = (wdL w).length
      · rw [decide_eq_true h1, decide_eq_true h2, Bool.true_and, Bool.true_and]
        simp only [w_Ref_is_0, w_Ref_is_4, w_Ref_is_7, w_Ref_is_11, w_Ref_is_15, w_Ref_is_19, w_Ref_is_23 hlim, w_Ref_is_28, w_Ref_is_31, w_Ref_is_36, c_110, f_110_0, p_110_0, f_110_1, f_110_2, f_110_3, f_110_4, f_110_5, p_110_5, f_110_6, f_110_7, p_110_7, f_110_8, p_110_8, f_110_9, p_110_9, f_110_10, p_110_10, f_110_11, p_110_11, f_110_12, p_110_12, f_110_13, p_110_13, f_110_14, f_110_15, f_110_16, p_110_16, f_110_17, f_110_18, p_110_18, f_110_19, p_110_19, f_110_20, f_110_21, p_110_21, f_110_22, p_110_22, f_110_23, f_110_24, f_110_25, p_110_25, f_110_26, f_110_27, f_110_28, f_110_29, f_110_30, f_110_31, p_110_31, f_110_32, p_110_32, f_110_33, p_110_33, f_110_34, p_110_34, f_110_35, f_110_36, f_110_37, f_110_38, Option.some.injEq, exists_eq_left', exists_eq_left, Option.toList_some, Option.toList_none, List.cons_append, List.nil_append, true_and, and_true, Option.map_some, Option.map_none, r_good (d := d) (by omega) hi.2 h0, hn, decide_true, b01, if_true, show ¬ ((1 : Int32) = 0) by decide, a2, a3, a4, k1, not_true_eq_false, if_false, c1, hs, h2]
        have key := x_fstI (C := x_ev g_M P d) (k := 212) (r := q) (N := (wdL w).length) (H := mkH xs s) (f := fun j => !decide (b (t.1 + j) = nI (lo (wdL w) j))) (e := 1) (g := fun _ => 0) (F := fun j => (39, [some (.ref 110), some (.ref (1000000 + w)), some (.int 1), some (.int (nI j))], [], mkH xs s)) (fun j hj hf => by
          have hc : ¬ nI (wdL w).length ≤ nI j := nI_ge (by omega) (by omega)
          have hx : x_rd (s.1 114) 900 (nI t.1 + nI j) = some (b (t.1 + j)) := by rw [nI_add, x_rd_nI (by omega) (by omega), hb _ (by omega)]
          have c2 : ∀ (h : xH) (r : Option Value × xH), x_ev g_M P d 341 [.ref (1000000 + w), .int (nI j)] h r ↔ r = (some (.int (nI (lo (wdL w) j))), h) := fun h r => x_ev_P (by omega) rfl (p2 j hj)
          have he : b (t.1 + j) = nI (lo (wdL w) j) := by simpa using hf
          simp only [w_Ref_is_39 (l3 := nI j) hlim, w_Ref_is_44, w_Ref_is_47, w_Ref_is_51, w_Ref_is_55, w_Ref_is_59, w_Ref_is_62 hlim, w_Ref_is_67, w_Ref_is_70, w_Ref_is_75, c_110, f_110_0, p_110_0, f_110_1, f_110_2, f_110_3, f_110_4, f_110_5, p_110_5, f_110_6, f_110_7, p_110_7, f_110_8, p_110_8, f_110_9, p_110_9, f_110_10, p_110_10, f_110_11, p_110_11, f_110_12, p_110_12, f_110_13, p_110_13, f_110_14, f_110_15, f_110_16, p_110_16, f_110_17, f_110_18, p_110_18, f_110_19, p_110_19, f_110_20, f_110_21, p_110_21, f_110_22, p_110_22, f_110_23, f_110_24, f_110_25, p_110_25, f_110_26, f_110_27, f_110_28, f_110_29, f_110_30, f_110_31, p_110_31, f_110_32, p_110_32, f_110_33, p_110_33, f_110_34, p_110_34, f_110_35, f_110_36, f_110_37, f_110_38, e_114, i_114, Option.some.injEq, exists_eq_left', exists_eq_left, Option.toList_some, Option.toList_none, List.cons_append, List.nil_append, true_and, and_true, Option.map_some, Option.map_none, c1, hc, if_false, show ¬ ((1 : Int32) = 0) by decide, a3, hx, c2, he, not_true_eq_false, nI_1]) (fun j hj hf => by
          have hc : ¬ nI (wdL w).length ≤ nI j := nI_ge (by omega) (by omega)
          have hx : x_rd (s.1 114) 900 (nI t.1 + nI j) = some (b (t.1 + j)) := by rw [nI_add, x_rd_nI (by omega) (by omega), hb _ (by omega)]
          have c2 : ∀ (h : xH) (r : Option Value × xH), x_ev g_M P d 341 [.ref (1000000 + w), .int (nI j)] h r ↔ r = (some (.int (nI (lo (wdL w) j))), h) := fun h r => x_ev_P (by omega) rfl (p2 j hj)
          have he : ¬ b (t.1 + j) = nI (lo (wdL w) j) := by simpa using hf
          simp only [w_Ref_is_39 (l2 := 1) (l3 := nI j) hlim, w_Ref_is_44, w_Ref_is_47 (l2 := 1), w_Ref_is_51, w_Ref_is_55, w_Ref_is_59, w_Ref_is_62 hlim, w_Ref_is_67, w_Ref_is_74, w_Ref_is_75, c_110, f_110_0, p_110_0, f_110_1, f_110_2, f_110_3, f_110_4, f_110_5, p_110_5, f_110_6, f_110_7, p_110_7, f_110_8, p_110_8, f_110_9, p_110_9, f_110_10, p_110_10, f_110_11, p_110_11, f_110_12, p_110_12, f_110_13, p_110_13, f_110_14, f_110_15, f_110_16, p_110_16, f_110_17, f_110_18, p_110_18, f_110_19, p_110_19, f_110_20, f_110_21, p_110_21, f_110_22, p_110_22, f_110_23, f_110_24, f_110_25, p_110_25, f_110_26, f_110_27, f_110_28, f_110_29, f_110_30, f_110_31, p_110_31, f_110_32, p_110_32, f_110_33, p_110_33, f_110_34, p_110_34, f_110_35, f_110_36, f_110_37, f_110_38, e_114, i_114, Option.some.injEq, exists_eq_left', exists_eq_left, Option.toList_some, Option.toList_none, List.cons_append, List.nil_append, true_and, and_true, Option.map_some, Option.map_none, c1, hc, if_false, show ¬ ((1 : Int32) = 0) by decide, a3, hx, c2, he, not_false_eq_true, if_true, nI_1]
          exact no (j + 1)) (by
          simp only [w_Ref_is_39 (l3 := nI (wdL w).length) hlim, w_Ref_is_44, w_Ref_is_82, c_110, f_110_0, p_110_0, f_110_1, f_110_2, f_110_3, f_110_4, f_110_5, p_110_5, f_110_6, f_110_7, p_110_7, f_110_8, p_110_8, f_110_9, p_110_9, f_110_10, p_110_10, f_110_11, p_110_11, f_110_12, p_110_12, f_110_13, p_110_13, f_110_14, f_110_15, f_110_16, p_110_16, f_110_17, f_110_18, p_110_18, f_110_19, p_110_19, f_110_20, f_110_21, p_110_21, f_110_22, p_110_22, f_110_23, f_110_24, f_110_25, p_110_25, f_110_26, f_110_27, f_110_28, f_110_29, f_110_30, f_110_31, p_110_31, f_110_32, p_110_32, f_110_33, p_110_33, f_110_34, p_110_34, f_110_35, f_110_36, f_110_37, f_110_38, Option.some.injEq, exists_eq_left', exists_eq_left, Option.toList_some, Option.toList_none, List.cons_append, List.nil_append, true_and, and_true, Option.map_some, Option.map_none, c1, show nI (wdL w).length ≤ nI (wdL w).length from Int32.le_refl _, if_true, x_nb1]
          exact eq_comm)
        refine key.trans ?_
        cases frst (fun j => !decide (b (t.1 + j) = nI (lo (wdL w) j))) 0 (wdL w).length <;> exact Iff.rfl
      · have h2' : ¬ nI (enT b n t.1 - t.1) = nI (wdL w).length := fun z => h2 ((nI_eq (by omega) (by omega)).mp z)
        rw [decide_eq_true h1, decide_eq_false h2, Bool.true_and, Bool.false_and]
        simp only [w_Ref_is_0, w_Ref_is_4, w_Ref_is_7, w_Ref_is_11, w_Ref_is_15, w_Ref_is_19, w_Ref_is_23 hlim, w_Ref_is_28, w_Ref_is_35, w_Ref_is_36, c_110, f_110_0, p_110_0, f_110_1, f_110_2, f_110_3, f_110_4, f_110_5, p_110_5, f_110_6, f_110_7, p_110_7, f_110_8, p_110_8, f_110_9, p_110_9, f_110_10, p_110_10, f_110_11, p_110_11, f_110_12, p_110_12, f_110_13, p_110_13, f_110_14, f_110_15, f_110_16, p_110_16, f_110_17, f_110_18, p_110_18, f_110_19, p_110_19, f_110_20, f_110_21, p_110_21, f_110_22, p_110_22, f_110_23, f_110_24, f_110_25, p_110_25, f_110_26, f_110_27, f_110_28, f_110_29, f_110_30, f_110_31, p_110_31, f_110_32, p_110_32, f_110_33, p_110_33, f_110_34, p_110_34, f_110_35, f_110_36, f_110_37, f_110_38, Option.some.injEq, exists_eq_left', exists_eq_left, Option.toList_some, Option.toList_none, List.cons_append, List.nil_append, true_and, and_true, Option.map_some, Option.map_none, r_good (d := d) (by omega) hi.2 h0, hn, decide_true, b01, if_true, show ¬ ((1 : Int32) = 0) by decide, a2, a3, a4, k1, not_true_eq_false, not_false_eq_true, if_false, c1, hs, h2', Bool.false_eq_true]
        exact no 0
    · have k1 : ¬ nI (kdT b n t.1) = 1 := fun z => h1 ((nI_eq (b := 1) (by omega) (by omega)).mp z)
      rw [decide_eq_false h1, Bool.false_and]
      simp only [w_Ref_is_0, w_Ref_is_4, w_Ref_is_7, w_Ref_is_11, w_Ref_is_35, w_Ref_is_36, c_110, f_110_0, p_110_0, f_110_1, f_110_2, f_110_3, f_110_4, f_110_5, p_110_5, f_110_6, f_110_7, p_110_7, f_110_8, p_110_8, f_110_9, p_110_9, f_110_10, p_110_10, f_110_11, p_110_11, f_110_12, p_110_12, f_110_13, p_110_13, f_110_14, f_110_15, f_110_16, p_110_16, f_110_17, f_110_18, p_110_18, f_110_19, p_110_19, f_110_20, f_110_21, p_110_21, f_110_22, p_110_22, f_110_23, f_110_24, f_110_25, p_110_25, f_110_26, f_110_27, f_110_28, f_110_29, f_110_30, f_110_31, p_110_31, f_110_32, p_110_32, f_110_33, p_110_33, f_110_34, p_110_34, f_110_35, f_110_36, f_110_37, f_110_38, Option.some.injEq, exists_eq_left', exists_eq_left, Option.toList_some, Option.toList_none, List.cons_append, List.nil_append, true_and, and_true, Option.map_some, Option.map_none, r_good (d := d) (by omega) hi.2 h0, hn, decide_true, b01, if_true, show ¬ ((1 : Int32) = 0) by decide, a4, k1, not_false_eq_true, if_false, Bool.false_eq_true]
      exact no 0
  · rw [decide_eq_false hn, Bool.false_and]
    simp only [w_Ref_is_0, w_Ref_is_4, w_Ref_is_35, w_Ref_is_36, c_110, f_110_0, p_110_0, f_110_1, f_110_2, f_110_3, f_110_4, f_110_5, p_110_5, f_110_6, f_110_7, p_110_7, f_110_8, p_110_8, f_110_9, p_110_9, f_110_10, p_110_10, f_110_11, p_110_11, f_110_12, p_110_12, f_110_13, p_110_13, f_110_14, f_110_15, f_110_16, p_110_16, f_110_17, f_110_18, p_110_18, f_110_19, p_110_19, f_110_20, f_110_21, p_110_21, f_110_22, p_110_22, f_110_23, f_110_24, f_110_25, p_110_25, f_110_26, f_110_27, f_110_28, f_110_29, f_110_30, f_110_31, p_110_31, f_110_32, p_110_32, f_110_33, p_110_33, f_110_34, p_110_34, f_110_35, f_110_36, f_110_37, f_110_38, Option.some.injEq, exists_eq_left', exists_eq_left, Option.toList_some, Option.toList_none, List.cons_append, List.nil_append, true_and, and_true, Option.map_some, Option.map_none, r_good (d := d) (by omega) hi.2 h0, hn, decide_false, b01, Bool.false_eq_true, if_false, if_true]
    exact no 0
theorem r_takes (hd : 7 ≤ d) (hP : wdP P) {s : xS} (ht : tpR s b n) {t : Tk} (hi : tkOk n t) (h : tkR s b n t) {w : Nat} (hw : w < 13) : ∃ s', x_ev g_M P d 213 [.ref 110, .ref (1000000 + w)] (mkH xs s) (some (.int (b01 (tkT b n w t).1)), mkH xs s') ∧ offU s s' ∧ tkR s' b n (tkT b n w t).2 := by
  obtain ⟨d, rfl⟩ := x_1 (d := d) (by omega)
  unfold tkT
  by_cases hc : (decide (t.2 = none) && isW b n w t.1) = true
  · obtain ⟨s', q1, q2, q3⟩ := r_advance (P := P) (d := d) (xs := xs) (by omega) ht hi.1 h
    rw [if_pos hc]
    refine ⟨s', ?_, q2, q3⟩
    rw [x_ev_in rfl (Nat.le_of_ble_eq_true rfl)]
    rw [show x_ent (x_nL g_M 213) [.ref 110, .ref (1000000 + w)] = [some (.ref 110), some (.ref (1000000 + w)), none] from rfl]
    simp only [w_Ref_takes_0, w_Ref_takes_5, w_Ref_takes_10, w_Ref_takes_14, c_110, f_110_0, p_110_0, f_110_1, f_110_2, f_110_3, f_110_4, f_110_5, p_110_5, f_110_6, f_110_7, p_110_7, f_110_8, p_110_8, f_110_9, p_110_9, f_110_10, p_110_10, f_110_11, p_110_11, f_110_12, p_110_12, f_110_13, p_110_13, f_110_14, f_110_15, f_110_16, p_110_16, f_110_17, f_110_18, p_110_18, f_110_19, p_110_19, f_110_20, f_110_21, p_110_21, f_110_22, p_110_22, f_110_23, f_110_24, f_110_25, p_110_25, f_110_26, f_110_27, f_110_28, f_110_29, f_110_30, f_110_31, p_110_31, f_110_32, p_110_32, f_110_33, p_110_33, f_110_34, p_110_34, f_110_35, f_110_36, f_110_37, f_110_38, Option.some.injEq, exists_eq_left', exists_eq_left, Option.toList_some, Option.toList_none, List.cons_append, List.nil_append, true_and, and_true, Option.map_some, Option.map_none, r_is (d := d) (by omega) hP ht hi h hw, hc, b01, if_true, show ¬ ((1 : Int32) = 0) by decide, if_false, x_ev_iff q1, x_nb1]
  · rw [if_neg hc]
    refine ⟨s, ?_, offU.rf, h⟩
    rw [x_ev_in rfl (Nat.le_of_ble_eq_true rfl)]
    rw [show x_ent (x_nL g_M 213) [.ref 110, .ref (1000000 + w)] = [some (.ref 110), some (.ref (1000000 + w)), none] from rfl]
    simp only [w_Ref_takes_0, w_Ref_takes_5, w_Ref_takes_10, w_Ref_takes_14, c_110, f_110_0, p_110_0, f_110_1, f_110_2, f_110_3, f_110_4, f_110_5, p_110_5, f_110_6, f_110_7, p_110_7, f_110_8, p_110_8, f_110_9, p_110_9, f_110_10, p_110_10, f_110_11, p_110_11, f_110_12, p_110_12, f_110_13, p_110_13, f_110_14, f_110_15, f_110_16, p_110_16, f_110_17, f_110_18, p_110_18, f_110_19, p_110_19, f_110_20, f_110_21, p_110_21, f_110_22, p_110_22, f_110_23, f_110_24, f_110_25, p_110_25, f_110_26, f_110_27, f_110_28, f_110_29, f_110_30, f_110_31, p_110_31, f_110_32, p_110_32, f_110_33, p_110_33, f_110_34, p_110_34, f_110_35, f_110_36, f_110_37, f_110_38, Option.some.injEq, exists_eq_left', exists_eq_left, Option.toList_some, Option.toList_none, List.cons_append, List.nil_append, true_and, and_true, Option.map_some, Option.map_none, r_is (d := d) (by omega) hP ht hi h hw, hc, b01, Bool.false_eq_true, if_true, if_false, x_nb0]
theorem r_needs (hd : 8 ≤ d) (hP : wdP P) {s : xS} (ht : tpR s b n) {t : Tk} (hi : tkOk n t) (h : tkR s b n t) {w : Nat} (hw : w < 13) : ∃ s', x_ev g_M P d 214 [.ref 110, .ref (1000000 + w)] (mkH xs s) (none, mkH xs s') ∧ offU s s' ∧ tkR s' b n (tkW b n w t) := by
  obtain ⟨d, rfl⟩ := x_1 (d := d) (by omega)
  obtain ⟨s1, q1, q2, q3⟩ := r_takes (P := P) (d := d) (xs := xs) (by omega) hP ht hi h hw
  by_cases hc : (decide (t.2 = none) && isW b n w t.1) = true
  · have e1 : tkT b n w t = (true, nxT b n t.1, t.2) := by unfold tkT; rw [if_pos hc]
    rw [Bool.and_eq_true, decide_eq_true_eq] at hc
    have e2 : tkW b n w t = (nxT b n t.1, t.2) := by unfold tkW; rw [if_pos hc.1, if_pos hc.2, hc.1]
    rw [e1] at q1 q3
    rw [e2]
    refine ⟨s1, ?_, q2, q3⟩
    rw [x_ev_in rfl (Nat.le_of_ble_eq_true rfl)]
    rw [show x_ent (x_nL g_M 214) [.ref 110, .ref (1000000 + w)] = [some (.ref 110), some (.ref (1000000 + w))] from rfl]
    simp only [w_Ref_needs_0, w_Ref_needs_5, w_Ref_needs_8, w_Ref_needs_13, c_110, f_110_0, p_110_0, f_110_1, f_110_2, f_110_3, f_110_4, f_110_5, p_110_5, f_110_6, f_110_7, p_110_7, f_110_8, p_110_8, f_110_9, p_110_9, f_110_10, p_110_10, f_110_11, p_110_11, f_110_12, p_110_12, f_110_13, p_110_13, f_110_14, f_110_15, f_110_16, p_110_16, f_110_17, f_110_18, p_110_18, f_110_19, p_110_19, f_110_20, f_110_21, p_110_21, f_110_22, p_110_22, f_110_23, f_110_24, f_110_25, p_110_25, f_110_26, f_110_27, f_110_28, f_110_29, f_110_30, f_110_31, p_110_31, f_110_32, p_110_32, f_110_33, p_110_33, f_110_34, p_110_34, f_110_35, f_110_36, f_110_37, f_110_38, Option.some.injEq, exists_eq_left', exists_eq_left, Option.toList_some, Option.toList_none, List.cons_append, List.nil_append, true_and, and_true, Option.map_some, Option.map_none, x_ev_iff q1, b01, if_true, show ¬ ((1 : Int32) = 0) by decide, not_false_eq_true]
  · have e1 : tkT b n w t = (false, t) := by unfold tkT; rw [if_neg hc]
    rw [e1] at q1 q3
    have q3 : tkR s1 b n t := q3
    obtain ⟨s2, k1, k2, k3⟩ := r_errs (P := P) (d := d) (xs := xs) (by omega) hi.2 q3 1
    have e2 : tkW b n w t = (t.1, errF 1 t.1 t.2) := by
      unfold tkW
      by_cases hn : t.2 = none
      · have hw1 : ¬ isW b n w t.1 = true := fun z => hc (by rw [z, decide_eq_true hn]; rfl)
        rw [if_pos hn, if_neg hw1, hn]; rfl
      · rw [if_neg hn]
        obtain ⟨i, f⟩ := t
        cases f with
        | none => exact absurd rfl hn
        | some e => rfl
    rw [e2]
    refine ⟨s2, ?_, q2.tr k2, k3⟩
    rw [show nI 1 = 1 from rfl] at k1
    rw [x_ev_in rfl (Nat.le_of_ble_eq_true rfl)]
    rw [show x_ent (x_nL g_M 214) [.ref 110, .ref (1000000 + w)] = [some (.ref 110), some (.ref (1000000 + w))] from rfl]
    simp only [w_Ref_needs_0, w_Ref_needs_5, w_Ref_needs_8, w_Ref_needs_13, c_110, f_110_0, p_110_0, f_110_1, f_110_2, f_110_3, f_110_4, f_110_5, p_110_5, f_110_6, f_110_7, p_110_7, f_110_8, p_110_8, f_110_9, p_110_9, f_110_10, p_110_10, f_110_11, p_110_11, f_110_12, p_110_12, f_110_13, p_110_13, f_110_14, f_110_15, f_110_16, p_110_16, f_110_17, f_110_18, p_110_18, f_110_19, p_110_19, f_110_20, f_110_21, p_110_21, f_110_22, p_110_22, f_110_23, f_110_24, f_110_25, p_110_25, f_110_26, f_110_27, f_110_28, f_110_29, f_110_30, f_110_31, p_110_31, f_110_32, p_110_32, f_110_33, p_110_33, f_110_34, p_110_34, f_110_35, f_110_36, f_110_37, f_110_38, Option.some.injEq, exists_eq_left', exists_eq_left, Option.toList_some, Option.toList_none, List.cons_append, List.nil_append, true_and, and_true, Option.map_some, Option.map_none, x_ev_iff q1, x_ev_iff k1, b01, Bool.false_eq_true, if_false, not_true_eq_false]
theorem vT_lt {i : Nat} {x : Int32} (hx : x ≤ 100) (hk : kdT b n i = 2) : x < nI (vR b n i) ↔ x < nI (vT b n i) := by
  obtain ⟨e1, e2⟩ := vT_R hk
  rw [e1]
  rw [Int32.le_iff_toInt_le, show (100 : Int32).toInt = 100 from rfl] at hx
  rw [Int32.lt_iff_toInt_lt, Int32.lt_iff_toInt_lt, nI_toInt (by omega), nI_toInt (by omega)]
  omega
theorem vT_eq {i : Nat} {x : Int32} (hx : x ≤ 100) (hk : kdT b n i = 2) (h : ¬ x < nI (vT b n i)) : nI (vR b n i) = nI (vT b n i) := by
  obtain ⟨e1, e2⟩ := vT_R hk
  rw [e1] at h ⊢
  rw [Int32.le_iff_toInt_le, show (100 : Int32).toInt = 100 from rfl] at hx
  rw [Int32.lt_iff_toInt_lt, nI_toInt (by omega)] at h
  congr 1
  omega
theorem nI_m1 {v : Nat} (h : v < 2 ^ 31) : ¬ nI v = -1 := fun z => by
  have := nI_toInt h
  rw [z] at this
  have e : (-1 : Int32).toInt = -1 := rfl
  omega
theorem r_number (hd : 3 ≤ d) {s : xS} (ht : tpR s b n) {t : Tk} (hi : tkOk n t) (h : tkR s b n t) {x : Int32} (hx : x ≤ 100) : ∃ s', x_ev g_M P d 215 [.ref 110, .int 0, .int x] (mkH xs s) (some (.int (tkN b n x (-1) t).1), mkH xs s') ∧ offU s s' ∧ tkR s' b n (tkN b n x (-1) t).2 := by
  obtain ⟨d, rfl⟩ := x_1 (d := d) (by omega)
  have h0 := h
  obtain ⟨a1, a2, a3, a4, a5, a6, a7⟩ := h
  have hk4 := kdT_4 b n t.1
  by_cases hn : t.2 = none
  · by_cases hk : kdT b n t.1 = 2
    · have k2 : nI (kdT b n t.1) = 2 := by rw [hk]; rfl
      have hv := a5 hk
      obtain ⟨e1, e2⟩ := vT_R hk
      have i0 : ¬ (nI (vR b n t.1)).toInt64 < Int32.toInt64 0 := by rw [w_lt]; exact nI_pos (by omega)
      by_cases hc : x < nI (vT b n t.1)
      · have hc' : x < nI (vR b n t.1) := (vT_lt hx hk).mpr hc
        obtain ⟨s2, k1, k2', k3⟩ := r_errs (P := P) (d := d) (xs := xs) (by omega) hi.2 h0 2
        have e3 : tkN b n x (-1) t = (0, t.1, some (2, t.1)) := by unfold tkN; rw [if_pos hn, if_pos hk, if_pos (Or.inl hc)]
        rw [hn] at k3
        have k3 : tkR s2 b n (t.1, some (2, t.1)) := k3
        have hf2 : fOk (some (2, t.1)) := fOk_s (by omega) (by omega) (by have := hi.1; have := ht.1; omega)
        rw [e3]
        refine ⟨s2, ?_, k2', k3⟩
        rw [show nI 2 = 2 from rfl] at k1
        rw [x_ev_in rfl (Nat.le_of_ble_eq_true rfl)]
        rw [show x_ent (x_nL g_M 215) [.ref 110, .int 0, .int x] = [some (.ref 110), some (.int 0), some (.int x), none] from rfl]
        simp only [w_Ref_number_0, w_Ref_number_4, w_Ref_number_7, w_Ref_number_11, w_Ref_number_15, w_Ref_number_20, w_Ref_number_24, w_Ref_number_27, w_Ref_number_31, w_Ref_number_39, w_Ref_number_42, w_Ref_number_47, w_Ref_number_51, w_Ref_number_54, w_Ref_number_56, w_Ref_number_60, w_Ref_number_65, c_110, f_110_0, p_110_0, f_110_1, f_110_2, f_110_3, f_110_4, f_110_5, p_110_5, f_110_6, f_110_7, p_110_7, f_110_8, p_110_8, f_110_9, p_110_9, f_110_10, p_110_10, f_110_11, p_110_11, f_110_12, p_110_12, f_110_13, p_110_13, f_110_14, f_110_15, f_110_16, p_110_16, f_110_17, f_110_18, p_110_18, f_110_19, p_110_19, f_110_20, f_110_21, p_110_21, f_110_22, p_110_22, f_110_23, f_110_24, f_110_25, p_110_25, f_110_26, f_110_27, f_110_28, f_110_29, f_110_30, f_110_31, p_110_31, f_110_32, p_110_32, f_110_33, p_110_33, f_110_34, p_110_34, f_110_35, f_110_36, f_110_37, f_110_38, Option.some.injEq, exists_eq_left', exists_eq_left, Option.toList_some, Option.toList_none, List.cons_append, List.nil_append, true_and, and_true, Option.map_some, Option.map_none, r_good (d := d) (by omega) hi.2 h0, r_good (d := d) (by omega) hf2 k3, hn, decide_true, b01, if_true, show ¬ ((1 : Int32) = 0) by decide, if_false, a4, k2, hv, r_in (d := d) (by omega), i0, w_lt, hc', not_true_eq_false, x_ev_iff k1, decide_false, Bool.false_eq_true, reduceCtorEq]
      · have hc' : ¬ x < nI (vR b n t.1) := fun z => hc ((vT_lt hx hk).mp z)
        obtain ⟨s2, k1, k2', k3⟩ := r_advance (P := P) (d := d) (xs := xs) (by omega) ht hi.1 h0
        have hm := nI_m1 (show vT b n t.1 < 2 ^ 31 by omega)
        have e3 : tkN b n x (-1) t = (nI (vT b n t.1), nxT b n t.1, none) := by unfold tkN; rw [if_pos hn, if_pos hk, if_neg (fun z => by rcases z with z | z; exact hc z; exact hm z)]
        rw [e3]
        rw [hn] at k3
        refine ⟨s2, ?_, k2', k3⟩
        rw [x_ev_in rfl (Nat.le_of_ble_eq_true rfl)]
        rw [show x_ent (x_nL g_M 215) [.ref 110, .int 0, .int x] = [some (.ref 110), some (.int 0), some (.int x), none] from rfl]
        simp only [w_Ref_number_0, w_Ref_number_4, w_Ref_number_7, w_Ref_number_11, w_Ref_number_15, w_Ref_number_20, w_Ref_number_24, w_Ref_number_27, w_Ref_number_31, w_Ref_number_39, w_Ref_number_42, w_Ref_number_47, w_Ref_number_51, w_Ref_number_54, w_Ref_number_56, w_Ref_number_60, w_Ref_number_65, c_110, f_110_0, p_110_0, f_110_1, f_110_2, f_110_3, f_110_4, f_110_5, p_110_5, f_110_6, f_110_7, p_110_7, f_110_8, p_110_8, f_110_9, p_110_9, f_110_10, p_110_10, f_110_11, p_110_11, f_110_12, p_110_12, f_110_13, p_110_13, f_110_14, f_110_15, f_110_16, p_110_16, f_110_17, f_110_18, p_110_18, f_110_19, p_110_19, f_110_20, f_110_21, p_110_21, f_110_22, p_110_22, f_110_23, f_110_24, f_110_25, p_110_25, f_110_26, f_110_27, f_110_28, f_110_29, f_110_30, f_110_31, p_110_31, f_110_32, p_110_32, f_110_33, p_110_33, f_110_34, p_110_34, f_110_35, f_110_36, f_110_37, f_110_38, Option.some.injEq, exists_eq_left', exists_eq_left, Option.toList_some, Option.toList_none, List.cons_append, List.nil_append, true_and, and_true, Option.map_some, Option.map_none, r_good (d := d) (by omega) hi.2 h0, hn, decide_true, b01, if_true, show ¬ ((1 : Int32) = 0) by decide, if_false, a4, k2, hv, r_in (d := d) (by omega), i0, w_lt, hc', hc, nI_pos (show vT b n t.1 < 2 ^ 31 by omega), not_false_eq_true, x_ev_iff k1, vT_eq hx hk hc]
    · have k2 : ¬ nI (kdT b n t.1) = 2 := fun z => hk ((nI_eq (b := 2) (by omega) (by omega)).mp z)
      obtain ⟨s2, k1, k2', k3⟩ := r_errs (P := P) (d := d) (xs := xs) (by omega) hi.2 h0 1
      have e3 : tkN b n x (-1) t = (0, t.1, some (1, t.1)) := by unfold tkN; rw [if_pos hn, if_neg hk]
      rw [hn] at k3
      have k3 : tkR s2 b n (t.1, some (1, t.1)) := k3
      have hf2 : fOk (some (1, t.1)) := fOk_s (by omega) (by omega) (by have := hi.1; have := ht.1; omega)
      rw [e3]
      refine ⟨s2, ?_, k2', k3⟩
      rw [show nI 1 = 1 from rfl] at k1
      rw [x_ev_in rfl (Nat.le_of_ble_eq_true rfl)]
      rw [show x_ent (x_nL g_M 215) [.ref 110, .int 0, .int x] = [some (.ref 110), some (.int 0), some (.int x), none] from rfl]
      simp only [w_Ref_number_0, w_Ref_number_4, w_Ref_number_7, w_Ref_number_11, w_Ref_number_15, w_Ref_number_20, w_Ref_number_24, w_Ref_number_27, w_Ref_number_31, w_Ref_number_39, w_Ref_number_42, w_Ref_number_47, w_Ref_number_51, w_Ref_number_54, w_Ref_number_56, w_Ref_number_60, w_Ref_number_65, c_110, f_110_0, p_110_0, f_110_1, f_110_2, f_110_3, f_110_4, f_110_5, p_110_5, f_110_6, f_110_7, p_110_7, f_110_8, p_110_8, f_110_9, p_110_9, f_110_10, p_110_10, f_110_11, p_110_11, f_110_12, p_110_12, f_110_13, p_110_13, f_110_14, f_110_15, f_110_16, p_110_16, f_110_17, f_110_18, p_110_18, f_110_19, p_110_19, f_110_20, f_110_21, p_110_21, f_110_22, p_110_22, f_110_23, f_110_24, f_110_25, p_110_25, f_110_26, f_110_27, f_110_28, f_110_29, f_110_30, f_110_31, p_110_31, f_110_32, p_110_32, f_110_33, p_110_33, f_110_34, p_110_34, f_110_35, f_110_36, f_110_37, f_110_38, Option.some.injEq, exists_eq_left', exists_eq_left, Option.toList_some, Option.toList_none, List.cons_append, List.nil_append, true_and, and_true, Option.map_some, Option.map_none, r_good (d := d) (by omega) hi.2 h0, r_good (d := d) (by omega) hf2 k3, hn, decide_true, b01, if_true, show ¬ ((1 : Int32) = 0) by decide, if_false, a4, k2, not_true_eq_false, x_ev_iff k1, decide_false, Bool.false_eq_true, reduceCtorEq]
  · rw [tkN_s hn]
    refine ⟨s, ?_, offU.rf, h0⟩
    rw [x_ev_in rfl (Nat.le_of_ble_eq_true rfl)]
    rw [show x_ent (x_nL g_M 215) [.ref 110, .int 0, .int x] = [some (.ref 110), some (.int 0), some (.int x), none] from rfl]
    simp only [w_Ref_number_0, w_Ref_number_4, w_Ref_number_7, w_Ref_number_11, w_Ref_number_15, w_Ref_number_20, w_Ref_number_24, w_Ref_number_27, w_Ref_number_31, w_Ref_number_39, w_Ref_number_42, w_Ref_number_47, w_Ref_number_51, w_Ref_number_54, w_Ref_number_56, w_Ref_number_60, w_Ref_number_65, c_110, f_110_0, p_110_0, f_110_1, f_110_2, f_110_3, f_110_4, f_110_5, p_110_5, f_110_6, f_110_7, p_110_7, f_110_8, p_110_8, f_110_9, p_110_9, f_110_10, p_110_10, f_110_11, p_110_11, f_110_12, p_110_12, f_110_13, p_110_13, f_110_14, f_110_15, f_110_16, p_110_16, f_110_17, f_110_18, p_110_18, f_110_19, p_110_19, f_110_20, f_110_21, p_110_21, f_110_22, p_110_22, f_110_23, f_110_24, f_110_25, p_110_25, f_110_26, f_110_27, f_110_28, f_110_29, f_110_30, f_110_31, p_110_31, f_110_32, p_110_32, f_110_33, p_110_33, f_110_34, p_110_34, f_110_35, f_110_36, f_110_37, f_110_38, Option.some.injEq, exists_eq_left', exists_eq_left, Option.toList_some, Option.toList_none, List.cons_append, List.nil_append, true_and, and_true, Option.map_some, Option.map_none, r_good (d := d) (by omega) hi.2 h0, hn, decide_false, b01, Bool.false_eq_true, if_false, if_true, not_true_eq_false]
theorem r_told (hd : 9 ≤ d) (hP : wdP P) {s : xS} (ht : tpR s b n) {t : Tk} (hi : tkOk n t) (h : tkR s b n t) {w : Nat} (hw : w < 13) {x : Int32} (hx : x ≤ 100) : ∃ s', x_ev g_M P d 216 [.ref 110, .ref (1000000 + w), .int 0, .int x] (mkH xs s) (some (.int (tkN b n x (-1) (tkW b n w t)).1), mkH xs s') ∧ offU s s' ∧ tkR s' b n (tkN b n x (-1) (tkW b n w t)).2 := by
  obtain ⟨d, rfl⟩ := x_1 (d := d) (by omega)
  obtain ⟨s1, q1, q2, q3⟩ := r_needs (P := P) (d := d) (xs := xs) (by omega) hP ht hi h hw
  obtain ⟨s2, k1, k2, k3⟩ := r_number (P := P) (d := d) (xs := xs) (by omega) (ht.off (q2.1 114 (by omega))) (tkW_ok ht.1 hi) q3 hx
  refine ⟨s2, ?_, q2.tr k2, k3⟩
  rw [x_ev_in rfl (Nat.le_of_ble_eq_true rfl)]
  rw [show x_ent (x_nL g_M 216) [.ref 110, .ref (1000000 + w), .int 0, .int x] = [some (.ref 110), some (.ref (1000000 + w)), some (.int 0), some (.int x)] from rfl]
  simp only [w_Ref_told_0, w_Ref_told_5, w_Ref_told_11, c_110, f_110_0, p_110_0, f_110_1, f_110_2, f_110_3, f_110_4, f_110_5, p_110_5, f_110_6, f_110_7, p_110_7, f_110_8, p_110_8, f_110_9, p_110_9, f_110_10, p_110_10, f_110_11, p_110_11, f_110_12, p_110_12, f_110_13, p_110_13, f_110_14, f_110_15, f_110_16, p_110_16, f_110_17, f_110_18, p_110_18, f_110_19, p_110_19, f_110_20, f_110_21, p_110_21, f_110_22, p_110_22, f_110_23, f_110_24, f_110_25, p_110_25, f_110_26, f_110_27, f_110_28, f_110_29, f_110_30, f_110_31, p_110_31, f_110_32, p_110_32, f_110_33, p_110_33, f_110_34, p_110_34, f_110_35, f_110_36, f_110_37, f_110_38, Option.some.injEq, exists_eq_left', exists_eq_left, Option.toList_some, Option.toList_none, List.cons_append, List.nil_append, true_and, and_true, Option.map_some, Option.map_none, x_ev_iff q1, x_ev_iff k1]
theorem t_takeGain (hd : 8 ≤ d) (hP : wdP P) {s : xS} (ht : tpC s b n) {t : Tk} (hi : tkOk n t) (h : tk13 s b n t) : ∃ s', x_ev g_M P d 27 [.ref 13] (mkH xs s) (some (.int (tkG b n t).1), mkH xs s') ∧ offX 13 s s' ∧ tk13 s' b n (tkG b n t).2 := by
  obtain ⟨d, rfl⟩ := x_1 (d := d) (by omega)
  have a5 := h.2.2.2.2.1
  have w8 := fun q => t_isWord (P := P) (d := d) (xs := xs) (q := q) (by omega) hP ht hi.1 h (show 8 < 13 by omega)
  rw [show 1000000 + 8 = 1000008 from rfl] at w8
  unfold tkG
  by_cases hc : (decide (t.2 = none) && isW b n 8 t.1) = true
  · rw [if_pos hc]
    rw [Bool.and_eq_true, decide_eq_true_eq] at hc
    have a5 : s.1 13 6 = 0 := by rw [a5, hc.1]; rfl
    obtain ⟨s1, q1, q2, q3⟩ := t_next (P := P) (d := d) (xs := xs) (by omega) ht hi.1 h
    obtain ⟨s2, k1, k2, k3⟩ := t_takeNumber (P := P) (d := d) (xs := xs) (by omega) (ht.off (q2.1 2 (by omega))) (t := (nxT b n t.1, t.2)) ⟨(nxT_le hi.1).2, hi.2⟩ q3 99 (-1)
    refine ⟨s2, ?_, ⟨fun q hq => by rw [k2.1 q hq, q2.1 q hq], by rw [k2.2, q2.2]⟩, k3⟩
    rw [x_ev_in rfl (Nat.le_of_ble_eq_true rfl)]
    rw [show x_ent (x_nL g_M 27) [.ref 13] = [some (.ref 13)] from rfl]
    simp only [w_Reader_takeGain_0, w_Reader_takeGain_4, w_Reader_takeGain_7, w_Reader_takeGain_13, w_Reader_takeGain_16, w_Reader_takeGain_20, w_Reader_takeGain_27, w_Reader_takeGain_29, w_Reader_takeGain_35, w_Reader_takeGain_42, c_13, f_13_0, f_13_1, f_13_2, p_13_2, f_13_3, p_13_3, f_13_4, p_13_4, f_13_5, p_13_5, f_13_6, p_13_6, f_13_7, p_13_7, Option.some.injEq, exists_eq_left', exists_eq_left, Option.toList_some, Option.toList_none, List.cons_append, List.nil_append, true_and, and_true, Option.map_some, Option.map_none, a5, not_true_eq_false, if_false, w8, hc.2, b01, if_true, show ¬ ((1 : Int32) = 0) by decide, x_ev_iff q1, x_ev_iff k1]
  · rw [if_neg hc]
    obtain ⟨s1, q1, q2, q3⟩ := t_takeWord (P := P) (d := d) (xs := xs) (by omega) hP ht hi h (show 9 < 13 by omega)
    obtain ⟨s2, k1, k2, k3⟩ := t_takeNumber (P := P) (d := d) (xs := xs) (by omega) (ht.off (q2.1 2 (by omega))) (tkW_ok ht.1 hi) q3 99 (-1)
    rw [show 1000000 + 9 = 1000009 from rfl] at q1
    refine ⟨s2, ?_, ⟨fun q hq => by rw [k2.1 q hq, q2.1 q hq], by rw [k2.2, q2.2]⟩, k3⟩
    by_cases hn : t.2 = none
    · have a5 : s.1 13 6 = 0 := by rw [a5, hn]; rfl
      have hw : isW b n 8 t.1 = false := by
        rw [decide_eq_true hn, Bool.true_and] at hc
        simpa using hc
      rw [x_ev_in rfl (Nat.le_of_ble_eq_true rfl)]
      rw [show x_ent (x_nL g_M 27) [.ref 13] = [some (.ref 13)] from rfl]
      simp only [w_Reader_takeGain_0, w_Reader_takeGain_4, w_Reader_takeGain_7, w_Reader_takeGain_13, w_Reader_takeGain_16, w_Reader_takeGain_20, w_Reader_takeGain_27, w_Reader_takeGain_29, w_Reader_takeGain_35, w_Reader_takeGain_42, c_13, f_13_0, f_13_1, f_13_2, p_13_2, f_13_3, p_13_3, f_13_4, p_13_4, f_13_5, p_13_5, f_13_6, p_13_6, f_13_7, p_13_7, Option.some.injEq, exists_eq_left', exists_eq_left, Option.toList_some, Option.toList_none, List.cons_append, List.nil_append, true_and, and_true, Option.map_some, Option.map_none, a5, not_true_eq_false, if_false, w8, hw, b01, Bool.false_eq_true, if_true, x_ev_iff q1, x_ev_iff k1]
    · rw [x_ev_in rfl (Nat.le_of_ble_eq_true rfl)]
      rw [show x_ent (x_nL g_M 27) [.ref 13] = [some (.ref 13)] from rfl]
      simp only [w_Reader_takeGain_0, w_Reader_takeGain_4, w_Reader_takeGain_7, w_Reader_takeGain_13, w_Reader_takeGain_16, w_Reader_takeGain_20, w_Reader_takeGain_27, w_Reader_takeGain_29, w_Reader_takeGain_35, w_Reader_takeGain_42, c_13, f_13_0, f_13_1, f_13_2, p_13_2, f_13_3, p_13_3, f_13_4, p_13_4, f_13_5, p_13_5, f_13_6, p_13_6, f_13_7, p_13_7, Option.some.injEq, exists_eq_left', exists_eq_left, Option.toList_some, Option.toList_none, List.cons_append, List.nil_append, true_and, and_true, Option.map_some, Option.map_none, a5, fkN_s hi.2 hn, not_false_eq_true, if_true, x_ev_iff q1, x_ev_iff k1]
theorem r_freshGain (hd : 9 ≤ d) (hP : wdP P) {s : xS} (ht : tpR s b n) {t : Tk} (hi : tkOk n t) (h : tkR s b n t) : ∃ s', x_ev g_M P d 220 [.ref 110] (mkH xs s) (some (.int (tkG b n t).1), mkH xs s') ∧ offU s s' ∧ tkR s' b n (tkG b n t).2 := by
  obtain ⟨d, rfl⟩ := x_1 (d := d) (by omega)
  obtain ⟨s1, q1, q2, q3⟩ := r_takes (P := P) (d := d) (xs := xs) (by omega) hP ht hi h (show 9 < 13 by omega)
  rw [show 1000000 + 9 = 1000009 from rfl] at q1
  have ht1 := ht.off (q2.1 114 (by omega))
  by_cases hc : (decide (t.2 = none) && isW b n 9 t.1) = true
  · have e1 : tkT b n 9 t = (true, nxT b n t.1, t.2) := by unfold tkT; rw [if_pos hc]
    rw [Bool.and_eq_true, decide_eq_true_eq] at hc
    have e2 : tkW b n 9 t = (nxT b n t.1, t.2) := by unfold tkW; rw [if_pos hc.1, if_pos hc.2, hc.1]
    have e8 : ¬ (decide (t.2 = none) && isW b n 8 t.1) = true := fun z => by
      rw [Bool.and_eq_true] at z
      have := isW_89 z.2
      rw [hc.2] at this
      cases this
    have e3 : tkG b n t = tkN b n 99 (-1) (nxT b n t.1, t.2) := by unfold tkG; rw [if_neg e8, e2]
    rw [e1] at q1 q3
    obtain ⟨s2, k1, k2, k3⟩ := r_number (P := P) (d := d) (xs := xs) (by omega) ht1 (t := (nxT b n t.1, t.2)) ⟨(nxT_le hi.1).2, hi.2⟩ q3 (show (99 : Int32) ≤ 100 by decide)
    rw [e3]
    refine ⟨s2, ?_, q2.tr k2, k3⟩
    rw [x_ev_in rfl (Nat.le_of_ble_eq_true rfl)]
    rw [show x_ent (x_nL g_M 220) [.ref 110] = [some (.ref 110), none, none] from rfl]
    simp only [w_Ref_freshGain_0, w_Ref_freshGain_6, w_Ref_freshGain_11, w_Ref_freshGain_17, w_Ref_freshGain_24, w_Ref_freshGain_29, w_Ref_freshGain_33, w_Ref_freshGain_35, c_110, f_110_0, p_110_0, f_110_1, f_110_2, f_110_3, f_110_4, f_110_5, p_110_5, f_110_6, f_110_7, p_110_7, f_110_8, p_110_8, f_110_9, p_110_9, f_110_10, p_110_10, f_110_11, p_110_11, f_110_12, p_110_12, f_110_13, p_110_13, f_110_14, f_110_15, f_110_16, p_110_16, f_110_17, f_110_18, p_110_18, f_110_19, p_110_19, f_110_20, f_110_21, p_110_21, f_110_22, p_110_22, f_110_23, f_110_24, f_110_25, p_110_25, f_110_26, f_110_27, f_110_28, f_110_29, f_110_30, f_110_31, p_110_31, f_110_32, p_110_32, f_110_33, p_110_33, f_110_34, p_110_34, f_110_35, f_110_36, f_110_37, f_110_38, Option.some.injEq, exists_eq_left', exists_eq_left, Option.toList_some, Option.toList_none, List.cons_append, List.nil_append, true_and, and_true, Option.map_some, Option.map_none, x_ev_iff q1, b01, if_true, show ¬ ((1 : Int32) = 0) by decide, not_false_eq_true, if_false, x_ev_iff k1]
  · have e1 : tkT b n 9 t = (false, t) := by unfold tkT; rw [if_neg hc]
    rw [e1] at q1 q3
    obtain ⟨s2, k1, k2, k3⟩ := r_needs (P := P) (d := d) (xs := xs) (by omega) hP ht1 hi q3 (show 8 < 13 by omega)
    rw [show 1000000 + 8 = 1000008 from rfl] at k1
    obtain ⟨s3, m1, m2, m3⟩ := r_number (P := P) (d := d) (xs := xs) (by omega) (ht1.off (k2.1 114 (by omega))) (tkW_ok ht.1 hi) k3 (show (99 : Int32) ≤ 100 by decide)
    have e3 : tkG b n t = (-(tkN b n 99 (-1) (tkW b n 8 t)).1, (tkN b n 99 (-1) (tkW b n 8 t)).2) := by
      by_cases hn : t.2 = none
      · have hw9 : ¬ isW b n 9 t.1 = true := fun z => hc (by rw [z, decide_eq_true hn]; rfl)
        by_cases h8 : isW b n 8 t.1 = true
        · unfold tkG tkW
          rw [if_pos (by rw [h8, decide_eq_true hn]; rfl), if_pos hn, if_pos h8, hn]
        · unfold tkG tkW
          rw [if_neg (fun z => h8 (by rw [Bool.and_eq_true] at z; exact z.2)), if_pos hn, if_pos hn, if_neg hw9, if_neg h8]
          rw [tkN_s (by intro z; cases z)]
          exact Prod.ext (show (0 : Int32) = -0 by decide) rfl
      · unfold tkG
        rw [if_neg (fun z => hn (by rw [Bool.and_eq_true, decide_eq_true_eq] at z; exact z.1)), tkW_s hn, tkW_s hn, tkN_s hn]
        exact Prod.ext (show (0 : Int32) = -0 by decide) rfl
    rw [e3]
    refine ⟨s3, ?_, (q2.tr k2).tr m2, m3⟩
    rw [x_ev_in rfl (Nat.le_of_ble_eq_true rfl)]
    rw [show x_ent (x_nL g_M 220) [.ref 110] = [some (.ref 110), none, none] from rfl]
    simp only [w_Ref_freshGain_0, w_Ref_freshGain_6, w_Ref_freshGain_11, w_Ref_freshGain_17, w_Ref_freshGain_24, w_Ref_freshGain_29, w_Ref_freshGain_33, w_Ref_freshGain_35, c_110, f_110_0, p_110_0, f_110_1, f_110_2, f_110_3, f_110_4, f_110_5, p_110_5, f_110_6, f_110_7, p_110_7, f_110_8, p_110_8, f_110_9, p_110_9, f_110_10, p_110_10, f_110_11, p_110_11, f_110_12, p_110_12, f_110_13, p_110_13, f_110_14, f_110_15, f_110_16, p_110_16, f_110_17, f_110_18, p_110_18, f_110_19, p_110_19, f_110_20, f_110_21, p_110_21, f_110_22, p_110_22, f_110_23, f_110_24, f_110_25, p_110_25, f_110_26, f_110_27, f_110_28, f_110_29, f_110_30, f_110_31, p_110_31, f_110_32, p_110_32, f_110_33, p_110_33, f_110_34, p_110_34, f_110_35, f_110_36, f_110_37, f_110_38, Option.some.injEq, exists_eq_left', exists_eq_left, Option.toList_some, Option.toList_none, List.cons_append, List.nil_append, true_and, and_true, Option.map_some, Option.map_none, x_ev_iff q1, b01, if_true, Bool.false_eq_true, not_true_eq_false, if_false, x_ev_iff k1, x_ev_iff m1]
end RTOK3
