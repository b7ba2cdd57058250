/-! THE READER of the reference: the MARKS, a MATTER (own work) -/
def rwM (z : xS) (k : Nat) (x : Int32 × Bool × Bool) : Prop := z.1 116 (k + 4) = x.1 ∧ z.1 116 (k + 5) = b01 x.2.1 ∧ z.1 116 (k + 6) = b01 x.2.2
section RMARKS
variable {P : Nat → List Value → Option Value} {d : Nat} {xs : List Int32} {b : Nat → Int32} {n : Nat}
theorem r_moreMarks (hd : 2 ≤ d) {s : xS} {t : Tk} (hf : fOk t.2) (h : tkR s b n t) {q : Option Value × xH} : x_ev g_M P d 218 [.ref 110] (mkH xs s) q ↔ q = (some (.int (b01 (decide (t.2 = none) && !decide (kdT b n t.1 = 3)))), mkH xs s) := by
  have a4 := h.2.2.2.1
  have hk4 := kdT_4 b n t.1
  obtain ⟨d, rfl⟩ := x_1 (d := d) (by omega)
  rw [x_ev_in rfl (Nat.le_of_ble_eq_true rfl)]
  rw [show x_ent (x_nL g_M 218) [.ref 110] = [some (.ref 110)] from rfl]
  by_cases hn : t.2 = none
  · by_cases hk : kdT b n t.1 = 3
    · have kk : nI (kdT b n t.1) = 3 := by rw [hk]; rfl
      rw [decide_eq_true hn, decide_eq_true hk]
      simp only [w_Ref_moreMarks_0, w_Ref_moreMarks_4, w_Ref_moreMarks_7, w_Ref_moreMarks_11, w_Ref_moreMarks_15, w_Ref_moreMarks_19, w_Ref_moreMarks_20, c_110, f_110_0, p_110_0, f_110_1, f_110_2, f_110_3, f_110_4, f_110_5, p_110_5, f_110_6, f_110_7, p_110_7, f_110_8, p_110_8, f_110_9, p_110_9, f_110_10, p_110_10, f_110_11, p_110_11, f_110_12, p_110_12, f_110_13, p_110_13, f_110_14, f_110_15, f_110_16, p_110_16, f_110_17, f_110_18, p_110_18, f_110_19, p_110_19, f_110_20, f_110_21, p_110_21, f_110_22, p_110_22, f_110_23, f_110_24, f_110_25, p_110_25, f_110_26, f_110_27, f_110_28, f_110_29, f_110_30, f_110_31, p_110_31, f_110_32, p_110_32, f_110_33, p_110_33, f_110_34, p_110_34, f_110_35, f_110_36, f_110_37, f_110_38, Option.some.injEq, exists_eq_left', exists_eq_left, Option.toList_some, Option.toList_none, List.cons_append, List.nil_append, true_and, and_true, Option.map_some, Option.map_none, r_good (d := d) (by omega) hf h, hn, decide_true, b01, if_true, show ¬ ((1 : Int32) = 0) by decide, if_false, a4, kk, x_nb0, Bool.not_true, Bool.and_false, Bool.false_eq_true]
      exact eq_comm
    · have kk : ¬ nI (kdT b n t.1) = 3 := fun w => hk ((nI_eq (b := 3) (by omega) (by omega)).mp w)
      rw [decide_eq_true hn, decide_eq_false hk]
      simp only [w_Ref_moreMarks_0, w_Ref_moreMarks_4, w_Ref_moreMarks_7, w_Ref_moreMarks_11, w_Ref_moreMarks_15, w_Ref_moreMarks_19, w_Ref_moreMarks_20, c_110, f_110_0, p_110_0, f_110_1, f_110_2, f_110_3, f_110_4, f_110_5, p_110_5, f_110_6, f_110_7, p_110_7, f_110_8, p_110_8, f_110_9, p_110_9, f_110_10, p_110_10, f_110_11, p_110_11, f_110_12, p_110_12, f_110_13, p_110_13, f_110_14, f_110_15, f_110_16, p_110_16, f_110_17, f_110_18, p_110_18, f_110_19, p_110_19, f_110_20, f_110_21, p_110_21, f_110_22, p_110_22, f_110_23, f_110_24, f_110_25, p_110_25, f_110_26, f_110_27, f_110_28, f_110_29, f_110_30, f_110_31, p_110_31, f_110_32, p_110_32, f_110_33, p_110_33, f_110_34, p_110_34, f_110_35, f_110_36, f_110_37, f_110_38, Option.some.injEq, exists_eq_left', exists_eq_left, Option.toList_some, Option.toList_none, List.cons_append, List.nil_append, true_and, and_true, Option.map_some, Option.map_none, r_good (d := d) (by omega) hf h, hn, decide_true, b01, if_true, show ¬ ((1 : Int32) = 0) by decide, if_false, a4, kk, x_nb1, Bool.not_false, Bool.and_true]
      exact eq_comm
  · rw [decide_eq_false hn, Bool.false_and]
    simp only [w_Ref_moreMarks_0, w_Ref_moreMarks_4, w_Ref_moreMarks_7, w_Ref_moreMarks_11, w_Ref_moreMarks_15, w_Ref_moreMarks_19, w_Ref_moreMarks_20, c_110, f_110_0, p_110_0, f_110_1, f_110_2, f_110_3, f_110_4, f_110_5, p_110_5, f_110_6, f_110_7, p_110_7, f_110_8, p_110_8, f_110_9, p_110_9, f_110_10, p_110_10, f_110_11, p_110_11, f_110_12, p_110_12, f_110_13, p_110_13, f_110_14, f_110_15, f_110_16, p_110_16, f_110_17, f_110_18, p_110_18, f_110_19, p_110_19, f_110_20, f_110_21, p_110_21, f_110_22, p_110_22, f_110_23, f_110_24, f_110_25, p_110_25, f_110_26, f_110_27, f_110_28, f_110_29, f_110_30, f_110_31, p_110_31, f_110_32, p_110_32, f_110_33, p_110_33, f_110_34, p_110_34, f_110_35, f_110_36, f_110_37, f_110_38, Option.some.injEq, exists_eq_left', exists_eq_left, Option.toList_some, Option.toList_none, List.cons_append, List.nil_append, true_and, and_true, Option.map_some, Option.map_none, r_good (d := d) (by omega) hf h, hn, decide_false, b01, Bool.false_eq_true, if_true, if_false, x_nb0]
    exact eq_comm
theorem r_takes0 (hd : 7 ≤ d) (hP : wdP P) {s : xS} (ht : tpR s b n) {t : Tk} (hi : tkOk n t) (h : tkR s b n t) {w : Nat} (hw : w < 13) (hc : (decide (t.2 = none) && isW b n w t.1) = false) {q : Option Value × xH} : x_ev g_M P d 213 [.ref 110, .ref (1000000 + w)] (mkH xs s) q ↔ q = (some (.int 0), mkH xs s) := by
  obtain ⟨d, rfl⟩ := x_1 (d := d) (by omega)
  rw [x_ev_in rfl (Nat.le_of_ble_eq_true rfl)]
  rw [show x_ent (x_nL g_M 213) [.ref 110, .ref (1000000 + w)] = [some (.ref 110), some (.ref (1000000 + w)), none] from rfl]
  simp only [w_Ref_takes_0, w_Ref_takes_5, w_Ref_takes_10, w_Ref_takes_14, c_110, f_110_0, p_110_0, f_110_1, f_110_2, f_110_3, f_110_4, f_110_5, p_110_5, f_110_6, f_110_7, p_110_7, f_110_8, p_110_8, f_110_9, p_110_9, f_110_10, p_110_10, f_110_11, p_110_11, f_110_12, p_110_12, f_110_13, p_110_13, f_110_14, f_110_15, f_110_16, p_110_16, f_110_17, f_110_18, p_110_18, f_110_19, p_110_19, f_110_20, f_110_21, p_110_21, f_110_22, p_110_22, f_110_23, f_110_24, f_110_25, p_110_25, f_110_26, f_110_27, f_110_28, f_110_29, f_110_30, f_110_31, p_110_31, f_110_32, p_110_32, f_110_33, p_110_33, f_110_34, p_110_34, f_110_35, f_110_36, f_110_37, f_110_38, Option.some.injEq, exists_eq_left', exists_eq_left, Option.toList_some, Option.toList_none, List.cons_append, List.nil_append, true_and, and_true, Option.map_some, Option.map_none, r_is (d := d) (by omega) hP ht hi h hw, hc, b01, Bool.false_eq_true, if_true, if_false, x_nb0]
  exact eq_comm
set_option maxHeartbeats 4000000 in
theorem r_mkL (hd : 8 ≤ d) (hP : wdP P) {M k : Nat} (hM : M < 8) (hk : k = 19 + 7 * M) : ∀ (u : Nat) (x : Tk × Int32 × Bool × Bool) (z : xS), cntM x.2 = u → tkOk n x.1 → tpR z b n → tkR z b n x.1 → rwM z k x.2 → z.1 116 4 = nI M → ∃ z', (∀ r, x_R (x_ev g_M P d) 222 (140, [some (.ref 110), some (.int (nI k))], [], mkH xs z) r ↔ x_R (x_ev g_M P d) 222 (256, [some (.ref 110), some (.int (nI k))], [], mkH xs z') r) ∧ tkR z' b n (mkL b n M (u + 1) x).1 ∧ tkOk n (mkL b n M (u + 1) x).1 ∧ offF z z' ∧ (∀ j, j ≠ k + 4 → j ≠ k + 5 → j ≠ k + 6 → z'.1 116 j = z.1 116 j) ∧ ((mkL b n M (u + 1) x).1.2 = none → rwM z' k (mkL b n M (u + 1) x).2) := by
  have c4 : ∀ z : xS, x_rd (z.1 116) 135 (nI (k + 4)) = some (z.1 116 (k + 4)) := fun z => rd116 z (by omega)
  have c5 : ∀ z : xS, x_rd (z.1 116) 135 (nI (k + 5)) = some (z.1 116 (k + 5)) := fun z => rd116 z (by omega)
  have c6 : ∀ z : xS, x_rd (z.1 116) 135 (nI (k + 6)) = some (z.1 116 (k + 6)) := fun z => rd116 z (by omega)
  have p4 : nI k + 4 = nI (k + 4) := nI_pl k 4
  have p5 : nI k + 5 = nI (k + 5) := nI_pl k 5
  have p6 : nI k + 6 = nI (k + 6) := nI_pl k 6
  have l4 : (nI (k + 4)).toNatClampNeg = k + 4 := nI_clamp (by omega)
  have l5 : (nI (k + 5)).toNatClampNeg = k + 5 := nI_clamp (by omega)
  have l6 : (nI (k + 6)).toNatClampNeg = k + 6 := nI_clamp (by omega)
  -- a FAULT ends it
  have flt : ∀ (z : xS) (t : Tk), tkOk n t → tkR z b n t → t.2 ≠ none → ∀ r, x_R (x_ev g_M P d) 222 (140, [some (.ref 110), some (.int (nI k))], [], mkH xs z) r ↔ x_R (x_ev g_M P d) 222 (256, [some (.ref 110), some (.int (nI k))], [], mkH xs z) r := fun z t ok tk hn r => by
    simp only [w_Ref_readMatter_140 (l1 := nI k), w_Ref_readMatter_144, c_110, f_110_0, p_110_0, f_110_1, f_110_2, f_110_3, f_110_4, f_110_5, p_110_5, f_110_6, f_110_7, p_110_7, f_110_8, p_110_8, f_110_9, p_110_9, f_110_10, p_110_10, f_110_11, p_110_11, f_110_12, p_110_12, f_110_13, p_110_13, f_110_14, f_110_15, f_110_16, p_110_16, f_110_17, f_110_18, p_110_18, f_110_19, p_110_19, f_110_20, f_110_21, p_110_21, f_110_22, p_110_22, f_110_23, f_110_24, f_110_25, p_110_25, f_110_26, f_110_27, f_110_28, f_110_29, f_110_30, f_110_31, p_110_31, f_110_32, p_110_32, f_110_33, p_110_33, f_110_34, p_110_34, f_110_35, f_110_36, f_110_37, f_110_38, Option.some.injEq, exists_eq_left', exists_eq_left, Option.toList_some, Option.toList_none, List.cons_append, List.nil_append, true_and, and_true, Option.map_some, Option.map_none, r_moreMarks (d := d) (by omega) ok.2 tk, hn, decide_false, Bool.false_and, b01, Bool.false_eq_true, if_false, if_true]
  intro u
  induction u with
  | zero =>
    intro x z hu hok ht htk hr h4
    obtain ⟨t, on, dr, jg⟩ := x
    have hu : (if on = 0 then 1 else 0) + ((if dr = true then 0 else 1) + (if jg = true then 0 else 1)) = 0 := hu
    have o1 : ¬ on = 0 := fun w => by rw [if_pos w] at hu; omega
    have o2 : dr = true := by
      cases dr
      · simp at hu
      · rfl
    have o3 : jg = true := by
      cases jg
      · simp at hu
      · rfl
    obtain ⟨r4, r5, r6⟩ := hr
    have r4 : z.1 116 (k + 4) = on := r4
    have r5 : z.1 116 (k + 5) = 1 := by rw [r5, o2]; rfl
    have r6 : z.1 116 (k + 6) = 1 := by rw [r6, o3]; rfl
    by_cases h0 : t.2 = none ∧ kdT b n t.1 ≠ 3
    · obtain ⟨z1, q1, q2, q3⟩ := r_errs (P := P) (d := d) (xs := xs) (by omega) hok.2 htk 1
      rw [show nI 1 = 1 from rfl] at q1
      rw [h0.1] at q3
      have ok1 : tkOk n (t.1, some (1, t.1)) := ⟨hok.1, fOk_s (by omega) (by omega) (Nat.le_trans hok.1 ht.1)⟩
      have e : mkL b n M (0 + 1) (t, on, dr, jg) = ((t.1, some (1, t.1)), on, dr, jg) := by
        rw [mkL, if_pos h0, if_neg (fun w => o1 w.2), if_neg (fun w => by rw [o2] at w; cases w.2), if_neg (fun w => by rw [o3] at w; cases w.2)]
      rw [e]
      refine ⟨z1, fun r => ?_, q3, ok1, q2.F, fun j _ _ _ => by rw [q2.1 116 (by omega)], fun w => by cases w⟩
      rw [← flt z1 (t.1, some (1, t.1)) ok1 q3 (fun w => by cases w) r]
      simp only [w_Ref_readMatter_140 (l1 := nI k) (h := mkH xs z), w_Ref_readMatter_144, w_Ref_readMatter_147, w_Ref_readMatter_151, w_Ref_readMatter_155, w_Ref_readMatter_182, w_Ref_readMatter_186, w_Ref_readMatter_190, w_Ref_readMatter_214, w_Ref_readMatter_218, w_Ref_readMatter_223, w_Ref_readMatter_248, w_Ref_readMatter_253, c_110, f_110_0, p_110_0, f_110_1, f_110_2, f_110_3, f_110_4, f_110_5, p_110_5, f_110_6, f_110_7, p_110_7, f_110_8, p_110_8, f_110_9, p_110_9, f_110_10, p_110_10, f_110_11, p_110_11, f_110_12, p_110_12, f_110_13, p_110_13, f_110_14, f_110_15, f_110_16, p_110_16, f_110_17, f_110_18, p_110_18, f_110_19, p_110_19, f_110_20, f_110_21, p_110_21, f_110_22, p_110_22, f_110_23, f_110_24, f_110_25, p_110_25, f_110_26, f_110_27, f_110_28, f_110_29, f_110_30, f_110_31, p_110_31, f_110_32, p_110_32, f_110_33, p_110_33, f_110_34, p_110_34, f_110_35, f_110_36, f_110_37, f_110_38, e_116, i_116, Option.some.injEq, exists_eq_left', exists_eq_left, Option.toList_some, Option.toList_none, List.cons_append, List.nil_append, true_and, and_true, Option.map_some, Option.map_none, r_moreMarks (d := d) (by omega) hok.2 htk, h0.1, h0.2, decide_true, decide_false, Bool.not_false, Bool.and_true, b01, if_true, show ¬ ((1 : Int32) = 0) by decide, if_false, p4, p5, p6, c4, c5, c6, r4, o1, r5, r6, not_false_eq_true, x_ev_iff q1]
    · have e : mkL b n M (0 + 1) (t, on, dr, jg) = (t, on, dr, jg) := by rw [mkL, if_neg h0]
      rw [e]
      refine ⟨z, fun r => ?_, htk, hok, offF.rf, fun _ _ _ _ => rfl, fun _ => ⟨r4, by rw [r5, o2]; rfl, by rw [r6, o3]; rfl⟩⟩
      have hb : (decide (t.2 = none) && !decide (kdT b n t.1 = 3)) = false := by
        cases hb : (decide (t.2 = none) && !decide (kdT b n t.1 = 3)) with
        | false => rfl
        | true =>
          rw [Bool.and_eq_true, decide_eq_true_eq, Bool.not_eq_true', decide_eq_false_iff_not] at hb
          exact absurd hb h0
      simp only [w_Ref_readMatter_140 (l1 := nI k) (h := mkH xs z), w_Ref_readMatter_144, c_110, f_110_0, p_110_0, f_110_1, f_110_2, f_110_3, f_110_4, f_110_5, p_110_5, f_110_6, f_110_7, p_110_7, f_110_8, p_110_8, f_110_9, p_110_9, f_110_10, p_110_10, f_110_11, p_110_11, f_110_12, p_110_12, f_110_13, p_110_13, f_110_14, f_110_15, f_110_16, p_110_16, f_110_17, f_110_18, p_110_18, f_110_19, p_110_19, f_110_20, f_110_21, p_110_21, f_110_22, p_110_22, f_110_23, f_110_24, f_110_25, p_110_25, f_110_26, f_110_27, f_110_28, f_110_29, f_110_30, f_110_31, p_110_31, f_110_32, p_110_32, f_110_33, p_110_33, f_110_34, p_110_34, f_110_35, f_110_36, f_110_37, f_110_38, Option.some.injEq, exists_eq_left', exists_eq_left, Option.toList_some, Option.toList_none, List.cons_append, List.nil_append, true_and, and_true, Option.map_some, Option.map_none, r_moreMarks (d := d) (by omega) hok.2 htk, hb, b01, Bool.false_eq_true, if_false, if_true]
  | succ u ih =>
    intro x z hu hok ht htk hr h4
    obtain ⟨t, on, dr, jg⟩ := x
    have hu : (if on = 0 then 1 else 0) + ((if dr = true then 0 else 1) + (if jg = true then 0 else 1)) = u + 1 := hu
    have hr0 := hr
    obtain ⟨r4, r5, r6⟩ := hr
    have r4 : z.1 116 (k + 4) = on := r4
    have r5 : z.1 116 (k + 5) = b01 dr := r5
    have r6 : z.1 116 (k + 6) = b01 jg := r6
    by_cases h0 : t.2 = none ∧ kdT b n t.1 ≠ 3
    · have s147 : ∀ r, x_R (x_ev g_M P d) 222 (140, [some (.ref 110), some (.int (nI k))], [], mkH xs z) r ↔ x_R (x_ev g_M P d) 222 (147, [some (.ref 110), some (.int (nI k))], [], mkH xs z) r := fun r => by
        simp only [w_Ref_readMatter_140 (l1 := nI k) (h := mkH xs z), w_Ref_readMatter_144, c_110, f_110_0, p_110_0, f_110_1, f_110_2, f_110_3, f_110_4, f_110_5, p_110_5, f_110_6, f_110_7, p_110_7, f_110_8, p_110_8, f_110_9, p_110_9, f_110_10, p_110_10, f_110_11, p_110_11, f_110_12, p_110_12, f_110_13, p_110_13, f_110_14, f_110_15, f_110_16, p_110_16, f_110_17, f_110_18, p_110_18, f_110_19, p_110_19, f_110_20, f_110_21, p_110_21, f_110_22, p_110_22, f_110_23, f_110_24, f_110_25, p_110_25, f_110_26, f_110_27, f_110_28, f_110_29, f_110_30, f_110_31, p_110_31, f_110_32, p_110_32, f_110_33, p_110_33, f_110_34, p_110_34, f_110_35, f_110_36, f_110_37, f_110_38, Option.some.injEq, exists_eq_left', exists_eq_left, Option.toList_some, Option.toList_none, List.cons_append, List.nil_append, true_and, and_true, Option.map_some, Option.map_none, r_moreMarks (d := d) (by omega) hok.2 htk, h0.1, h0.2, decide_true, decide_false, Bool.not_false, Bool.and_true, b01, if_true, show ¬ ((1 : Int32) = 0) by decide, if_false]
      -- a word that is taken: the next token
      have tk1 : ∀ w, w < 13 → isW b n w t.1 = true → ∃ z1, x_ev g_M P d 213 [.ref 110, .ref (1000000 + w)] (mkH xs z) (some (.int 1), mkH xs z1) ∧ offU z z1 ∧ tkR z1 b n (nxT b n t.1, none) ∧ tkOk n (nxT b n t.1, none) := fun w hw h1 => by
        obtain ⟨z1, q1, q2, q3⟩ := r_takes (P := P) (d := d) (xs := xs) (by omega) hP ht hok htk hw
        have e : tkT b n w t = (true, nxT b n t.1, none) := by
          unfold tkT
          rw [if_pos (by rw [decide_eq_true h0.1, h1]; rfl), h0.1]
        rw [e] at q1 q3
        exact ⟨z1, q1, q2, q3, (nxT_le hok.1).2, fOk_n⟩
      have tk0 : ∀ w, w < 13 → ¬ isW b n w t.1 = true → ∀ q, x_ev g_M P d 213 [.ref 110, .ref (1000000 + w)] (mkH xs z) q ↔ q = (some (.int 0), mkH xs z) := fun w hw h1 q => r_takes0 (by omega) hP ht hok htk hw (by
        have : isW b n w t.1 = false := by simpa using h1
        rw [this, Bool.and_false])
      by_cases w10 : isW b n 10 t.1 = true ∧ on = 0
      · obtain ⟨z1, q1, q2, q3, q4⟩ := tk1 10 (by omega) w10.1
        have q1 : x_ev g_M P d 213 [.ref 110, .ref 1000010] (mkH xs z) (some (.int 1), mkH xs z1) := q1
        have ht1 := ht.off (q2.1 114 (by omega))
        obtain ⟨z2, V, g1, g2, g3, g4, g5⟩ := r_freshOn (P := P) (d := d) (xs := xs) (by omega) (show M ≤ 8 by omega) ht1 q4 q3 (by rw [q2.1 116 (by omega)]; exact h4)
        have o3 := oC_p z2 116 (k + 4) V
        have ev : (s_p z2 116 (k + 4) V).1 116 (k + 4) = V := s_p_v _ _ _ _
        generalize hy : s_p z2 116 (k + 4) V = y at *
        have ty : tkR y b n (onL b n M 901 0 (nxT b n t.1, none)).2 := tkR_o (o3.1 110 (by omega)) g3
        have oy : offF z y := (q2.F.tr g2.F).tr o3.F
        have oy6 : ∀ j, j ≠ k + 4 → y.1 116 j = z.1 116 j := fun j hj => by rw [o3.2.1 j hj, g2.1 116 (by omega), q2.1 116 (by omega)]
        have st : ∀ r, x_R (x_ev g_M P d) 222 (140, [some (.ref 110), some (.int (nI k))], [], mkH xs z) r ↔ x_R (x_ev g_M P d) 222 (140, [some (.ref 110), some (.int (nI k))], [], mkH xs y) r := fun r => by
          rw [s147]
          simp only [w_Ref_readMatter_147, w_Ref_readMatter_151, w_Ref_readMatter_155, w_Ref_readMatter_158, w_Ref_readMatter_164, w_Ref_readMatter_167, w_Ref_readMatter_171, w_Ref_readMatter_178, w_Ref_readMatter_179, c_110, f_110_0, p_110_0, f_110_1, f_110_2, f_110_3, f_110_4, f_110_5, p_110_5, f_110_6, f_110_7, p_110_7, f_110_8, p_110_8, f_110_9, p_110_9, f_110_10, p_110_10, f_110_11, p_110_11, f_110_12, p_110_12, f_110_13, p_110_13, f_110_14, f_110_15, f_110_16, p_110_16, f_110_17, f_110_18, p_110_18, f_110_19, p_110_19, f_110_20, f_110_21, p_110_21, f_110_22, p_110_22, f_110_23, f_110_24, f_110_25, p_110_25, f_110_26, f_110_27, f_110_28, f_110_29, f_110_30, f_110_31, p_110_31, f_110_32, p_110_32, f_110_33, p_110_33, f_110_34, p_110_34, f_110_35, f_110_36, f_110_37, f_110_38, e_116, i_116, Option.some.injEq, exists_eq_left', exists_eq_left, Option.toList_some, Option.toList_none, List.cons_append, List.nil_append, true_and, and_true, Option.map_some, Option.map_none, p4, c4, r4, w10.2, not_true_eq_false, if_false, x_ev_iff q1, show ¬ ((1 : Int32) = 0) by decide, x_ev_iff g1, l4, hy]
        have e : mkL b n M (u + 1 + 1) (t, on, dr, jg) = mkL b n M (u + 1) ((onL b n M 901 0 (nxT b n t.1, none)).2, (onL b n M 901 0 (nxT b n t.1, none)).1, dr, jg) := by
          rw [mkL, if_pos h0, if_pos w10]
        rw [e]
        by_cases hof : (onL b n M 901 0 (nxT b n t.1, none)).2.2 = none
        · obtain ⟨v1, v2, v3, v4⟩ := onL_v (show M ≤ 8 by omega) 901 0 (nxT b n t.1, none) (by omega) hof (nxT_le hok.1).2 (fun j hj => by rw [b_0] at hj; cases hj)
          obtain ⟨z', m1, m2, m3, m4, m5, m6⟩ := ih ((onL b n M 901 0 (nxT b n t.1, none)).2, (onL b n M 901 0 (nxT b n t.1, none)).1, dr, jg) y (by
            show (if (onL b n M 901 0 (nxT b n t.1, none)).1 = 0 then 1 else 0) + ((if dr = true then 0 else 1) + (if jg = true then 0 else 1)) = u
            rw [if_neg v2]
            rw [if_pos w10.2] at hu
            omega) g4 (tpR_F oy ht) ty ⟨ev.trans (g5 hof), by rw [oy6 _ (by omega)]; exact r5, by rw [oy6 _ (by omega)]; exact r6⟩ (by rw [oy6 4 (by omega)]; exact h4)
          exact ⟨z', fun r => (st r).trans (m1 r), m2, m3, oy.tr m4, fun j a c e => by rw [m5 j a c e, oy6 j a], m6⟩
        · rw [mkL_f (x := ((onL b n M 901 0 (nxT b n t.1, none)).2, (onL b n M 901 0 (nxT b n t.1, none)).1, dr, jg)) hof]
          exact ⟨y, fun r => (st r).trans (flt y _ g4 ty hof r), ty, g4, oy, fun j a _ _ => oy6 j a, fun w => absurd w hof⟩
      · have s182 : ∀ r, x_R (x_ev g_M P d) 222 (140, [some (.ref 110), some (.int (nI k))], [], mkH xs z) r ↔ x_R (x_ev g_M P d) 222 (182, [some (.ref 110), some (.int (nI k))], [], mkH xs z) r := fun r => by
          rw [s147]
          by_cases ho : on = 0
          · have n10 : ¬ isW b n 10 t.1 = true := fun w => w10 ⟨w, ho⟩
            have t0 := tk0 10 (by omega) n10
            rw [show 1000000 + 10 = 1000010 from rfl] at t0
            simp only [w_Ref_readMatter_147, w_Ref_readMatter_151, w_Ref_readMatter_155, w_Ref_readMatter_158, w_Ref_readMatter_164, c_110, f_110_0, p_110_0, f_110_1, f_110_2, f_110_3, f_110_4, f_110_5, p_110_5, f_110_6, f_110_7, p_110_7, f_110_8, p_110_8, f_110_9, p_110_9, f_110_10, p_110_10, f_110_11, p_110_11, f_110_12, p_110_12, f_110_13, p_110_13, f_110_14, f_110_15, f_110_16, p_110_16, f_110_17, f_110_18, p_110_18, f_110_19, p_110_19, f_110_20, f_110_21, p_110_21, f_110_22, p_110_22, f_110_23, f_110_24, f_110_25, p_110_25, f_110_26, f_110_27, f_110_28, f_110_29, f_110_30, f_110_31, p_110_31, f_110_32, p_110_32, f_110_33, p_110_33, f_110_34, p_110_34, f_110_35, f_110_36, f_110_37, f_110_38, e_116, i_116, Option.some.injEq, exists_eq_left', exists_eq_left, Option.toList_some, Option.toList_none, List.cons_append, List.nil_append, true_and, and_true, Option.map_some, Option.map_none, p4, c4, r4, ho, not_true_eq_false, if_false, t0, if_true]
          · simp only [w_Ref_readMatter_147, w_Ref_readMatter_151, w_Ref_readMatter_155, c_110, f_110_0, p_110_0, f_110_1, f_110_2, f_110_3, f_110_4, f_110_5, p_110_5, f_110_6, f_110_7, p_110_7, f_110_8, p_110_8, f_110_9, p_110_9, f_110_10, p_110_10, f_110_11, p_110_11, f_110_12, p_110_12, f_110_13, p_110_13, f_110_14, f_110_15, f_110_16, p_110_16, f_110_17, f_110_18, p_110_18, f_110_19, p_110_19, f_110_20, f_110_21, p_110_21, f_110_22, p_110_22, f_110_23, f_110_24, f_110_25, p_110_25, f_110_26, f_110_27, f_110_28, f_110_29, f_110_30, f_110_31, p_110_31, f_110_32, p_110_32, f_110_33, p_110_33, f_110_34, p_110_34, f_110_35, f_110_36, f_110_37, f_110_38, e_116, i_116, Option.some.injEq, exists_eq_left', exists_eq_left, Option.toList_some, Option.toList_none, List.cons_append, List.nil_append, true_and, and_true, Option.map_some, Option.map_none, p4, c4, r4, ho, not_false_eq_true, if_true]
        by_cases w11 : isW b n 11 t.1 = true ∧ dr = false
        · obtain ⟨z1, q1, q2, q3, q4⟩ := tk1 11 (by omega) w11.1
          have q1 : x_ev g_M P d 213 [.ref 110, .ref 1000011] (mkH xs z) (some (.int 1), mkH xs z1) := q1
          have r5' : z.1 116 (k + 5) = 0 := by rw [r5, w11.2]; rfl
          have o3 := oC_p z1 116 (k + 5) 1
          have ev : (s_p z1 116 (k + 5) 1).1 116 (k + 5) = 1 := s_p_v _ _ _ _
          generalize hy : s_p z1 116 (k + 5) 1 = y at *
          have oy : offF z y := q2.F.tr o3.F
          have oy6 : ∀ j, j ≠ k + 5 → y.1 116 j = z.1 116 j := fun j hj => by rw [o3.2.1 j hj, q2.1 116 (by omega)]
          have st : ∀ r, x_R (x_ev g_M P d) 222 (140, [some (.ref 110), some (.int (nI k))], [], mkH xs z) r ↔ x_R (x_ev g_M P d) 222 (140, [some (.ref 110), some (.int (nI k))], [], mkH xs y) r := fun r => by
            rw [s182]
            simp only [w_Ref_readMatter_182, w_Ref_readMatter_186, w_Ref_readMatter_190, w_Ref_readMatter_193, w_Ref_readMatter_199, w_Ref_readMatter_202, w_Ref_readMatter_206, w_Ref_readMatter_211, c_110, f_110_0, p_110_0, f_110_1, f_110_2, f_110_3, f_110_4, f_110_5, p_110_5, f_110_6, f_110_7, p_110_7, f_110_8, p_110_8, f_110_9, p_110_9, f_110_10, p_110_10, f_110_11, p_110_11, f_110_12, p_110_12, f_110_13, p_110_13, f_110_14, f_110_15, f_110_16, p_110_16, f_110_17, f_110_18, p_110_18, f_110_19, p_110_19, f_110_20, f_110_21, p_110_21, f_110_22, p_110_22, f_110_23, f_110_24, f_110_25, p_110_25, f_110_26, f_110_27, f_110_28, f_110_29, f_110_30, f_110_31, p_110_31, f_110_32, p_110_32, f_110_33, p_110_33, f_110_34, p_110_34, f_110_35, f_110_36, f_110_37, f_110_38, e_116, i_116, Option.some.injEq, exists_eq_left', exists_eq_left, Option.toList_some, Option.toList_none, List.cons_append, List.nil_append, true_and, and_true, Option.map_some, Option.map_none, p5, c5, r5', not_true_eq_false, if_false, x_ev_iff q1, show ¬ ((1 : Int32) = 0) by decide, l5, hy]
          have e : mkL b n M (u + 1 + 1) (t, on, dr, jg) = mkL b n M (u + 1) ((nxT b n t.1, none), on, true, jg) := by
            rw [mkL, if_pos h0, if_neg w10, if_pos w11]
          rw [e]
          obtain ⟨z', m1, m2, m3, m4, m5, m6⟩ := ih ((nxT b n t.1, none), on, true, jg) y (by
            show (if on = 0 then 1 else 0) + ((if true = true then 0 else 1) + (if jg = true then 0 else 1)) = u
            rw [w11.2] at hu
            simp only [Bool.false_eq_true, if_false] at hu
            simp only [if_true]
            omega) q4 (tpR_F oy ht) (tkR_o (o3.1 110 (by omega)) q3) ⟨by rw [oy6 _ (by omega)]; exact r4, ev, by rw [oy6 _ (by omega)]; exact r6⟩ (by rw [oy6 4 (by omega)]; exact h4)
          exact ⟨z', fun r => (st r).trans (m1 r), m2, m3, oy.tr m4, fun j a c e => by rw [m5 j a c e, oy6 j c], m6⟩
        · have s214 : ∀ r, x_R (x_ev g_M P d) 222 (140, [some (.ref 110), some (.int (nI k))], [], mkH xs z) r ↔ x_R (x_ev g_M P d) 222 (214, [some (.ref 110), some (.int (nI k))], [], mkH xs z) r := fun r => by
            rw [s182]
            cases hdr : dr with
            | false =>
              have r5' : z.1 116 (k + 5) = 0 := by rw [r5, hdr]; rfl
              have n11 : ¬ isW b n 11 t.1 = true := fun w => w11 ⟨w, hdr⟩
              have t0 := tk0 11 (by omega) n11
              rw [show 1000000 + 11 = 1000011 from rfl] at t0
              simp only [w_Ref_readMatter_182, w_Ref_readMatter_186, w_Ref_readMatter_190, w_Ref_readMatter_193, w_Ref_readMatter_199, c_110, f_110_0, p_110_0, f_110_1, f_110_2, f_110_3, f_110_4, f_110_5, p_110_5, f_110_6, f_110_7, p_110_7, f_110_8, p_110_8, f_110_9, p_110_9, f_110_10, p_110_10, f_110_11, p_110_11, f_110_12, p_110_12, f_110_13, p_110_13, f_110_14, f_110_15, f_110_16, p_110_16, f_110_17, f_110_18, p_110_18, f_110_19, p_110_19, f_110_20, f_110_21, p_110_21, f_110_22, p_110_22, f_110_23, f_110_24, f_110_25, p_110_25, f_110_26, f_110_27, f_110_28, f_110_29, f_110_30, f_110_31, p_110_31, f_110_32, p_110_32, f_110_33, p_110_33, f_110_34, p_110_34, f_110_35, f_110_36, f_110_37, f_110_38, e_116, i_116, Option.some.injEq, exists_eq_left', exists_eq_left, Option.toList_some, Option.toList_none, List.cons_append, List.nil_append, true_and, and_true, Option.map_some, Option.map_none, p5, c5, r5', not_true_eq_false, if_false, t0, if_true]
            | true =>
              have r5' : z.1 116 (k + 5) = 1 := by rw [r5, hdr]; rfl
              simp only [w_Ref_readMatter_182, w_Ref_readMatter_186, w_Ref_readMatter_190, c_110, f_110_0, p_110_0, f_110_1, f_110_2, f_110_3, f_110_4, f_110_5, p_110_5, f_110_6, f_110_7, p_110_7, f_110_8, p_110_8, f_110_9, p_110_9, f_110_10, p_110_10, f_110_11, p_110_11, f_110_12, p_110_12, f_110_13, p_110_13, f_110_14, f_110_15, f_110_16, p_110_16, f_110_17, f_110_18, p_110_18, f_110_19, p_110_19, f_110_20, f_110_21, p_110_21, f_110_22, p_110_22, f_110_23, f_110_24, f_110_25, p_110_25, f_110_26, f_110_27, f_110_28, f_110_29, f_110_30, f_110_31, p_110_31, f_110_32, p_110_32, f_110_33, p_110_33, f_110_34, p_110_34, f_110_35, f_110_36, f_110_37, f_110_38, e_116, i_116, Option.some.injEq, exists_eq_left', exists_eq_left, Option.toList_some, Option.toList_none, List.cons_append, List.nil_append, true_and, and_true, Option.map_some, Option.map_none, p5, c5, r5', show ¬ ((1 : Int32) = 0) by decide, not_false_eq_true, if_true]
          by_cases w12 : isW b n 12 t.1 = true ∧ jg = false
          · obtain ⟨z1, q1, q2, q3, q4⟩ := tk1 12 (by omega) w12.1
            have q1 : x_ev g_M P d 213 [.ref 110, .ref 1000012] (mkH xs z) (some (.int 1), mkH xs z1) := q1
            have r6' : z.1 116 (k + 6) = 0 := by rw [r6, w12.2]; rfl
            have o3 := oC_p z1 116 (k + 6) 1
            have ev : (s_p z1 116 (k + 6) 1).1 116 (k + 6) = 1 := s_p_v _ _ _ _
            generalize hy : s_p z1 116 (k + 6) 1 = y at *
            have oy : offF z y := q2.F.tr o3.F
            have oy6 : ∀ j, j ≠ k + 6 → y.1 116 j = z.1 116 j := fun j hj => by rw [o3.2.1 j hj, q2.1 116 (by omega)]
            have st : ∀ r, x_R (x_ev g_M P d) 222 (140, [some (.ref 110), some (.int (nI k))], [], mkH xs z) r ↔ x_R (x_ev g_M P d) 222 (140, [some (.ref 110), some (.int (nI k))], [], mkH xs y) r := fun r => by
              rw [s214]
              simp only [w_Ref_readMatter_214, w_Ref_readMatter_218, w_Ref_readMatter_223, w_Ref_readMatter_226, w_Ref_readMatter_232, w_Ref_readMatter_235, w_Ref_readMatter_239, w_Ref_readMatter_245, c_110, f_110_0, p_110_0, f_110_1, f_110_2, f_110_3, f_110_4, f_110_5, p_110_5, f_110_6, f_110_7, p_110_7, f_110_8, p_110_8, f_110_9, p_110_9, f_110_10, p_110_10, f_110_11, p_110_11, f_110_12, p_110_12, f_110_13, p_110_13, f_110_14, f_110_15, f_110_16, p_110_16, f_110_17, f_110_18, p_110_18, f_110_19, p_110_19, f_110_20, f_110_21, p_110_21, f_110_22, p_110_22, f_110_23, f_110_24, f_110_25, p_110_25, f_110_26, f_110_27, f_110_28, f_110_29, f_110_30, f_110_31, p_110_31, f_110_32, p_110_32, f_110_33, p_110_33, f_110_34, p_110_34, f_110_35, f_110_36, f_110_37, f_110_38, e_116, i_116, Option.some.injEq, exists_eq_left', exists_eq_left, Option.toList_some, Option.toList_none, List.cons_append, List.nil_append, true_and, and_true, Option.map_some, Option.map_none, p6, c6, r6', not_true_eq_false, if_false, x_ev_iff q1, show ¬ ((1 : Int32) = 0) by decide, l6, hy]
            have e : mkL b n M (u + 1 + 1) (t, on, dr, jg) = mkL b n M (u + 1) ((nxT b n t.1, none), on, dr, true) := by
              rw [mkL, if_pos h0, if_neg w10, if_neg w11, if_pos w12]
            rw [e]
            obtain ⟨z', m1, m2, m3, m4, m5, m6⟩ := ih ((nxT b n t.1, none), on, dr, true) y (by
              show (if on = 0 then 1 else 0) + ((if dr = true then 0 else 1) + (if true = true then 0 else 1)) = u
              rw [w12.2] at hu
              simp only [Bool.false_eq_true, if_false] at hu
              simp only [if_true]
              omega) q4 (tpR_F oy ht) (tkR_o (o3.1 110 (by omega)) q3) ⟨by rw [oy6 _ (by omega)]; exact r4, by rw [oy6 _ (by omega)]; exact r5, ev⟩ (by rw [oy6 4 (by omega)]; exact h4)
            exact ⟨z', fun r => (st r).trans (m1 r), m2, m3, oy.tr m4, fun j a c e => by rw [m5 j a c e, oy6 j e], m6⟩
          · obtain ⟨z1, q1, q2, q3⟩ := r_errs (P := P) (d := d) (xs := xs) (by omega) hok.2 htk 1
            rw [show nI 1 = 1 from rfl] at q1
            rw [h0.1] at q3
            have ok1 : tkOk n (t.1, some (1, t.1)) := ⟨hok.1, fOk_s (by omega) (by omega) (Nat.le_trans hok.1 ht.1)⟩
            have e : mkL b n M (u + 1 + 1) (t, on, dr, jg) = ((t.1, some (1, t.1)), on, dr, jg) := by
              rw [mkL, if_pos h0, if_neg w10, if_neg w11, if_neg w12]
            rw [e]
            refine ⟨z1, fun r => ?_, q3, ok1, q2.F, fun j _ _ _ => by rw [q2.1 116 (by omega)], fun w => by cases w⟩
            rw [← flt z1 (t.1, some (1, t.1)) ok1 q3 (fun w => by cases w) r, s214]
            cases hjg : jg with
            | false =>
              have r6' : z.1 116 (k + 6) = 0 := by rw [r6, hjg]; rfl
              have n12 : ¬ isW b n 12 t.1 = true := fun w => w12 ⟨w, hjg⟩
              have t0 := tk0 12 (by omega) n12
              rw [show 1000000 + 12 = 1000012 from rfl] at t0
              simp only [w_Ref_readMatter_214, w_Ref_readMatter_218, w_Ref_readMatter_223, w_Ref_readMatter_226, w_Ref_readMatter_232, w_Ref_readMatter_248, w_Ref_readMatter_253, c_110, f_110_0, p_110_0, f_110_1, f_110_2, f_110_3, f_110_4, f_110_5, p_110_5, f_110_6, f_110_7, p_110_7, f_110_8, p_110_8, f_110_9, p_110_9, f_110_10, p_110_10, f_110_11, p_110_11, f_110_12, p_110_12, f_110_13, p_110_13, f_110_14, f_110_15, f_110_16, p_110_16, f_110_17, f_110_18, p_110_18, f_110_19, p_110_19, f_110_20, f_110_21, p_110_21, f_110_22, p_110_22, f_110_23, f_110_24, f_110_25, p_110_25, f_110_26, f_110_27, f_110_28, f_110_29, f_110_30, f_110_31, p_110_31, f_110_32, p_110_32, f_110_33, p_110_33, f_110_34, p_110_34, f_110_35, f_110_36, f_110_37, f_110_38, e_116, i_116, Option.some.injEq, exists_eq_left', exists_eq_left, Option.toList_some, Option.toList_none, List.cons_append, List.nil_append, true_and, and_true, Option.map_some, Option.map_none, p6, c6, r6', not_true_eq_false, if_false, t0, if_true, x_ev_iff q1]
            | true =>
              have r6' : z.1 116 (k + 6) = 1 := by rw [r6, hjg]; rfl
              simp only [w_Ref_readMatter_214, w_Ref_readMatter_218, w_Ref_readMatter_223, w_Ref_readMatter_248, w_Ref_readMatter_253, c_110, f_110_0, p_110_0, f_110_1, f_110_2, f_110_3, f_110_4, f_110_5, p_110_5, f_110_6, f_110_7, p_110_7, f_110_8, p_110_8, f_110_9, p_110_9, f_110_10, p_110_10, f_110_11, p_110_11, f_110_12, p_110_12, f_110_13, p_110_13, f_110_14, f_110_15, f_110_16, p_110_16, f_110_17, f_110_18, p_110_18, f_110_19, p_110_19, f_110_20, f_110_21, p_110_21, f_110_22, p_110_22, f_110_23, f_110_24, f_110_25, p_110_25, f_110_26, f_110_27, f_110_28, f_110_29, f_110_30, f_110_31, p_110_31, f_110_32, p_110_32, f_110_33, p_110_33, f_110_34, p_110_34, f_110_35, f_110_36, f_110_37, f_110_38, e_116, i_116, Option.some.injEq, exists_eq_left', exists_eq_left, Option.toList_some, Option.toList_none, List.cons_append, List.nil_append, true_and, and_true, Option.map_some, Option.map_none, p6, c6, r6', show ¬ ((1 : Int32) = 0) by decide, not_false_eq_true, if_true, x_ev_iff q1]
    · have e : mkL b n M (u + 1 + 1) (t, on, dr, jg) = (t, on, dr, jg) := by rw [mkL, if_neg h0]
      rw [e]
      refine ⟨z, fun r => ?_, htk, hok, offF.rf, fun _ _ _ _ => rfl, fun _ => hr0⟩
      have hb : (decide (t.2 = none) && !decide (kdT b n t.1 = 3)) = false := by
        cases hb : (decide (t.2 = none) && !decide (kdT b n t.1 = 3)) with
        | false => rfl
        | true =>
          rw [Bool.and_eq_true, decide_eq_true_eq, Bool.not_eq_true', decide_eq_false_iff_not] at hb
          exact absurd hb h0
      simp only [w_Ref_readMatter_140 (l1 := nI k) (h := mkH xs z), w_Ref_readMatter_144, c_110, f_110_0, p_110_0, f_110_1, f_110_2, f_110_3, f_110_4, f_110_5, p_110_5, f_110_6, f_110_7, p_110_7, f_110_8, p_110_8, f_110_9, p_110_9, f_110_10, p_110_10, f_110_11, p_110_11, f_110_12, p_110_12, f_110_13, p_110_13, f_110_14, f_110_15, f_110_16, p_110_16, f_110_17, f_110_18, p_110_18, f_110_19, p_110_19, f_110_20, f_110_21, p_110_21, f_110_22, p_110_22, f_110_23, f_110_24, f_110_25, p_110_25, f_110_26, f_110_27, f_110_28, f_110_29, f_110_30, f_110_31, p_110_31, f_110_32, p_110_32, f_110_33, p_110_33, f_110_34, p_110_34, f_110_35, f_110_36, f_110_37, f_110_38, Option.some.injEq, exists_eq_left', exists_eq_left, Option.toList_some, Option.toList_none, List.cons_append, List.nil_append, true_and, and_true, Option.map_some, Option.map_none, r_moreMarks (d := d) (by omega) hok.2 htk, hb, b01, Bool.false_eq_true, if_false, if_true]
end RMARKS
