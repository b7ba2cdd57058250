/-! THE READER of the reference: a LINE, all LINES (own work) -/
section RREAD2
variable {P : Nat → List Value → Option Value} {d : Nat} {xs : List Int32} {b : Nat → Int32} {n : Nat}
theorem isW_47 {i : Nat} (h : isW b n 4 i = true) : isW b n 7 i = false := by
  have := isW_x (v := 4) (w := 7) (by decide) (by decide) (by decide) h
  simpa using this
set_option maxHeartbeats 4000000 in
theorem r_readNext (hd : 11 ≤ d) (hP : wdP P) {s : xS} {T : Tw} {t : Tk} (ht : tpR s b n) (hW : tWf T) (hn : t.2 = none) (hok : tkOk n t) (htk : tkR s b n t) (hf : frF s T) : ∃ s', x_ev g_M P d 223 [.ref 110] (mkH xs s) (none, mkH xs s') ∧ tkR s' b n (rdN b n T t).1 ∧ tkOk n (rdN b n T t).1 ∧ offF s s' ∧ ((rdN b n T t).1.2 = none → frF s' (rdN b n T t).2) := by
  obtain ⟨d, rfl⟩ := x_1 (d := d) (by omega)
  have w1 := hW.1
  have w2 := hW.2.1
  have f3 := hf.1.2.2.2.1
  have f4 := hf.1.2.2.2.2.1
  have i4 := fun q => r_is (P := P) (d := d) (xs := xs) (q := q) (by omega) hP ht hok htk (show 4 < 13 by omega)
  have i7 := fun q => r_is (P := P) (d := d) (xs := xs) (q := q) (by omega) hP ht hok htk (show 7 < 13 by omega)
  rw [show 1000000 + 4 = 1000004 from rfl] at i4
  rw [show 1000000 + 7 = 1000007 from rfl] at i7
  have er : ∀ (c : Nat), 0 < c → c < 4 → ∃ s', x_ev g_M P d 211 [.ref 110, .int (nI c)] (mkH xs s) (none, mkH xs s') ∧ offU s s' ∧ tkR s' b n (t.1, some (c, t.1)) ∧ tkOk n (t.1, some (c, t.1)) := fun c c1 c2 => by
    obtain ⟨s1, a1, a2, a3⟩ := r_errs (P := P) (d := d) (xs := xs) (by omega) hok.2 htk c
    rw [hn] at a3
    exact ⟨s1, a1, a2, a3, hok.1, fOk_s c1 c2 (Nat.le_trans hok.1 ht.1)⟩
  unfold rdN
  by_cases hw4 : isW b n 4 t.1 = true
  · have hw7 := isW_47 hw4
    rw [if_pos hw4]
    by_cases h6 : tP T < 6
    · rw [if_pos h6]
      have c6 : ¬ nI (tP T) = 6 := fun z => by have := (nI_eq (a := tP T) (b := 6) (by omega) (by omega)).mp z; omega
      obtain ⟨s1, a1, a2, a3⟩ := r_takes (P := P) (d := d) (xs := xs) (by omega) hP ht hok htk (show 4 < 13 by omega)
      have e : tkT b n 4 t = (true, nxT b n t.1, t.2) := by unfold tkT; rw [if_pos (by rw [hw4, decide_eq_true hn]; rfl)]
      rw [e] at a1 a3
      have a1 : x_ev g_M P d 213 [.ref 110, .ref 1000004] (mkH xs s) (some (.int 1), mkH xs s1) := a1
      obtain ⟨s2, b1, b2, b3, b4, b5⟩ := r_readPerson (P := P) (d := d) (xs := xs) (by omega) hP (ht.off (a2.1 114 (by omega))) h6 (t := (nxT b n t.1, t.2)) ⟨(nxT_le hok.1).2, hok.2⟩ a3 (frF_o (a2.1 116 (by omega)) hf)
      refine ⟨s2, ?_, b2, b3, a2.F.tr b4, fun _ => b5⟩
      rw [x_ev_in rfl (Nat.le_of_ble_eq_true rfl)]
      rw [show x_ent (x_nL g_M 223) [.ref 110] = [some (.ref 110)] from rfl]
      simp only [w_Ref_readNext_0, w_Ref_readNext_6, w_Ref_readNext_9, w_Ref_readNext_15, w_Ref_readNext_18, w_Ref_readNext_23, w_Ref_readNext_29, w_Ref_readNext_32, w_Ref_readNext_36, w_Ref_readNext_38, w_Ref_readNext_43, w_Ref_readNext_49, w_Ref_readNext_52, w_Ref_readNext_56, w_Ref_readNext_58, w_Ref_readNext_63, w_Ref_readNext_68, w_Ref_readNext_72, w_Ref_readNext_75, w_Ref_readNext_76, w_Ref_readNext_82, w_Ref_readNext_85, w_Ref_readNext_89, w_Ref_readNext_92, w_Ref_readNext_96, w_Ref_readNext_100, c_110, f_110_0, p_110_0, f_110_1, f_110_2, f_110_3, f_110_4, f_110_5, p_110_5, f_110_6, f_110_7, p_110_7, f_110_8, p_110_8, f_110_9, p_110_9, f_110_10, p_110_10, f_110_11, p_110_11, f_110_12, p_110_12, f_110_13, p_110_13, f_110_14, f_110_15, f_110_16, p_110_16, f_110_17, f_110_18, p_110_18, f_110_19, p_110_19, f_110_20, f_110_21, p_110_21, f_110_22, p_110_22, f_110_23, f_110_24, f_110_25, p_110_25, f_110_26, f_110_27, f_110_28, f_110_29, f_110_30, f_110_31, p_110_31, f_110_32, p_110_32, f_110_33, p_110_33, f_110_34, p_110_34, f_110_35, f_110_36, f_110_37, f_110_38, e_116, i_116, Option.some.injEq, exists_eq_left', exists_eq_left, Option.toList_some, Option.toList_none, List.cons_append, List.nil_append, true_and, and_true, Option.map_some, Option.map_none, i4, i7, hn, hw4, hw7, decide_true, Bool.and_true, Bool.and_false, b01, if_true, show ¬ ((1 : Int32) = 0) by decide, not_false_eq_true, rd116_3, f3, c6, if_false, Bool.false_eq_true, r_good (d := d) (by omega) hok.2 htk, x_ev_iff a1, x_ev_iff b1]
    · rw [if_neg h6]
      have c6 : nI (tP T) = 6 := by rw [show tP T = 6 by omega]; rfl
      obtain ⟨s1, a1, a2, a3, a4⟩ := er 3 (by omega) (by omega)
      rw [show nI 3 = 3 from rfl] at a1
      refine ⟨s1, ?_, a3, a4, a2.F, fun z => by cases z⟩
      rw [x_ev_in rfl (Nat.le_of_ble_eq_true rfl)]
      rw [show x_ent (x_nL g_M 223) [.ref 110] = [some (.ref 110)] from rfl]
      simp only [w_Ref_readNext_0, w_Ref_readNext_6, w_Ref_readNext_9, w_Ref_readNext_15, w_Ref_readNext_18, w_Ref_readNext_23, w_Ref_readNext_29, w_Ref_readNext_32, w_Ref_readNext_36, w_Ref_readNext_38, w_Ref_readNext_43, w_Ref_readNext_49, w_Ref_readNext_52, w_Ref_readNext_56, w_Ref_readNext_58, w_Ref_readNext_63, w_Ref_readNext_68, w_Ref_readNext_72, w_Ref_readNext_75, w_Ref_readNext_76, w_Ref_readNext_82, w_Ref_readNext_85, w_Ref_readNext_89, w_Ref_readNext_92, w_Ref_readNext_96, w_Ref_readNext_100, c_110, f_110_0, p_110_0, f_110_1, f_110_2, f_110_3, f_110_4, f_110_5, p_110_5, f_110_6, f_110_7, p_110_7, f_110_8, p_110_8, f_110_9, p_110_9, f_110_10, p_110_10, f_110_11, p_110_11, f_110_12, p_110_12, f_110_13, p_110_13, f_110_14, f_110_15, f_110_16, p_110_16, f_110_17, f_110_18, p_110_18, f_110_19, p_110_19, f_110_20, f_110_21, p_110_21, f_110_22, p_110_22, f_110_23, f_110_24, f_110_25, p_110_25, f_110_26, f_110_27, f_110_28, f_110_29, f_110_30, f_110_31, p_110_31, f_110_32, p_110_32, f_110_33, p_110_33, f_110_34, p_110_34, f_110_35, f_110_36, f_110_37, f_110_38, e_116, i_116, Option.some.injEq, exists_eq_left', exists_eq_left, Option.toList_some, Option.toList_none, List.cons_append, List.nil_append, true_and, and_true, Option.map_some, Option.map_none, i4, hn, hw4, decide_true, Bool.and_true, b01, if_true, show ¬ ((1 : Int32) = 0) by decide, not_false_eq_true, rd116_3, f3, c6, if_false, x_ev_iff a1, r_good (d := d) (by omega) a4.2 a3, decide_false, Bool.false_eq_true, reduceCtorEq, not_true_eq_false]
  · have hw4' : isW b n 4 t.1 = false := by simpa using hw4
    rw [if_neg hw4]
    by_cases hw7 : isW b n 7 t.1 = true
    · rw [if_pos hw7]
      by_cases h8 : tM T < 8
      · rw [if_pos h8]
        have c8 : ¬ nI (tM T) = 8 := fun z => by have := (nI_eq (a := tM T) (b := 8) (by omega) (by omega)).mp z; omega
        have t0 := fun q => r_takes0 (P := P) (d := d) (xs := xs) (q := q) (by omega) hP ht hok htk (show 4 < 13 by omega) (by rw [hw4', Bool.and_false])
        rw [show 1000000 + 4 = 1000004 from rfl] at t0
        obtain ⟨s1, a1, a2, a3⟩ := r_advance (P := P) (d := d) (xs := xs) (by omega) ht hok.1 htk
        obtain ⟨s2, b1, b2, b3, b4, b5⟩ := r_readMatter (P := P) (d := d) (xs := xs) (by omega) hP (ht.off (a2.1 114 (by omega))) hW h8 (t := (nxT b n t.1, t.2)) ⟨(nxT_le hok.1).2, hok.2⟩ a3 (frF_o (a2.1 116 (by omega)) hf)
        refine ⟨s2, ?_, b2, b3, a2.F.tr b4, b5⟩
        rw [x_ev_in rfl (Nat.le_of_ble_eq_true rfl)]
        rw [show x_ent (x_nL g_M 223) [.ref 110] = [some (.ref 110)] from rfl]
        simp only [w_Ref_readNext_0, w_Ref_readNext_6, w_Ref_readNext_9, w_Ref_readNext_15, w_Ref_readNext_18, w_Ref_readNext_23, w_Ref_readNext_29, w_Ref_readNext_32, w_Ref_readNext_36, w_Ref_readNext_38, w_Ref_readNext_43, w_Ref_readNext_49, w_Ref_readNext_52, w_Ref_readNext_56, w_Ref_readNext_58, w_Ref_readNext_63, w_Ref_readNext_68, w_Ref_readNext_72, w_Ref_readNext_75, w_Ref_readNext_76, w_Ref_readNext_82, w_Ref_readNext_85, w_Ref_readNext_89, w_Ref_readNext_92, w_Ref_readNext_96, w_Ref_readNext_100, c_110, f_110_0, p_110_0, f_110_1, f_110_2, f_110_3, f_110_4, f_110_5, p_110_5, f_110_6, f_110_7, p_110_7, f_110_8, p_110_8, f_110_9, p_110_9, f_110_10, p_110_10, f_110_11, p_110_11, f_110_12, p_110_12, f_110_13, p_110_13, f_110_14, f_110_15, f_110_16, p_110_16, f_110_17, f_110_18, p_110_18, f_110_19, p_110_19, f_110_20, f_110_21, p_110_21, f_110_22, p_110_22, f_110_23, f_110_24, f_110_25, p_110_25, f_110_26, f_110_27, f_110_28, f_110_29, f_110_30, f_110_31, p_110_31, f_110_32, p_110_32, f_110_33, p_110_33, f_110_34, p_110_34, f_110_35, f_110_36, f_110_37, f_110_38, e_116, i_116, Option.some.injEq, exists_eq_left', exists_eq_left, Option.toList_some, Option.toList_none, List.cons_append, List.nil_append, true_and, and_true, Option.map_some, Option.map_none, i4, i7, hn, hw4', hw7, decide_true, Bool.and_true, Bool.and_false, b01, if_true, show ¬ ((1 : Int32) = 0) by decide, not_false_eq_true, rd116_4, f4, c8, if_false, Bool.false_eq_true, not_true_eq_false, r_good (d := d) (by omega) hok.2 htk, t0, x_ev_iff a1, x_ev_iff b1]
      · rw [if_neg h8]
        have c8 : nI (tM T) = 8 := by rw [show tM T = 8 by omega]; rfl
        obtain ⟨s1, a1, a2, a3, a4⟩ := er 3 (by omega) (by omega)
        rw [show nI 3 = 3 from rfl] at a1
        refine ⟨s1, ?_, a3, a4, a2.F, fun z => by cases z⟩
        rw [x_ev_in rfl (Nat.le_of_ble_eq_true rfl)]
        rw [show x_ent (x_nL g_M 223) [.ref 110] = [some (.ref 110)] from rfl]
        simp only [w_Ref_readNext_0, w_Ref_readNext_6, w_Ref_readNext_9, w_Ref_readNext_15, w_Ref_readNext_18, w_Ref_readNext_23, w_Ref_readNext_29, w_Ref_readNext_32, w_Ref_readNext_36, w_Ref_readNext_38, w_Ref_readNext_43, w_Ref_readNext_49, w_Ref_readNext_52, w_Ref_readNext_56, w_Ref_readNext_58, w_Ref_readNext_63, w_Ref_readNext_68, w_Ref_readNext_72, w_Ref_readNext_75, w_Ref_readNext_76, w_Ref_readNext_82, w_Ref_readNext_85, w_Ref_readNext_89, w_Ref_readNext_92, w_Ref_readNext_96, w_Ref_readNext_100, c_110, f_110_0, p_110_0, f_110_1, f_110_2, f_110_3, f_110_4, f_110_5, p_110_5, f_110_6, f_110_7, p_110_7, f_110_8, p_110_8, f_110_9, p_110_9, f_110_10, p_110_10, f_110_11, p_110_11, f_110_12, p_110_12, f_110_13, p_110_13, f_110_14, f_110_15, f_110_16, p_110_16, f_110_17, f_110_18, p_110_18, f_110_19, p_110_19, f_110_20, f_110_21, p_110_21, f_110_22, p_110_22, f_110_23, f_110_24, f_110_25, p_110_25, f_110_26, f_110_27, f_110_28, f_110_29, f_110_30, f_110_31, p_110_31, f_110_32, p_110_32, f_110_33, p_110_33, f_110_34, p_110_34, f_110_35, f_110_36, f_110_37, f_110_38, e_116, i_116, Option.some.injEq, exists_eq_left', exists_eq_left, Option.toList_some, Option.toList_none, List.cons_append, List.nil_append, true_and, and_true, Option.map_some, Option.map_none, i4, i7, hn, hw4', hw7, decide_true, Bool.and_true, Bool.and_false, b01, if_true, show ¬ ((1 : Int32) = 0) by decide, not_false_eq_true, rd116_4, f4, c8, if_false, x_ev_iff a1, r_good (d := d) (by omega) a4.2 a3, decide_false, Bool.false_eq_true, reduceCtorEq, not_true_eq_false]
    · have hw7' : isW b n 7 t.1 = false := by simpa using hw7
      rw [if_neg hw7]
      obtain ⟨s1, a1, a2, a3, a4⟩ := er 1 (by omega) (by omega)
      rw [show nI 1 = 1 from rfl] at a1
      have j4 := fun q => r_is (P := P) (d := d) (xs := xs) (q := q) (by omega) hP (ht.off (a2.1 114 (by omega))) a4 a3 (show 4 < 13 by omega)
      have j7 := fun q => r_is (P := P) (d := d) (xs := xs) (q := q) (by omega) hP (ht.off (a2.1 114 (by omega))) a4 a3 (show 7 < 13 by omega)
      rw [show 1000000 + 4 = 1000004 from rfl] at j4
      rw [show 1000000 + 7 = 1000007 from rfl] at j7
      refine ⟨s1, ?_, a3, a4, a2.F, fun z => by cases z⟩
      rw [x_ev_in rfl (Nat.le_of_ble_eq_true rfl)]
      rw [show x_ent (x_nL g_M 223) [.ref 110] = [some (.ref 110)] from rfl]
      simp only [w_Ref_readNext_0, w_Ref_readNext_6, w_Ref_readNext_9, w_Ref_readNext_15, w_Ref_readNext_18, w_Ref_readNext_23, w_Ref_readNext_29, w_Ref_readNext_32, w_Ref_readNext_36, w_Ref_readNext_38, w_Ref_readNext_43, w_Ref_readNext_49, w_Ref_readNext_52, w_Ref_readNext_56, w_Ref_readNext_58, w_Ref_readNext_63, w_Ref_readNext_68, w_Ref_readNext_72, w_Ref_readNext_75, w_Ref_readNext_76, w_Ref_readNext_82, w_Ref_readNext_85, w_Ref_readNext_89, w_Ref_readNext_92, w_Ref_readNext_96, w_Ref_readNext_100, c_110, f_110_0, p_110_0, f_110_1, f_110_2, f_110_3, f_110_4, f_110_5, p_110_5, f_110_6, f_110_7, p_110_7, f_110_8, p_110_8, f_110_9, p_110_9, f_110_10, p_110_10, f_110_11, p_110_11, f_110_12, p_110_12, f_110_13, p_110_13, f_110_14, f_110_15, f_110_16, p_110_16, f_110_17, f_110_18, p_110_18, f_110_19, p_110_19, f_110_20, f_110_21, p_110_21, f_110_22, p_110_22, f_110_23, f_110_24, f_110_25, p_110_25, f_110_26, f_110_27, f_110_28, f_110_29, f_110_30, f_110_31, p_110_31, f_110_32, p_110_32, f_110_33, p_110_33, f_110_34, p_110_34, f_110_35, f_110_36, f_110_37, f_110_38, Option.some.injEq, exists_eq_left', exists_eq_left, Option.toList_some, Option.toList_none, List.cons_append, List.nil_append, true_and, and_true, Option.map_some, Option.map_none, i4, i7, hn, hw4', hw7', decide_true, Bool.and_false, b01, Bool.false_eq_true, if_false, not_true_eq_false, x_ev_iff a1, j4, j7, reduceCtorEq, decide_false, Bool.false_and, if_true, r_good (d := d) (by omega) a4.2 a3]
set_option maxHeartbeats 4000000 in
theorem r_lineW (hd : 10 ≤ d) (hP : wdP P) {s : xS} {T : Tw} {t : Tk} (ht : tpR s b n) (hok : tkOk n t) (htk : tkR s b n t) (hf : frF s T) : ∃ s', (∀ r, x_R (x_ev g_M P d) 224 (9, [some (.ref 110)], [], mkH xs s) r ↔ x_R (x_ev g_M P d) 224 (67, [some (.ref 110)], [], mkH xs s') r) ∧ tkR s' b n (rdW b n T t).1 ∧ tkOk n (rdW b n T t).1 ∧ offF s s' ∧ frF s' (rdW b n T t).2 := by
  obtain ⟨s1, a1, a2, a3⟩ := r_needs (P := P) (d := d) (xs := xs) (by omega) hP ht hok htk (show 0 < 13 by omega)
  have a1 : x_ev g_M P d 214 [.ref 110, .ref 1000000] (mkH xs s) (none, mkH xs s1) := a1
  have k1 := tkW_ok (b := b) (w := 0) ht.1 hok
  have F1 := a2.F
  obtain ⟨s2, b1, b2, b3⟩ := r_told (P := P) (d := d) (xs := xs) (by omega) hP (tpR_F F1 ht) k1 a3 (show 1 < 13 by omega) (show (99 : Int32) ≤ 100 by decide)
  have b1 : x_ev g_M P d 216 [.ref 110, .ref 1000001, .int 0, .int 99] (mkH xs s1) (some (.int (r1W b n t).1), mkH xs s2) := b1
  have b3 : tkR s2 b n (r1W b n t).2 := b3
  have k2 : tkOk n (r1W b n t).2 := tkN_ok (b := b) (x := 99) (u := -1) ht.1 (tkW_ok (b := b) (w := 1) ht.1 k1)
  have o2 := oC_p s2 116 0 (r1W b n t).1
  have v2 : (s_p s2 116 0 (r1W b n t).1).1 116 0 = (r1W b n t).1 := s_p_v _ _ _ _
  generalize hy2 : s_p s2 116 0 (r1W b n t).1 = y2 at *
  have F2 := (F1.tr b2.F).tr o2.F
  obtain ⟨s3, c1, c2, c3⟩ := r_told (P := P) (d := d) (xs := xs) (by omega) hP (tpR_F F2 ht) k2 (tkR_o (o2.1 110 (by omega)) b3) (show 2 < 13 by omega) (show (9 : Int32) ≤ 100 by decide)
  have c1 : x_ev g_M P d 216 [.ref 110, .ref 1000002, .int 0, .int 9] (mkH xs y2) (some (.int (r2W b n t).1), mkH xs s3) := c1
  have c3 : tkR s3 b n (r2W b n t).2 := c3
  have k3 : tkOk n (r2W b n t).2 := tkN_ok (b := b) (x := 9) (u := -1) ht.1 (tkW_ok (b := b) (w := 2) ht.1 k2)
  have o3 := oC_p s3 116 1 (r2W b n t).1
  have v3 : (s_p s3 116 1 (r2W b n t).1).1 116 1 = (r2W b n t).1 := s_p_v _ _ _ _
  generalize hy3 : s_p s3 116 1 (r2W b n t).1 = y3 at *
  have F3 := (F2.tr c2.F).tr o3.F
  obtain ⟨s4, d1, d2, d3⟩ := r_told (P := P) (d := d) (xs := xs) (by omega) hP (tpR_F F3 ht) k3 (tkR_o (o3.1 110 (by omega)) c3) (show 3 < 13 by omega) (show (100 : Int32) ≤ 100 by decide)
  have d1 : x_ev g_M P d 216 [.ref 110, .ref 1000003, .int 0, .int 100] (mkH xs y3) (some (.int (r3W b n t).1), mkH xs s4) := d1
  have d3 : tkR s4 b n (r3W b n t).2 := d3
  have k4 : tkOk n (r3W b n t).2 := tkN_ok (b := b) (x := 100) (u := -1) ht.1 (tkW_ok (b := b) (w := 3) ht.1 k3)
  have o4 := oC_p s4 116 2 (r3W b n t).1
  have v4 : (s_p s4 116 2 (r3W b n t).1).1 116 2 = (r3W b n t).1 := s_p_v _ _ _ _
  generalize hy4 : s_p s4 116 2 (r3W b n t).1 = y4 at *
  refine ⟨y4, fun r => ?_, tkR_o (o4.1 110 (by omega)) d3, k4, (F3.tr d2.F).tr o4.F, fr_W hf ?_ ?_ v4 (fun j hj => ?_)⟩
  · simp only [w_Ref_readLine_9, w_Ref_readLine_15, w_Ref_readLine_19, w_Ref_readLine_29, w_Ref_readLine_30, w_Ref_readLine_34, w_Ref_readLine_44, w_Ref_readLine_45, w_Ref_readLine_49, w_Ref_readLine_59, w_Ref_readLine_60, c_110, f_110_0, p_110_0, f_110_1, f_110_2, f_110_3, f_110_4, f_110_5, p_110_5, f_110_6, f_110_7, p_110_7, f_110_8, p_110_8, f_110_9, p_110_9, f_110_10, p_110_10, f_110_11, p_110_11, f_110_12, p_110_12, f_110_13, p_110_13, f_110_14, f_110_15, f_110_16, p_110_16, f_110_17, f_110_18, p_110_18, f_110_19, p_110_19, f_110_20, f_110_21, p_110_21, f_110_22, p_110_22, f_110_23, f_110_24, f_110_25, p_110_25, f_110_26, f_110_27, f_110_28, f_110_29, f_110_30, f_110_31, p_110_31, f_110_32, p_110_32, f_110_33, p_110_33, f_110_34, p_110_34, f_110_35, f_110_36, f_110_37, f_110_38, e_116, i_116, Option.some.injEq, exists_eq_left', exists_eq_left, Option.toList_some, Option.toList_none, List.cons_append, List.nil_append, true_and, and_true, Option.map_some, Option.map_none, x_ev_iff a1, x_ev_iff b1, rd116_0, cl_0, hy2, x_ev_iff c1, rd116_1, cl_1, hy3, x_ev_iff d1, rd116_2, cl_2, hy4]
  · rw [o4.2.1 0 (by omega), d2.1 116 (by omega), o3.2.1 0 (by omega), c2.1 116 (by omega), v2]
  · rw [o4.2.1 1 (by omega), d2.1 116 (by omega), v3]
  · rw [o4.2.1 j (by omega), d2.1 116 (by omega), o3.2.1 j (by omega), c2.1 116 (by omega), o2.2.1 j (by omega), b2.1 116 (by omega), a2.1 116 (by omega)]
theorem r_readLine (hd : 12 ≤ d) (hP : wdP P) {s : xS} {T : Tw} {t : Tk} (ht : tpR s b n) (hW : tWf T) (hn : t.2 = none) (hok : tkOk n t) (htk : tkR s b n t) (hf : frF s T) : ∃ s', x_ev g_M P d 224 [.ref 110] (mkH xs s) (none, mkH xs s') ∧ tkR s' b n (rdL b n T t).1 ∧ tkOk n (rdL b n T t).1 ∧ offF s s' ∧ ((rdL b n T t).1.2 = none → frF s' (rdL b n T t).2) := by
  obtain ⟨d, rfl⟩ := x_1 (d := d) (by omega)
  have f5 := hf.1.2.2.2.2.2.1
  have hB : ∃ s1, (∀ r, x_ev g_M P (d + 1) 224 [.ref 110] (mkH xs s) r ↔ x_R (x_ev g_M P d) 224 (67, [some (.ref 110)], [], mkH xs s1) r) ∧ tkR s1 b n (rdB b n T t).1 ∧ tkOk n (rdB b n T t).1 ∧ offF s s1 ∧ ((rdB b n T t).1.2 = none → frF s1 (rdB b n T t).2) := by
    unfold rdB
    by_cases hl : tLi T = 0
    · rw [if_pos hl]
      obtain ⟨s1, a1, a2, a3, a4, a5⟩ := r_lineW (P := P) (d := d) (xs := xs) (by omega) hP ht hok htk hf
      refine ⟨s1, fun r => ?_, a2, a3, a4, fun _ => a5⟩
      rw [← a1 r]
      rw [x_ev_in rfl (Nat.le_of_ble_eq_true rfl)]
      rw [show x_ent (x_nL g_M 224) [.ref 110] = [some (.ref 110)] from rfl]
      simp only [w_Ref_readLine_0, w_Ref_readLine_4, w_Ref_readLine_6, c_110, f_110_0, p_110_0, f_110_1, f_110_2, f_110_3, f_110_4, f_110_5, p_110_5, f_110_6, f_110_7, p_110_7, f_110_8, p_110_8, f_110_9, p_110_9, f_110_10, p_110_10, f_110_11, p_110_11, f_110_12, p_110_12, f_110_13, p_110_13, f_110_14, f_110_15, f_110_16, p_110_16, f_110_17, f_110_18, p_110_18, f_110_19, p_110_19, f_110_20, f_110_21, p_110_21, f_110_22, p_110_22, f_110_23, f_110_24, f_110_25, p_110_25, f_110_26, f_110_27, f_110_28, f_110_29, f_110_30, f_110_31, p_110_31, f_110_32, p_110_32, f_110_33, p_110_33, f_110_34, p_110_34, f_110_35, f_110_36, f_110_37, f_110_38, e_116, i_116, Option.some.injEq, exists_eq_left', exists_eq_left, Option.toList_some, Option.toList_none, List.cons_append, List.nil_append, true_and, and_true, Option.map_some, Option.map_none, rd116_5, f5, hl, not_true_eq_false, if_false]
    · rw [if_neg hl]
      obtain ⟨s1, a1, a2, a3, a4, a5⟩ := r_readNext (P := P) (d := d) (xs := xs) (by omega) hP ht hW hn hok htk hf
      refine ⟨s1, fun r => ?_, a2, a3, a4, a5⟩
      rw [x_ev_in rfl (Nat.le_of_ble_eq_true rfl)]
      rw [show x_ent (x_nL g_M 224) [.ref 110] = [some (.ref 110)] from rfl]
      simp only [w_Ref_readLine_0, w_Ref_readLine_4, w_Ref_readLine_6, w_Ref_readLine_63, c_110, f_110_0, p_110_0, f_110_1, f_110_2, f_110_3, f_110_4, f_110_5, p_110_5, f_110_6, f_110_7, p_110_7, f_110_8, p_110_8, f_110_9, p_110_9, f_110_10, p_110_10, f_110_11, p_110_11, f_110_12, p_110_12, f_110_13, p_110_13, f_110_14, f_110_15, f_110_16, p_110_16, f_110_17, f_110_18, p_110_18, f_110_19, p_110_19, f_110_20, f_110_21, p_110_21, f_110_22, p_110_22, f_110_23, f_110_24, f_110_25, p_110_25, f_110_26, f_110_27, f_110_28, f_110_29, f_110_30, f_110_31, p_110_31, f_110_32, p_110_32, f_110_33, p_110_33, f_110_34, p_110_34, f_110_35, f_110_36, f_110_37, f_110_38, e_116, i_116, Option.some.injEq, exists_eq_left', exists_eq_left, Option.toList_some, Option.toList_none, List.cons_append, List.nil_append, true_and, and_true, Option.map_some, Option.map_none, rd116_5, f5, hl, not_false_eq_true, if_true, x_ev_iff a1]
  obtain ⟨s1, st, a2, a3, a4, a5⟩ := hB
  have hk4 := kdT_4 b n (rdB b n T t).1.1
  have k4 := a2.2.2.2.1
  have ht1 := tpR_F a4 ht
  have fin : ∀ s2 : xS, (∀ r, x_R (x_ev g_M P d) 224 (67, [some (.ref 110)], [], mkH xs s1) r ↔ x_R (x_ev g_M P d) 224 (98, [some (.ref 110)], [], mkH xs s2) r) → offU s1 s2 → tkR s2 b n (lnE b n (rdB b n T t).1) → tkOk n (lnE b n (rdB b n T t).1) → ((lnE b n (rdB b n T t).1).2 = none → (rdB b n T t).1.2 = none) → ∃ s', x_ev g_M P (d + 1) 224 [.ref 110] (mkH xs s) (none, mkH xs s') ∧ tkR s' b n (rdL b n T t).1 ∧ tkOk n (rdL b n T t).1 ∧ offF s s' ∧ ((rdL b n T t).1.2 = none → frF s' (rdL b n T t).2) := fun s2 st2 o2 t2 ok2 hh => by
    have o3 := oC_p s2 116 5 (s2.1 116 5 + 1)
    refine ⟨s_p s2 116 5 (s2.1 116 5 + 1), ?_, tkR_o (o3.1 110 (by omega)) t2, ok2, (a4.tr o2.F).tr o3.F, fun w => fr_I (frF_o (o2.1 116 (by omega)) (a5 (hh w)))⟩
    rw [st, st2]
    simp only [w_Ref_readLine_98, w_Ref_readLine_102, w_Ref_readLine_105, w_Ref_readLine_108, c_110, f_110_0, p_110_0, f_110_1, f_110_2, f_110_3, f_110_4, f_110_5, p_110_5, f_110_6, f_110_7, p_110_7, f_110_8, p_110_8, f_110_9, p_110_9, f_110_10, p_110_10, f_110_11, p_110_11, f_110_12, p_110_12, f_110_13, p_110_13, f_110_14, f_110_15, f_110_16, p_110_16, f_110_17, f_110_18, p_110_18, f_110_19, p_110_19, f_110_20, f_110_21, p_110_21, f_110_22, p_110_22, f_110_23, f_110_24, f_110_25, p_110_25, f_110_26, f_110_27, f_110_28, f_110_29, f_110_30, f_110_31, p_110_31, f_110_32, p_110_32, f_110_33, p_110_33, f_110_34, p_110_34, f_110_35, f_110_36, f_110_37, f_110_38, e_116, i_116, Option.some.injEq, exists_eq_left', exists_eq_left, Option.toList_some, Option.toList_none, List.cons_append, List.nil_append, true_and, and_true, Option.map_some, Option.map_none, rd116_5, cl_5]
  by_cases hb : (rdB b n T t).1.2 = none
  · by_cases hk : kdT b n (rdB b n T t).1.1 = 3
    · have kk : nI (kdT b n (rdB b n T t).1.1) = 3 := by rw [hk]; rfl
      obtain ⟨s2, q1, q2, q3⟩ := r_advance (P := P) (d := d) (xs := xs) (by omega) ht1 a3.1 a2
      have e : lnE b n (rdB b n T t).1 = (nxT b n (rdB b n T t).1.1, none) := by unfold lnE; rw [if_pos hb, if_pos hk]
      rw [hb] at q3
      refine fin s2 (fun r => ?_) q2 (by rw [e]; exact q3) (by rw [e]; exact ⟨(nxT_le a3.1).2, fOk_n⟩) (fun _ => hb)
      simp only [w_Ref_readLine_67, w_Ref_readLine_71, w_Ref_readLine_74, w_Ref_readLine_78, w_Ref_readLine_87, w_Ref_readLine_91, w_Ref_readLine_94, c_110, f_110_0, p_110_0, f_110_1, f_110_2, f_110_3, f_110_4, f_110_5, p_110_5, f_110_6, f_110_7, p_110_7, f_110_8, p_110_8, f_110_9, p_110_9, f_110_10, p_110_10, f_110_11, p_110_11, f_110_12, p_110_12, f_110_13, p_110_13, f_110_14, f_110_15, f_110_16, p_110_16, f_110_17, f_110_18, p_110_18, f_110_19, p_110_19, f_110_20, f_110_21, p_110_21, f_110_22, p_110_22, f_110_23, f_110_24, f_110_25, p_110_25, f_110_26, f_110_27, f_110_28, f_110_29, f_110_30, f_110_31, p_110_31, f_110_32, p_110_32, f_110_33, p_110_33, f_110_34, p_110_34, f_110_35, f_110_36, f_110_37, f_110_38, Option.some.injEq, exists_eq_left', exists_eq_left, Option.toList_some, Option.toList_none, List.cons_append, List.nil_append, true_and, and_true, Option.map_some, Option.map_none, r_good (d := d) (by omega) a3.2 a2, hb, decide_true, b01, if_true, show ¬ ((1 : Int32) = 0) by decide, if_false, k4, kk, x_ev_iff q1]
    · have kk : ¬ nI (kdT b n (rdB b n T t).1.1) = 3 := fun w => hk ((nI_eq (b := 3) (by omega) (by omega)).mp w)
      obtain ⟨s2, q1, q2, q3⟩ := r_errs (P := P) (d := d) (xs := xs) (by omega) a3.2 a2 1
      rw [show nI 1 = 1 from rfl] at q1
      have e : lnE b n (rdB b n T t).1 = ((rdB b n T t).1.1, some (1, (rdB b n T t).1.1)) := by unfold lnE; rw [if_pos hb, if_neg hk]
      rw [hb] at q3
      have q3 : tkR s2 b n ((rdB b n T t).1.1, some (1, (rdB b n T t).1.1)) := q3
      have ok2 : tkOk n ((rdB b n T t).1.1, some (1, (rdB b n T t).1.1)) := ⟨a3.1, fOk_s (by omega) (by omega) (Nat.le_trans a3.1 ht.1)⟩
      refine fin s2 (fun r => ?_) q2 (by rw [e]; exact q3) (by rw [e]; exact ok2) (fun _ => hb)
      simp only [w_Ref_readLine_67, w_Ref_readLine_71, w_Ref_readLine_74, w_Ref_readLine_78, w_Ref_readLine_82, w_Ref_readLine_87, w_Ref_readLine_91, c_110, f_110_0, p_110_0, f_110_1, f_110_2, f_110_3, f_110_4, f_110_5, p_110_5, f_110_6, f_110_7, p_110_7, f_110_8, p_110_8, f_110_9, p_110_9, f_110_10, p_110_10, f_110_11, p_110_11, f_110_12, p_110_12, f_110_13, p_110_13, f_110_14, f_110_15, f_110_16, p_110_16, f_110_17, f_110_18, p_110_18, f_110_19, p_110_19, f_110_20, f_110_21, p_110_21, f_110_22, p_110_22, f_110_23, f_110_24, f_110_25, p_110_25, f_110_26, f_110_27, f_110_28, f_110_29, f_110_30, f_110_31, p_110_31, f_110_32, p_110_32, f_110_33, p_110_33, f_110_34, p_110_34, f_110_35, f_110_36, f_110_37, f_110_38, Option.some.injEq, exists_eq_left', exists_eq_left, Option.toList_some, Option.toList_none, List.cons_append, List.nil_append, true_and, and_true, Option.map_some, Option.map_none, r_good (d := d) (by omega) a3.2 a2, r_good (d := d) (by omega) ok2.2 q3, hb, decide_true, b01, if_true, show ¬ ((1 : Int32) = 0) by decide, if_false, k4, kk, x_ev_iff q1, reduceCtorEq, decide_false, Bool.false_eq_true]
  · have e : lnE b n (rdB b n T t).1 = (rdB b n T t).1 := by unfold lnE; rw [if_neg hb]
    refine fin s1 (fun r => ?_) offU.rf (by rw [e]; exact a2) (by rw [e]; exact a3) (by rw [e]; exact id)
    simp only [w_Ref_readLine_67, w_Ref_readLine_71, w_Ref_readLine_87, w_Ref_readLine_91, c_110, f_110_0, p_110_0, f_110_1, f_110_2, f_110_3, f_110_4, f_110_5, p_110_5, f_110_6, f_110_7, p_110_7, f_110_8, p_110_8, f_110_9, p_110_9, f_110_10, p_110_10, f_110_11, p_110_11, f_110_12, p_110_12, f_110_13, p_110_13, f_110_14, f_110_15, f_110_16, p_110_16, f_110_17, f_110_18, p_110_18, f_110_19, p_110_19, f_110_20, f_110_21, p_110_21, f_110_22, p_110_22, f_110_23, f_110_24, f_110_25, p_110_25, f_110_26, f_110_27, f_110_28, f_110_29, f_110_30, f_110_31, p_110_31, f_110_32, p_110_32, f_110_33, p_110_33, f_110_34, p_110_34, f_110_35, f_110_36, f_110_37, f_110_38, Option.some.injEq, exists_eq_left', exists_eq_left, Option.toList_some, Option.toList_none, List.cons_append, List.nil_append, true_and, and_true, Option.map_some, Option.map_none, r_good (d := d) (by omega) a3.2 a2, hb, decide_false, b01, Bool.false_eq_true, if_false, if_true]
theorem r_rdL (hd : 12 ≤ d) (hP : wdP P) {s : xS} {l1 : Int32} : ∀ (f c : Nat) (t : Tk) (T : Tw) (z : xS), n < t.1 + f → c ≤ t.1 → t.2 = none → tkOk n t → tGd T c → tpR z b n → tkR z b n t → frF z T → offF s z → ∃ z', (∀ r, x_R (x_ev g_M P d) 225 (54, [some (.ref 110), some (.int l1)], [], mkH xs z) r ↔ x_R (x_ev g_M P d) 225 (75, [some (.ref 110), some (.int l1)], [], mkH xs z') r) ∧ tkR z' b n (rdT b n f (t, T)).1 ∧ fOk (rdT b n f (t, T)).1.2 ∧ offF s z' ∧ ((rdT b n f (t, T)).1.2 = none → frF z' (rdT b n f (t, T)).2) := by
  intro f
  induction f with
  | zero => intro c t T z h1 _ _ hok; have := hok.1; omega
  | succ f ih =>
    intro c t T z hf hc hn hok hG ht htk hm ho
    have n9 := ht.1
    have a4 := htk.2.2.2.1
    have hk4 := kdT_4 b n t.1
    have hle := hok.1
    rw [rdT]
    by_cases hk : kdT b n t.1 = 0
    · rw [if_neg (fun w => w.2 hk)]
      have kk : nI (kdT b n t.1) = 0 := by rw [hk]; rfl
      refine ⟨z, fun r => ?_, htk, hok.2, ho, fun _ => hm⟩
      simp only [w_Ref_town_54 (l1 := l1), w_Ref_town_58, w_Ref_town_61, w_Ref_town_65, c_110, f_110_0, p_110_0, f_110_1, f_110_2, f_110_3, f_110_4, f_110_5, p_110_5, f_110_6, f_110_7, p_110_7, f_110_8, p_110_8, f_110_9, p_110_9, f_110_10, p_110_10, f_110_11, p_110_11, f_110_12, p_110_12, f_110_13, p_110_13, f_110_14, f_110_15, f_110_16, p_110_16, f_110_17, f_110_18, p_110_18, f_110_19, p_110_19, f_110_20, f_110_21, p_110_21, f_110_22, p_110_22, f_110_23, f_110_24, f_110_25, p_110_25, f_110_26, f_110_27, f_110_28, f_110_29, f_110_30, f_110_31, p_110_31, f_110_32, p_110_32, f_110_33, p_110_33, f_110_34, p_110_34, f_110_35, f_110_36, f_110_37, f_110_38, Option.some.injEq, exists_eq_left', exists_eq_left, Option.toList_some, Option.toList_none, List.cons_append, List.nil_append, true_and, and_true, Option.map_some, Option.map_none, r_good (d := d) (by omega) hok.2 htk, hn, decide_true, b01, if_true, show ¬ ((1 : Int32) = 0) by decide, if_false, a4, kk]
    · rw [if_pos ⟨hn, hk⟩]
      have kk : ¬ nI (kdT b n t.1) = 0 := nI_ne0 (by omega) (by omega)
      have htn : t.1 < n := kdT_i (b := b) hk
      obtain ⟨z1, q1, q2, q3, q4, q5⟩ := r_readLine (P := P) (d := d) (xs := xs) hd hP ht hG.2.1 hn hok htk hm
      have st : ∀ r, x_R (x_ev g_M P d) 225 (54, [some (.ref 110), some (.int l1)], [], mkH xs z) r ↔ x_R (x_ev g_M P d) 225 (54, [some (.ref 110), some (.int l1)], [], mkH xs z1) r := fun r => by
        simp only [w_Ref_town_54 (l1 := l1) (h := mkH xs z), w_Ref_town_58, w_Ref_town_61, w_Ref_town_65, w_Ref_town_68, w_Ref_town_72, c_110, f_110_0, p_110_0, f_110_1, f_110_2, f_110_3, f_110_4, f_110_5, p_110_5, f_110_6, f_110_7, p_110_7, f_110_8, p_110_8, f_110_9, p_110_9, f_110_10, p_110_10, f_110_11, p_110_11, f_110_12, p_110_12, f_110_13, p_110_13, f_110_14, f_110_15, f_110_16, p_110_16, f_110_17, f_110_18, p_110_18, f_110_19, p_110_19, f_110_20, f_110_21, p_110_21, f_110_22, p_110_22, f_110_23, f_110_24, f_110_25, p_110_25, f_110_26, f_110_27, f_110_28, f_110_29, f_110_30, f_110_31, p_110_31, f_110_32, p_110_32, f_110_33, p_110_33, f_110_34, p_110_34, f_110_35, f_110_36, f_110_37, f_110_38, Option.some.injEq, exists_eq_left', exists_eq_left, Option.toList_some, Option.toList_none, List.cons_append, List.nil_append, true_and, and_true, Option.map_some, Option.map_none, r_good (d := d) (by omega) hok.2 htk, hn, decide_true, b01, if_true, show ¬ ((1 : Int32) = 0) by decide, if_false, a4, kk, x_ev_iff q1]
      show ∃ z', (∀ r, x_R (x_ev g_M P d) 225 (54, [some (.ref 110), some (.int l1)], [], mkH xs z) r ↔ x_R (x_ev g_M P d) 225 (75, [some (.ref 110), some (.int l1)], [], mkH xs z') r) ∧ tkR z' b n (rdT b n f (rdL b n T t)).1 ∧ fOk (rdT b n f (rdL b n T t)).1.2 ∧ offF s z' ∧ ((rdT b n f (rdL b n T t)).1.2 = none → frF z' (rdT b n f (rdL b n T t)).2)
      by_cases hx : (rdL b n T t).1.2 = none
      · obtain ⟨v1, v2, v3⟩ := rdL_v hx hok.1 (show c < 2 ^ 31 by omega) hG
        obtain ⟨z', g1, g⟩ := ih (c + 1) (rdL b n T t).1 (rdL b n T t).2 z1 (by omega) (by omega) hx q3 v1 (tpR_F q4 ht) q2 (q5 hx) (ho.tr q4)
        exact ⟨z', fun r => (st r).trans (g1 r), g⟩
      · rw [rdT_f hx]
        refine ⟨z1, fun r => ?_, q2, q3.2, ho.tr q4, fun w => absurd w hx⟩
        rw [st]
        simp only [w_Ref_town_54 (l1 := l1) (h := mkH xs z1), w_Ref_town_58, c_110, f_110_0, p_110_0, f_110_1, f_110_2, f_110_3, f_110_4, f_110_5, p_110_5, f_110_6, f_110_7, p_110_7, f_110_8, p_110_8, f_110_9, p_110_9, f_110_10, p_110_10, f_110_11, p_110_11, f_110_12, p_110_12, f_110_13, p_110_13, f_110_14, f_110_15, f_110_16, p_110_16, f_110_17, f_110_18, p_110_18, f_110_19, p_110_19, f_110_20, f_110_21, p_110_21, f_110_22, p_110_22, f_110_23, f_110_24, f_110_25, p_110_25, f_110_26, f_110_27, f_110_28, f_110_29, f_110_30, f_110_31, p_110_31, f_110_32, p_110_32, f_110_33, p_110_33, f_110_34, p_110_34, f_110_35, f_110_36, f_110_37, f_110_38, Option.some.injEq, exists_eq_left', exists_eq_left, Option.toList_some, Option.toList_none, List.cons_append, List.nil_append, true_and, and_true, Option.map_some, Option.map_none, r_good (d := d) (by omega) q3.2 q2, hx, decide_false, b01, Bool.false_eq_true, if_false, if_true]
end RREAD2
