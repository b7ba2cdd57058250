/-! judge, held, when, differs: what both answer (own work) -/
theorem runF_step {T : Tw} {f : Nat → Int64} {i m : Nat} {A0 A : As} (h : runF T f 0 i A0 = (i, A)) (hi : i < m) : ((aTake T A (f i).toInt32).isSome = true ↔ i < (runF T f 0 m A0).1) := by
  obtain ⟨k, rfl⟩ : ∃ k, m = i + (k + 1) := ⟨m - i - 1, by omega⟩
  have e := runF_add T f i (k + 1) 0 A0
  rw [h] at e
  rw [Nat.zero_add] at e
  rw [if_pos rfl] at e
  rw [e, runF]
  cases hB : aTake T A (f i).toInt32 with
  | none => simp
  | some B =>
    have := (runF_b T f k (i + 1) B).1
    simp only [Option.isSome_some, true_iff]
    omega
theorem runF_snoc {T : Tw} {f : Nat → Int64} {i : Nat} {A0 A B : As} (h : runF T f 0 i A0 = (i, A)) (hB : aTake T A (f i).toInt32 = some B) : runF T f 0 (i + 1) A0 = (i + 1, B) := by
  have e := runF_add T f i 1 0 A0
  rw [h, Nat.zero_add, if_pos rfl] at e
  rw [e, runF, hB]
  rfl
def offM (s s' : xS) : Prop := (∀ q, q < 66 ∨ 72 ≤ q → s'.1 q = s.1 q) ∧ s'.2 = s.2
theorem offM.tr {s s' s'' : xS} (h : offM s s') (h2 : offM s' s'') : offM s s'' := ⟨fun q a => (h2.1 q a).trans (h.1 q a), h2.2.trans h.2⟩
theorem offM.rf {s : xS} : offM s s := ⟨fun _ _ => rfl, rfl⟩
theorem offM.ke {s s' : xS} (h : offM s s') : keC s s' := fun q hq => ⟨h.1 q (by omega), by rw [h.2]⟩
theorem offM.T {s s' : xS} {T : Tw} (h : offM s s') (hT : clsT s 3 T) : clsT s' 3 T := clsT_off (fun q a b => h.1 q (by omega)) hT
theorem off3.M {s s' : xS} {p : Nat} (hp : p = 66 ∨ p = 69) (h : off3 s s' p) : offM s s' := ⟨fun q a => h.1 q (by omega) (by omega) (by omega), h.2⟩
section DIF
variable {P : Nat → List Value → Option Value} {d : Nat} {xs : List Int32} {T : Tw}
set_option maxHeartbeats 4000000 in
theorem m_difL (hd : 4 ≤ d) (hK : tOk T) {p t m m' : Nat} {f g : Nat → Int64} (hp : p < 4) (ht : t < 4) (hm : m ≤ 60) (hm' : m' ≤ 60) : ∀ (n i : Nat) (s : xS) (A B : As), i + n = min m m' → clsT s 3 T → clsS s 66 T A → clsS s 69 T B → aWf T A → aWf T B → rowC s p m f → rowC s t m' g →
    ∃ s', x_R (x_ev g_M P d) 17 (29, [some (.ref 65), some (.ref (77 + 2 * p)), some (.ref (77 + 2 * t)), some (.int (nI (min m m'))), some (.int (nI i))], [], mkH xs s) (some (.int (dfF T f g i n A B)), mkH xs s') ∧ offM s s' := by
  have h66 : 66 ∈ g_SP := by decide
  have h69 : 69 ∈ g_SP := by decide
  have hW := hK.1
  intro n
  induction n with
  | zero =>
    intro i s A B hi hT hA hB hAw hBw hr hr'
    refine ⟨s, ?_, offM.rf⟩
    obtain rfl : i = min m m' := by omega
    simp only [w_Minutes_firstUnlike_0, w_Minutes_firstUnlike_4, w_Minutes_firstUnlike_7, w_Minutes_firstUnlike_11, w_Minutes_firstUnlike_14, w_Minutes_firstUnlike_18, w_Minutes_firstUnlike_22, w_Minutes_firstUnlike_35, w_Minutes_firstUnlike_39, w_Minutes_firstUnlike_43, w_Minutes_firstUnlike_46, w_Minutes_firstUnlike_50, w_Minutes_firstUnlike_53, w_Minutes_firstUnlike_57, w_Minutes_firstUnlike_61, w_Minutes_firstUnlike_64, w_Minutes_firstUnlike_68, w_Minutes_firstUnlike_71, w_Minutes_firstUnlike_73, w_Minutes_firstUnlike_77, w_Minutes_firstUnlike_80, w_Minutes_firstUnlike_84, w_Minutes_firstUnlike_87, w_Minutes_firstUnlike_90, w_Minutes_firstUnlike_95, w_Minutes_firstUnlike_101, w_Minutes_firstUnlike_29 (l4 := nI (min m m')), show nI (min m m') ≤ nI (min m m') from Int32.le_refl _, if_true, dfF]
  | succ n ih =>
    intro i s A B hi hT hA hB hAw hBw hr hr'
    have hc : ¬ nI (min m m') ≤ nI i := nI_ge (by omega) (by omega)
    obtain ⟨s1, q1, q2, q3⟩ := s_take (P := P) (d := d) (xs := xs) hd h66 hT hW hA hAw (f i).toInt32
    have hx : x_rd (s.2 (78 + 2 * p)) 60 (nI i) = some (f i) := by rw [x_rd_nI (by omega) (by omega), hr.2.2 i (by omega)]
    have hT1 := q2.T h66 hT
    have hB1 := q2.S h66 h69 (by decide) hB
    obtain ⟨s2, z1, z2, z3⟩ := s_take (P := P) (d := d) (xs := xs) hd h69 hT1 hW hB1 hBw (g i).toInt32
    have hx' : x_rd (s1.2 (78 + 2 * t)) 60 (nI i) = some (g i) := by rw [x_rd_nI (by omega) (by omega), q2.2, hr'.2.2 i (by omega)]
    have o1 := q2.M (Or.inl rfl)
    have o2 := o1.tr (z2.M (Or.inr rfl))
    rw [dfF]
    cases hA' : aTake T A (f i).toInt32 with
    | none =>
      rw [hA'] at q1
      refine ⟨s1, ?_, o1⟩
      simp only [w_Minutes_firstUnlike_0, w_Minutes_firstUnlike_4, w_Minutes_firstUnlike_7, w_Minutes_firstUnlike_11, w_Minutes_firstUnlike_14, w_Minutes_firstUnlike_18, w_Minutes_firstUnlike_22, w_Minutes_firstUnlike_35, w_Minutes_firstUnlike_39, w_Minutes_firstUnlike_43, w_Minutes_firstUnlike_46, w_Minutes_firstUnlike_50, w_Minutes_firstUnlike_53, w_Minutes_firstUnlike_57, w_Minutes_firstUnlike_61, w_Minutes_firstUnlike_64, w_Minutes_firstUnlike_68, w_Minutes_firstUnlike_71, w_Minutes_firstUnlike_73, w_Minutes_firstUnlike_77, w_Minutes_firstUnlike_80, w_Minutes_firstUnlike_84, w_Minutes_firstUnlike_87, w_Minutes_firstUnlike_90, w_Minutes_firstUnlike_95, w_Minutes_firstUnlike_101, w_Minutes_firstUnlike_29 (l4 := nI i), hc, if_false, c_65, f_65_0, f_65_1, c_66, f_66_0, f_66_1, p_66_1, f_66_2, p_66_2, f_66_3, p_66_3, f_66_4, p_66_4, f_66_5, f_66_6, sl_3 hp, sl_e hp, Option.some.injEq, exists_eq_left', exists_eq_left, Option.toList_some, Option.toList_none, List.cons_append, List.nil_append, true_and, and_true, Option.map_some, Option.map_none, hx, x_ev_iff q1, Option.isSome_none, Bool.false_eq_true, if_true]
    | some A' =>
      rw [hA'] at q1 q3
      cases hB' : aTake T B (g i).toInt32 with
      | none =>
        rw [hB'] at z1
        refine ⟨s2, ?_, o2⟩
        simp only [w_Minutes_firstUnlike_0, w_Minutes_firstUnlike_4, w_Minutes_firstUnlike_7, w_Minutes_firstUnlike_11, w_Minutes_firstUnlike_14, w_Minutes_firstUnlike_18, w_Minutes_firstUnlike_22, w_Minutes_firstUnlike_35, w_Minutes_firstUnlike_39, w_Minutes_firstUnlike_43, w_Minutes_firstUnlike_46, w_Minutes_firstUnlike_50, w_Minutes_firstUnlike_53, w_Minutes_firstUnlike_57, w_Minutes_firstUnlike_61, w_Minutes_firstUnlike_64, w_Minutes_firstUnlike_68, w_Minutes_firstUnlike_71, w_Minutes_firstUnlike_73, w_Minutes_firstUnlike_77, w_Minutes_firstUnlike_80, w_Minutes_firstUnlike_84, w_Minutes_firstUnlike_87, w_Minutes_firstUnlike_90, w_Minutes_firstUnlike_95, w_Minutes_firstUnlike_101, w_Minutes_firstUnlike_29 (l4 := nI i), hc, if_false, c_65, f_65_0, f_65_1, c_66, f_66_0, f_66_1, p_66_1, f_66_2, p_66_2, f_66_3, p_66_3, f_66_4, p_66_4, f_66_5, f_66_6, c_69, f_69_0, f_69_1, p_69_1, f_69_2, p_69_2, f_69_3, p_69_3, f_69_4, p_69_4, f_69_5, f_69_6, sl_3 hp, sl_e hp, sl_3 ht, sl_e ht, Option.some.injEq, exists_eq_left', exists_eq_left, Option.toList_some, Option.toList_none, List.cons_append, List.nil_append, true_and, and_true, Option.map_some, Option.map_none, hx, hx', x_ev_iff q1, x_ev_iff z1, Option.isSome_none, Option.isSome_some, Bool.false_eq_true, if_true, show ¬ ((1 : Int32) = 0) by decide, not_true_eq_false]
      | some B' =>
        rw [hB'] at z1 z3
        have q3' : clsS s2 66 T A' := z2.S h69 h66 (by decide) q3
        have e1 : s2.1 66 1 = msk A'.1 := q3'.1
        have e2 : s2.1 69 1 = msk B'.1 := z3.1
        by_cases hq : msk A'.1 = msk B'.1
        · obtain ⟨s3, y1, y2⟩ := ih (i + 1) s2 A' B' (by omega) (z2.T h69 hT1) q3' z3 (aWf_take hW hAw hA') (aWf_take hW hBw hB') (hr.at (o2.1 _ (by omega)) o2.2) (hr'.at (o2.1 _ (by omega)) o2.2)
          refine ⟨s3, ?_, o2.tr y2⟩
          show x_R _ _ _ (some (.int (if msk A'.1 = msk B'.1 then dfF T f g (i + 1) n A' B' else nI (i + 1))), _)
          rw [if_pos hq]
          simp only [w_Minutes_firstUnlike_0, w_Minutes_firstUnlike_4, w_Minutes_firstUnlike_7, w_Minutes_firstUnlike_11, w_Minutes_firstUnlike_14, w_Minutes_firstUnlike_18, w_Minutes_firstUnlike_22, w_Minutes_firstUnlike_35, w_Minutes_firstUnlike_39, w_Minutes_firstUnlike_43, w_Minutes_firstUnlike_46, w_Minutes_firstUnlike_50, w_Minutes_firstUnlike_53, w_Minutes_firstUnlike_57, w_Minutes_firstUnlike_61, w_Minutes_firstUnlike_64, w_Minutes_firstUnlike_68, w_Minutes_firstUnlike_71, w_Minutes_firstUnlike_73, w_Minutes_firstUnlike_77, w_Minutes_firstUnlike_80, w_Minutes_firstUnlike_84, w_Minutes_firstUnlike_87, w_Minutes_firstUnlike_90, w_Minutes_firstUnlike_95, w_Minutes_firstUnlike_101, w_Minutes_firstUnlike_29 (l4 := nI i), hc, if_false, c_65, f_65_0, f_65_1, c_66, f_66_0, f_66_1, p_66_1, f_66_2, p_66_2, f_66_3, p_66_3, f_66_4, p_66_4, f_66_5, f_66_6, c_69, f_69_0, f_69_1, p_69_1, f_69_2, p_69_2, f_69_3, p_69_3, f_69_4, p_69_4, f_69_5, f_69_6, sl_3 hp, sl_e hp, sl_3 ht, sl_e ht, Option.some.injEq, exists_eq_left', exists_eq_left, Option.toList_some, Option.toList_none, List.cons_append, List.nil_append, true_and, and_true, Option.map_some, Option.map_none, hx, hx', x_ev_iff q1, x_ev_iff z1, Option.isSome_some, if_true, show ¬ ((1 : Int32) = 0) by decide, not_false_eq_true, e1, e2, hq, nI_1]
          exact y1
        · refine ⟨s2, ?_, o2⟩
          show x_R _ _ _ (some (.int (if msk A'.1 = msk B'.1 then dfF T f g (i + 1) n A' B' else nI (i + 1))), _)
          rw [if_neg hq]
          simp only [w_Minutes_firstUnlike_0, w_Minutes_firstUnlike_4, w_Minutes_firstUnlike_7, w_Minutes_firstUnlike_11, w_Minutes_firstUnlike_14, w_Minutes_firstUnlike_18, w_Minutes_firstUnlike_22, w_Minutes_firstUnlike_35, w_Minutes_firstUnlike_39, w_Minutes_firstUnlike_43, w_Minutes_firstUnlike_46, w_Minutes_firstUnlike_50, w_Minutes_firstUnlike_53, w_Minutes_firstUnlike_57, w_Minutes_firstUnlike_61, w_Minutes_firstUnlike_64, w_Minutes_firstUnlike_68, w_Minutes_firstUnlike_71, w_Minutes_firstUnlike_73, w_Minutes_firstUnlike_77, w_Minutes_firstUnlike_80, w_Minutes_firstUnlike_84, w_Minutes_firstUnlike_87, w_Minutes_firstUnlike_90, w_Minutes_firstUnlike_95, w_Minutes_firstUnlike_101, w_Minutes_firstUnlike_29 (l4 := nI i), hc, if_false, c_65, f_65_0, f_65_1, c_66, f_66_0, f_66_1, p_66_1, f_66_2, p_66_2, f_66_3, p_66_3, f_66_4, p_66_4, f_66_5, f_66_6, c_69, f_69_0, f_69_1, p_69_1, f_69_2, p_69_2, f_69_3, p_69_3, f_69_4, p_69_4, f_69_5, f_69_6, sl_3 hp, sl_e hp, sl_3 ht, sl_e ht, Option.some.injEq, exists_eq_left', exists_eq_left, Option.toList_some, Option.toList_none, List.cons_append, List.nil_append, true_and, and_true, Option.map_some, Option.map_none, hx, hx', x_ev_iff q1, x_ev_iff z1, Option.isSome_some, if_true, show ¬ ((1 : Int32) = 0) by decide, not_false_eq_true, e1, e2, hq, nI_1]
theorem nI_min {m m' : Nat} (hm : m < 2 ^ 31) (hm' : m' < 2 ^ 31) : (if nI m' < nI m then nI m' else nI m) = nI (min m m') := by
  by_cases h : m' < m
  · rw [if_pos (nI_lt h hm), Nat.min_eq_right (by omega)]
  · rw [if_neg (nI_nlt (by omega) hm'), Nat.min_eq_left (by omega)]
theorem m_dif (hd : 5 ≤ d) (hK : tOk T) {p t m m' : Nat} {f g : Nat → Int64} (hp : p < 4) (ht : t < 4) (hm : m ≤ 60) (hm' : m' ≤ 60) {s : xS} (hT : clsT s 3 T) (hr : rowC s p m f) (hr' : rowC s t m' g) : ∃ s', x_ev g_M P d 17 [.ref 65, .ref (77 + 2 * p), .ref (77 + 2 * t)] (mkH xs s) (some (.int (dfF T f g 0 (min m m') (aBegin T) (aBegin T))), mkH xs s') ∧ offM s s' := by
  have h66 : 66 ∈ g_SP := by decide
  have h69 : 69 ∈ g_SP := by decide
  have hW := hK.1
  obtain ⟨d, rfl⟩ := x_1 (d := d) (by omega)
  obtain ⟨s1, q1, q2, q3⟩ := s_begin (P := P) (d := d) (xs := xs) (by omega) h66 hT hW
  have hT1 := q2.T h66 hT
  obtain ⟨s2, z1, z2, z3⟩ := s_begin (P := P) (d := d) (xs := xs) (by omega) h69 hT1 hW
  have o2 := (q2.M (Or.inl rfl)).tr (z2.M (Or.inr rfl))
  have hr2 := hr.at (o2.1 _ (by omega)) o2.2
  have hr2' := hr'.at (o2.1 _ (by omega)) o2.2
  obtain ⟨s3, y1, y2⟩ := m_difL (P := P) (d := d) (xs := xs) (by omega) hK hp ht hm hm' (min m m') 0 s2 (aBegin T) (aBegin T) (by omega) (z2.T h69 hT1) (z2.S h69 h66 (by decide) q3) z3 aWf_begin aWf_begin hr2 hr2'
  refine ⟨s3, ?_, o2.tr y2⟩
  rw [x_ev_in rfl (Nat.le_of_ble_eq_true rfl)]
  rw [show x_ent (x_nL g_M 17) [.ref 65, .ref (77 + 2 * p), .ref (77 + 2 * t)] = [some (.ref 65), some (.ref (77 + 2 * p)), some (.ref (77 + 2 * t)), none, none] from rfl]
  simp only [w_Minutes_firstUnlike_0, w_Minutes_firstUnlike_4, w_Minutes_firstUnlike_7, w_Minutes_firstUnlike_11, w_Minutes_firstUnlike_14, w_Minutes_firstUnlike_18, w_Minutes_firstUnlike_22, w_Minutes_firstUnlike_35, w_Minutes_firstUnlike_39, w_Minutes_firstUnlike_43, w_Minutes_firstUnlike_46, w_Minutes_firstUnlike_50, w_Minutes_firstUnlike_53, w_Minutes_firstUnlike_57, w_Minutes_firstUnlike_61, w_Minutes_firstUnlike_64, w_Minutes_firstUnlike_68, w_Minutes_firstUnlike_71, w_Minutes_firstUnlike_73, w_Minutes_firstUnlike_77, w_Minutes_firstUnlike_80, w_Minutes_firstUnlike_84, w_Minutes_firstUnlike_87, w_Minutes_firstUnlike_90, w_Minutes_firstUnlike_95, w_Minutes_firstUnlike_101, c_65, f_65_0, f_65_1, c_66, f_66_0, f_66_1, p_66_1, f_66_2, p_66_2, f_66_3, p_66_3, f_66_4, p_66_4, f_66_5, f_66_6, c_69, f_69_0, f_69_1, p_69_1, f_69_2, p_69_2, f_69_3, p_69_3, f_69_4, p_69_4, f_69_5, f_69_6, sl_2 hp, sl_2 ht, Option.some.injEq, exists_eq_left', exists_eq_left, Option.toList_some, Option.toList_none, List.cons_append, List.nil_append, true_and, and_true, Option.map_some, Option.map_none, x_ev_iff q1, x_ev_iff z1, hr2.2.1, hr2'.2.1, nI_min (show m < 2 ^ 31 by omega) (show m' < 2 ^ 31 by omega)]
  exact y1
set_option maxHeartbeats 4000000 in
theorem r_difL (hd : 9 ≤ d) (hK : tOk T) {p t m m' : Nat} {f g : Nat → Int64} (hp : p < 4) (ht : t < 4) (hm : m ≤ 60) (hm' : m' ≤ 60) (ha : allA T f m = true) (ha' : allA T g m' = true) : ∀ (n i : Nat) (s : xS) (A B : As) (o : Option Value), i + n = min m m' → runF T f 0 i (aBegin T) = (i, A) → runF T g 0 i (aBegin T) = (i, B) → refT s 111 0 T → rowR s p m f → rowR s t m' g →
    ∃ s', x_R (x_ev g_M P d) 319 (73, [some (.ref 110), some (.int (nI p)), some (.int (nI t)), some (.int 0), some (.int 0), some (.int (nI (min (runF T f 0 m (aBegin T)).1 (runF T g 0 m' (aBegin T)).1))), some (.int (nI (i + 1))), o], [], mkH xs s) (some (.int (dfF T f g i n A B)), mkH xs s') ∧ offR s s' := by
  have hW := hK.1
  have bf := (runF_b T f m 0 (aBegin T)).2
  have bg := (runF_b T g m' 0 (aBegin T)).2
  intro n
  induction n with
  | zero =>
    intro i s A B o hi hf hg hT hr hr'
    refine ⟨s, ?_, offR.rf⟩
    have hc : nI (min (runF T f 0 m (aBegin T)).1 (runF T g 0 m' (aBegin T)).1) < nI (i + 1) := nI_lt (by omega) (by omega)
    simp only [w_Ref_differs_0, w_Ref_differs_6, w_Ref_differs_13, w_Ref_differs_21, w_Ref_differs_28, w_Ref_differs_31, w_Ref_differs_35, w_Ref_differs_40, w_Ref_differs_43, w_Ref_differs_49, w_Ref_differs_51, w_Ref_differs_54, w_Ref_differs_60, w_Ref_differs_62, w_Ref_differs_65, w_Ref_differs_80, w_Ref_differs_87, w_Ref_differs_92, w_Ref_differs_101, w_Ref_differs_108, w_Ref_differs_111, w_Ref_differs_114, w_Ref_differs_120, w_Ref_differs_73 (l6 := nI (i + 1)), hc, if_true, dfF]
  | succ n ih =>
    intro i s A B o hi hf hg hT hr hr'
    have sf := runF_step hf (m := m) (by omega)
    have sg := runF_step hg (m := m') (by omega)
    by_cases hk : i < min (runF T f 0 m (aBegin T)).1 (runF T g 0 m' (aBegin T)).1
    · obtain ⟨A', hA'⟩ := Option.isSome_iff_exists.mp (sf.mpr (by omega))
      obtain ⟨B', hB'⟩ := Option.isSome_iff_exists.mp (sg.mpr (by omega))
      have hf1 := runF_snoc hf hA'
      have hg1 := runF_snoc hg hB'
      have hc : ¬ nI (min (runF T f 0 m (aBegin T)).1 (runF T g 0 m' (aBegin T)).1) < nI (i + 1) := nI_nlt (by omega) (by omega)
      obtain ⟨s1, q1, q2, q3⟩ := r_goBy (P := P) (d := d) (xs := xs) hd hK hp hm (nn := i + 1) (by omega) ha hT hr
      rw [Nat.min_eq_left (show i + 1 ≤ m by omega), hf1] at q1 q3
      have hT1 := q2.T hT
      obtain ⟨s2, z1, z2, z3⟩ := r_goBy (P := P) (d := d) (xs := xs) hd hK ht hm' (nn := i + 1) (by omega) ha' hT1 (hr'.at q2)
      rw [Nat.min_eq_left (show i + 1 ≤ m' by omega), hg1] at z1 z3
      have o2 := q2.tr z2
      have okA : aOk T A' := by
        have := runF_ok hK f (i + 1) 0 (aBegin T) (aOk_begin hK)
        rw [hf1] at this
        exact this
      have okB : aOk T B' := by
        have := runF_ok hK g (i + 1) 0 (aBegin T) (aOk_begin hK)
        rw [hg1] at this
        exact this
      rw [dfF, hA', hB']
      by_cases hq : msk A'.1 = msk B'.1
      · obtain ⟨s3, y1, y2⟩ := ih (i + 1) s2 A' B' (some (.int (msk A'.1))) (by omega) hf1 hg1 (o2.T hT) (hr.at o2) (hr'.at o2)
        refine ⟨s3, ?_, o2.tr y2⟩
        show x_R _ _ _ (some (.int (if msk A'.1 = msk B'.1 then dfF T f g (i + 1) n A' B' else nI (i + 1))), _)
        rw [if_pos hq]
        simp only [w_Ref_differs_0, w_Ref_differs_6, w_Ref_differs_13, w_Ref_differs_21, w_Ref_differs_28, w_Ref_differs_31, w_Ref_differs_35, w_Ref_differs_40, w_Ref_differs_43, w_Ref_differs_49, w_Ref_differs_51, w_Ref_differs_54, w_Ref_differs_60, w_Ref_differs_62, w_Ref_differs_65, w_Ref_differs_80, w_Ref_differs_87, w_Ref_differs_92, w_Ref_differs_101, w_Ref_differs_108, w_Ref_differs_111, w_Ref_differs_114, w_Ref_differs_120, w_Ref_differs_73 (l6 := nI (i + 1)), hc, if_false, c_110, f_110_0, p_110_0, f_110_1, f_110_2, f_110_3, f_110_4, f_110_5, p_110_5, f_110_6, f_110_7, p_110_7, f_110_8, p_110_8, f_110_9, p_110_9, f_110_10, p_110_10, f_110_11, p_110_11, f_110_12, p_110_12, f_110_13, p_110_13, f_110_14, f_110_15, f_110_16, p_110_16, f_110_17, f_110_18, p_110_18, f_110_19, p_110_19, f_110_20, f_110_21, p_110_21, f_110_22, p_110_22, f_110_23, f_110_24, f_110_25, p_110_25, f_110_26, f_110_27, f_110_28, f_110_29, f_110_30, f_110_31, p_110_31, f_110_32, p_110_32, f_110_33, p_110_33, f_110_34, p_110_34, f_110_35, f_110_36, f_110_37, f_110_38, Option.some.injEq, exists_eq_left', exists_eq_left, Option.toList_some, Option.toList_none, List.cons_append, List.nil_append, true_and, and_true, Option.map_some, Option.map_none, x_ev_iff q1, x_ev_iff z1, r_settledNow (d := d) (by omega) q3 okA.1 hW, r_settledNow (d := d) (by omega) z3 okB.1 hW, hq, if_true, nI_1]
        rw [hq] at y1
        exact y1
      · refine ⟨s2, ?_, o2⟩
        show x_R _ _ _ (some (.int (if msk A'.1 = msk B'.1 then dfF T f g (i + 1) n A' B' else nI (i + 1))), _)
        rw [if_neg hq]
        simp only [w_Ref_differs_0, w_Ref_differs_6, w_Ref_differs_13, w_Ref_differs_21, w_Ref_differs_28, w_Ref_differs_31, w_Ref_differs_35, w_Ref_differs_40, w_Ref_differs_43, w_Ref_differs_49, w_Ref_differs_51, w_Ref_differs_54, w_Ref_differs_60, w_Ref_differs_62, w_Ref_differs_65, w_Ref_differs_80, w_Ref_differs_87, w_Ref_differs_92, w_Ref_differs_101, w_Ref_differs_108, w_Ref_differs_111, w_Ref_differs_114, w_Ref_differs_120, w_Ref_differs_73 (l6 := nI (i + 1)), hc, if_false, c_110, f_110_0, p_110_0, f_110_1, f_110_2, f_110_3, f_110_4, f_110_5, p_110_5, f_110_6, f_110_7, p_110_7, f_110_8, p_110_8, f_110_9, p_110_9, f_110_10, p_110_10, f_110_11, p_110_11, f_110_12, p_110_12, f_110_13, p_110_13, f_110_14, f_110_15, f_110_16, p_110_16, f_110_17, f_110_18, p_110_18, f_110_19, p_110_19, f_110_20, f_110_21, p_110_21, f_110_22, p_110_22, f_110_23, f_110_24, f_110_25, p_110_25, f_110_26, f_110_27, f_110_28, f_110_29, f_110_30, f_110_31, p_110_31, f_110_32, p_110_32, f_110_33, p_110_33, f_110_34, p_110_34, f_110_35, f_110_36, f_110_37, f_110_38, Option.some.injEq, exists_eq_left', exists_eq_left, Option.toList_some, Option.toList_none, List.cons_append, List.nil_append, true_and, and_true, Option.map_some, Option.map_none, x_ev_iff q1, x_ev_iff z1, r_settledNow (d := d) (by omega) q3 okA.1 hW, r_settledNow (d := d) (by omega) z3 okB.1 hW, hq]
    · refine ⟨s, ?_, offR.rf⟩
      have hc : nI (min (runF T f 0 m (aBegin T)).1 (runF T g 0 m' (aBegin T)).1) < nI (i + 1) := nI_lt (by omega) (by omega)
      have hd1 : dfF T f g i (n + 1) A B = -1 := by
        rw [dfF]
        cases hA' : aTake T A (f i).toInt32 with
        | none => rfl
        | some A' =>
          cases hB' : aTake T B (g i).toInt32 with
          | none => rfl
          | some B' =>
            exfalso
            rw [hA'] at sf
            rw [hB'] at sg
            have h1 := sf.mp rfl
            have h2 := sg.mp rfl
            omega
      rw [hd1]
      simp only [w_Ref_differs_0, w_Ref_differs_6, w_Ref_differs_13, w_Ref_differs_21, w_Ref_differs_28, w_Ref_differs_31, w_Ref_differs_35, w_Ref_differs_40, w_Ref_differs_43, w_Ref_differs_49, w_Ref_differs_51, w_Ref_differs_54, w_Ref_differs_60, w_Ref_differs_62, w_Ref_differs_65, w_Ref_differs_80, w_Ref_differs_87, w_Ref_differs_92, w_Ref_differs_101, w_Ref_differs_108, w_Ref_differs_111, w_Ref_differs_114, w_Ref_differs_120, w_Ref_differs_73 (l6 := nI (i + 1)), hc, if_true]
end DIF
section MIN2
variable {P : Nat → List Value → Option Value} {W : Wd}
set_option maxHeartbeats 4000000 in
theorem wr_cs (h : wOk W) (x : Int32) : (∃ v : Int32, (v = -2 ∨ v = -6) ∧ (∀ (d : Nat) (xs : List Int32) (s : xS), 10 ≤ d → cW s W → x_ev g_M P d 170 [.ref 1, .int x] (mkH xs s) (some (.int v), mkH xs s)) ∧ ∀ (d : Nat) (xs : List Int32) (s : xS), 10 ≤ d → rW s W → x_ev g_M P d 314 [.ref 110, .int x, .int 1] (mkH xs s) (some (.int v), mkH xs s)) ∨
    (∃ p m f, p < 4 ∧ x = nI p ∧ m ≤ 60 ∧ allA (wT W) f m = true ∧ (∀ s, cW s W → rowC s p m f) ∧ (∀ s, rW s W → rowR s p m f) ∧ (∀ (d : Nat) (xs : List Int32) (s : xS), 10 ≤ d → cW s W → x_ev g_M P d 170 [.ref 1, .int (nI p)] (mkH xs s) (some (.int 0), mkH xs s)) ∧ ∀ (d : Nat) (xs : List Int32) (s : xS), 10 ≤ d → rW s W → x_ev g_M P d 314 [.ref 110, .int (nI p), .int 1] (mkH xs s) (some (.int 0), mkH xs s)) := by
  have h' := h
  obtain ⟨hK, hl60, hr, hrest⟩ := h; have hW := hK.1; have hO := aOk_run hK _ _ _ (aOk_begin hK) hr; have hAw := hO.1; have w1 := hW.1; have w2 := hW.2.1; have h9 : 9 ∈ g_SP := by decide
  by_cases hl : tLi (wT W) ≤ 0
  · left
    refine ⟨-2, Or.inl rfl, ?_, ?_⟩
    · intro d xs s hd hC; obtain ⟨⟨hT, hA, hn, hacts⟩, -⟩ := hC
      obtain ⟨d, rfl⟩ := x_1 (d := d) (by omega)
      rw [x_ev_in rfl (Nat.le_of_ble_eq_true rfl)]
      rw [show x_ent (x_nL g_M 170) [.ref 1, .int x] = [some (.ref 1), some (.int x)] from rfl]
      simp only [w_Top_wrongRow_0, w_Top_wrongRow_4, w_Top_wrongRow_7, w_Top_wrongRow_10, w_Top_wrongRow_14, w_Top_wrongRow_17, w_Top_wrongRow_20, w_Top_wrongRow_24, w_Top_wrongRow_26, w_Top_wrongRow_29, w_Top_wrongRow_32, w_Top_wrongRow_35, w_Top_wrongRow_39, w_Top_wrongRow_43, w_Top_wrongRow_45, w_Top_wrongRow_48, w_Top_wrongRow_51, w_Top_wrongRow_55, w_Top_wrongRow_57, c_1, f_1_0, f_1_1, p_1_1, f_1_2, f_1_3, f_1_4, f_1_5, f_1_6, p_1_6, f_1_7, f_1_8, f_1_9, f_1_10, f_1_11, f_1_12, f_1_13, f_1_14, c_3, f_3_0, p_3_0, f_3_1, p_3_1, f_3_2, p_3_2, f_3_3, p_3_3, f_3_4, p_3_4, f_3_5, p_3_5, f_3_6, p_3_6, f_3_7, p_3_7, f_3_8, p_3_8, f_3_9, f_3_10, f_3_11, f_3_12, f_3_13, Option.some.injEq, exists_eq_left', exists_eq_left, Option.toList_some, Option.toList_none, List.cons_append, List.nil_append, true_and, and_true, Option.map_some, Option.map_none, t_isTold (d := d) (by omega) hT, t_hasPerson (d := d) (by omega) hT, t_hasMatter (d := d) (by omega) hT, t_hasSet (d := d) (by omega) hT hW, t_bitOf (d := d) (by omega), t_isClosed (d := d) (by omega) hT hW, t_sumOfAll (d := d) (by omega) hT hW, s_openOnes (d := d) (by omega) h9 hT hW hA, s_wishers (d := d) (by omega) h9 hT hW hA hAw, s_allCups (d := d) (by omega) h9 hT hW hA, hl, if_true]
    · intro d xs s hd hC; obtain ⟨hR, -⟩ := hC; have hT := hR.1
      obtain ⟨d, rfl⟩ := x_1 (d := d) (by omega)
      rw [x_ev_in rfl (Nat.le_of_ble_eq_true rfl)]
      rw [show x_ent (x_nL g_M 314) [.ref 110, .int x, .int 1] = [some (.ref 110), some (.int x), some (.int 1), none] from rfl]
      simp only [w_Ref_asksMinutes_0, w_Ref_asksMinutes_4, w_Ref_asksMinutes_7, w_Ref_asksMinutes_11, w_Ref_asksMinutes_14, w_Ref_asksMinutes_18, w_Ref_asksMinutes_21, w_Ref_asksMinutes_25, w_Ref_asksMinutes_27, w_Ref_asksMinutes_31, w_Ref_asksMinutes_34, w_Ref_asksMinutes_41, w_Ref_asksMinutes_43, w_Ref_asksMinutes_46, w_Ref_asksMinutes_53, w_Ref_asksMinutes_56, w_Ref_asksMinutes_59, w_Ref_asksMinutes_62, w_Ref_asksMinutes_68, c_110, f_110_0, p_110_0, f_110_1, f_110_2, f_110_3, f_110_4, f_110_5, p_110_5, f_110_6, f_110_7, p_110_7, f_110_8, p_110_8, f_110_9, p_110_9, f_110_10, p_110_10, f_110_11, p_110_11, f_110_12, p_110_12, f_110_13, p_110_13, f_110_14, f_110_15, f_110_16, p_110_16, f_110_17, f_110_18, p_110_18, f_110_19, p_110_19, f_110_20, f_110_21, p_110_21, f_110_22, p_110_22, f_110_23, f_110_24, f_110_25, p_110_25, f_110_26, f_110_27, f_110_28, f_110_29, f_110_30, f_110_31, p_110_31, f_110_32, p_110_32, f_110_33, p_110_33, f_110_34, p_110_34, f_110_35, f_110_36, f_110_37, f_110_38, Option.some.injEq, exists_eq_left', exists_eq_left, Option.toList_some, Option.toList_none, List.cons_append, List.nil_append, true_and, and_true, Option.map_some, Option.map_none, r_isTown (d := d) (by omega) hT, r_isPerson (d := d) (by omega) hT hW, r_isMatterI (d := d) (by omega) hT hW, r_isSet (d := d) (by omega) hT hW, r_allMatters (d := d) (by omega) hT hW, r_isClosed (d := d) (by omega) hT hW, r_sumOfAll (d := d) (by omega) hT hW, r_restsOf (d := d) (by omega) hT hW, r_in (d := d) (by omega), r_bit (d := d) (by omega), r_bits (d := d) (by omega), r_isSlot (d := d) (by omega), hl, if_true, ite_self]
  rcases has_cs (n := 4) (by omega) x with h0 | ⟨p, hp, rfl, h1⟩
  · left
    refine ⟨-2, Or.inl rfl, ?_, ?_⟩
    · intro d xs s hd hC; obtain ⟨⟨hT, hA, hn, hacts⟩, -⟩ := hC
      obtain ⟨d, rfl⟩ := x_1 (d := d) (by omega)
      rw [x_ev_in rfl (Nat.le_of_ble_eq_true rfl)]
      rw [show x_ent (x_nL g_M 170) [.ref 1, .int x] = [some (.ref 1), some (.int x)] from rfl]
      simp only [w_Top_wrongRow_0, w_Top_wrongRow_4, w_Top_wrongRow_7, w_Top_wrongRow_10, w_Top_wrongRow_14, w_Top_wrongRow_17, w_Top_wrongRow_20, w_Top_wrongRow_24, w_Top_wrongRow_26, w_Top_wrongRow_29, w_Top_wrongRow_32, w_Top_wrongRow_35, w_Top_wrongRow_39, w_Top_wrongRow_43, w_Top_wrongRow_45, w_Top_wrongRow_48, w_Top_wrongRow_51, w_Top_wrongRow_55, w_Top_wrongRow_57, c_1, f_1_0, f_1_1, p_1_1, f_1_2, f_1_3, f_1_4, f_1_5, f_1_6, p_1_6, f_1_7, f_1_8, f_1_9, f_1_10, f_1_11, f_1_12, f_1_13, f_1_14, c_3, f_3_0, p_3_0, f_3_1, p_3_1, f_3_2, p_3_2, f_3_3, p_3_3, f_3_4, p_3_4, f_3_5, p_3_5, f_3_6, p_3_6, f_3_7, p_3_7, f_3_8, p_3_8, f_3_9, f_3_10, f_3_11, f_3_12, f_3_13, Option.some.injEq, exists_eq_left', exists_eq_left, Option.toList_some, Option.toList_none, List.cons_append, List.nil_append, true_and, and_true, Option.map_some, Option.map_none, t_isTold (d := d) (by omega) hT, t_hasPerson (d := d) (by omega) hT, t_hasMatter (d := d) (by omega) hT, t_hasSet (d := d) (by omega) hT hW, t_bitOf (d := d) (by omega), t_isClosed (d := d) (by omega) hT hW, t_sumOfAll (d := d) (by omega) hT hW, s_openOnes (d := d) (by omega) h9 hT hW hA, s_wishers (d := d) (by omega) h9 hT hW hA hAw, s_allCups (d := d) (by omega) h9 hT hW hA, hl, if_false, show ¬ ((1 : Int32) = 0) by decide, t_isSlot (d := d) (by omega), h0, not_true_eq_false]
    · intro d xs s hd hC; obtain ⟨hR, -⟩ := hC; have hT := hR.1
      obtain ⟨d, rfl⟩ := x_1 (d := d) (by omega)
      rw [x_ev_in rfl (Nat.le_of_ble_eq_true rfl)]
      rw [show x_ent (x_nL g_M 314) [.ref 110, .int x, .int 1] = [some (.ref 110), some (.int x), some (.int 1), none] from rfl]
      simp only [w_Ref_asksMinutes_0, w_Ref_asksMinutes_4, w_Ref_asksMinutes_7, w_Ref_asksMinutes_11, w_Ref_asksMinutes_14, w_Ref_asksMinutes_18, w_Ref_asksMinutes_21, w_Ref_asksMinutes_25, w_Ref_asksMinutes_27, w_Ref_asksMinutes_31, w_Ref_asksMinutes_34, w_Ref_asksMinutes_41, w_Ref_asksMinutes_43, w_Ref_asksMinutes_46, w_Ref_asksMinutes_53, w_Ref_asksMinutes_56, w_Ref_asksMinutes_59, w_Ref_asksMinutes_62, w_Ref_asksMinutes_68, c_110, f_110_0, p_110_0, f_110_1, f_110_2, f_110_3, f_110_4, f_110_5, p_110_5, f_110_6, f_110_7, p_110_7, f_110_8, p_110_8, f_110_9, p_110_9, f_110_10, p_110_10, f_110_11, p_110_11, f_110_12, p_110_12, f_110_13, p_110_13, f_110_14, f_110_15, f_110_16, p_110_16, f_110_17, f_110_18, p_110_18, f_110_19, p_110_19, f_110_20, f_110_21, p_110_21, f_110_22, p_110_22, f_110_23, f_110_24, f_110_25, p_110_25, f_110_26, f_110_27, f_110_28, f_110_29, f_110_30, f_110_31, p_110_31, f_110_32, p_110_32, f_110_33, p_110_33, f_110_34, p_110_34, f_110_35, f_110_36, f_110_37, f_110_38, Option.some.injEq, exists_eq_left', exists_eq_left, Option.toList_some, Option.toList_none, List.cons_append, List.nil_append, true_and, and_true, Option.map_some, Option.map_none, r_isSlot (d := d) (by omega), h0, if_true]
  cases ho : wSl W p with
  | none =>
    left
    refine ⟨-6, Or.inr rfl, ?_, ?_⟩
    · intro d xs s hd hC
      obtain ⟨⟨hT, hA, hn, hacts⟩, -, e, -⟩ := hC
      have e1 := e p hp
      rw [ho] at e1
      have e1 : s.1 (77 + 2 * p) 0 = 0 := e1
      obtain ⟨d, rfl⟩ := x_1 (d := d) (by omega)
      rw [x_ev_in rfl (Nat.le_of_ble_eq_true rfl)]
      rw [show x_ent (x_nL g_M 170) [.ref 1, .int (nI p)] = [some (.ref 1), some (.int (nI p))] from rfl]
      simp only [w_Top_wrongRow_0, w_Top_wrongRow_4, w_Top_wrongRow_7, w_Top_wrongRow_10, w_Top_wrongRow_14, w_Top_wrongRow_17, w_Top_wrongRow_20, w_Top_wrongRow_24, w_Top_wrongRow_26, w_Top_wrongRow_29, w_Top_wrongRow_32, w_Top_wrongRow_35, w_Top_wrongRow_39, w_Top_wrongRow_43, w_Top_wrongRow_45, w_Top_wrongRow_48, w_Top_wrongRow_51, w_Top_wrongRow_55, w_Top_wrongRow_57, c_1, f_1_0, f_1_1, p_1_1, f_1_2, f_1_3, f_1_4, f_1_5, f_1_6, p_1_6, f_1_7, f_1_8, f_1_9, f_1_10, f_1_11, f_1_12, f_1_13, f_1_14, c_3, f_3_0, p_3_0, f_3_1, p_3_1, f_3_2, p_3_2, f_3_3, p_3_3, f_3_4, p_3_4, f_3_5, p_3_5, f_3_6, p_3_6, f_3_7, p_3_7, f_3_8, p_3_8, f_3_9, f_3_10, f_3_11, f_3_12, f_3_13, e_76, sl_q hp, sl_0 hp, Option.some.injEq, exists_eq_left', exists_eq_left, Option.toList_some, Option.toList_none, List.cons_append, List.nil_append, true_and, and_true, Option.map_some, Option.map_none, t_isTold (d := d) (by omega) hT, t_hasPerson (d := d) (by omega) hT, t_hasMatter (d := d) (by omega) hT, t_hasSet (d := d) (by omega) hT hW, t_bitOf (d := d) (by omega), t_isClosed (d := d) (by omega) hT hW, t_sumOfAll (d := d) (by omega) hT hW, s_openOnes (d := d) (by omega) h9 hT hW hA, s_wishers (d := d) (by omega) h9 hT hW hA hAw, s_allCups (d := d) (by omega) h9 hT hW hA, hl, if_false, show ¬ ((1 : Int32) = 0) by decide, t_isSlot (d := d) (by omega), h1, not_false_eq_true, if_true, e1, not_true_eq_false]
    · intro d xs s hd hC
      obtain ⟨hR, -, e, -⟩ := hC
      have hT := hR.1
      have e1 := e p hp
      rw [ho] at e1
      have e1 : s.1 127 p = -1 := e1
      have hx : x_rd (s.1 127) 4 (nI p) = some (-1) := by rw [x_rd_nI hp (by omega), e1]
      obtain ⟨d, rfl⟩ := x_1 (d := d) (by omega)
      rw [x_ev_in rfl (Nat.le_of_ble_eq_true rfl)]
      rw [show x_ent (x_nL g_M 314) [.ref 110, .int (nI p), .int 1] = [some (.ref 110), some (.int (nI p)), some (.int 1), none] from rfl]
      simp only [w_Ref_asksMinutes_0, w_Ref_asksMinutes_4, w_Ref_asksMinutes_7, w_Ref_asksMinutes_11, w_Ref_asksMinutes_14, w_Ref_asksMinutes_18, w_Ref_asksMinutes_21, w_Ref_asksMinutes_25, w_Ref_asksMinutes_27, w_Ref_asksMinutes_31, w_Ref_asksMinutes_34, w_Ref_asksMinutes_41, w_Ref_asksMinutes_43, w_Ref_asksMinutes_46, w_Ref_asksMinutes_53, w_Ref_asksMinutes_56, w_Ref_asksMinutes_59, w_Ref_asksMinutes_62, w_Ref_asksMinutes_68, c_110, f_110_0, p_110_0, f_110_1, f_110_2, f_110_3, f_110_4, f_110_5, p_110_5, f_110_6, f_110_7, p_110_7, f_110_8, p_110_8, f_110_9, p_110_9, f_110_10, p_110_10, f_110_11, p_110_11, f_110_12, p_110_12, f_110_13, p_110_13, f_110_14, f_110_15, f_110_16, p_110_16, f_110_17, f_110_18, p_110_18, f_110_19, p_110_19, f_110_20, f_110_21, p_110_21, f_110_22, p_110_22, f_110_23, f_110_24, f_110_25, p_110_25, f_110_26, f_110_27, f_110_28, f_110_29, f_110_30, f_110_31, p_110_31, f_110_32, p_110_32, f_110_33, p_110_33, f_110_34, p_110_34, f_110_35, f_110_36, f_110_37, f_110_38, e_127, i_127, Option.some.injEq, exists_eq_left', exists_eq_left, Option.toList_some, Option.toList_none, List.cons_append, List.nil_append, true_and, and_true, Option.map_some, Option.map_none, r_isTown (d := d) (by omega) hT, r_isPerson (d := d) (by omega) hT hW, r_isMatterI (d := d) (by omega) hT hW, r_isSet (d := d) (by omega) hT hW, r_allMatters (d := d) (by omega) hT hW, r_isClosed (d := d) (by omega) hT hW, r_sumOfAll (d := d) (by omega) hT hW, r_restsOf (d := d) (by omega) hT hW, r_in (d := d) (by omega), r_bit (d := d) (by omega), r_bits (d := d) (by omega), r_isSlot (d := d) (by omega), h1, hl, if_false, show ¬ ((1 : Int32) = 0) by decide, not_false_eq_true, if_true, hx, not_true_eq_false]
  | some z =>
    obtain ⟨w, m, f⟩ := z
    have hso := h'.2.2.2.2.2.1 p hp
    rw [ho] at hso
    obtain ⟨hw, hm⟩ : w < 4 ∧ m ≤ 60 := hso _ rfl
    have hrc : ∀ s, cW s W → rowC s p m f := by
      intro s hC
      obtain ⟨-, -, e, -⟩ := hC
      have e1 := e p hp
      rw [ho] at e1
      exact ⟨e1.1, e1.2.2.1, e1.2.2.2⟩
    have hrr : ∀ s, rW s W → rowR s p m f := by
      intro s hC
      obtain ⟨-, -, e, -⟩ := hC
      have e1 := e p hp
      rw [ho] at e1
      exact ⟨e1.1, e1.2.2⟩
    have hcv : ∀ (d : Nat) (xs : List Int32) (s : xS), 10 ≤ d → cW s W → x_ev g_M P d 170 [.ref 1, .int (nI p)] (mkH xs s) (some (.int (if allA (wT W) f m = true then 0 else -2)), mkH xs s) := by
      intro d xs s hd hC
      have hr1 := hrc s hC
      obtain ⟨⟨hT, hA, hn, hacts⟩, -⟩ := hC
      obtain ⟨d, rfl⟩ := x_1 (d := d) (by omega)
      rw [x_ev_in rfl (Nat.le_of_ble_eq_true rfl)]
      rw [show x_ent (x_nL g_M 170) [.ref 1, .int (nI p)] = [some (.ref 1), some (.int (nI p))] from rfl]
      simp only [w_Top_wrongRow_0, w_Top_wrongRow_4, w_Top_wrongRow_7, w_Top_wrongRow_10, w_Top_wrongRow_14, w_Top_wrongRow_17, w_Top_wrongRow_20, w_Top_wrongRow_24, w_Top_wrongRow_26, w_Top_wrongRow_29, w_Top_wrongRow_32, w_Top_wrongRow_35, w_Top_wrongRow_39, w_Top_wrongRow_43, w_Top_wrongRow_45, w_Top_wrongRow_48, w_Top_wrongRow_51, w_Top_wrongRow_55, w_Top_wrongRow_57, c_1, f_1_0, f_1_1, p_1_1, f_1_2, f_1_3, f_1_4, f_1_5, f_1_6, p_1_6, f_1_7, f_1_8, f_1_9, f_1_10, f_1_11, f_1_12, f_1_13, f_1_14, c_3, f_3_0, p_3_0, f_3_1, p_3_1, f_3_2, p_3_2, f_3_3, p_3_3, f_3_4, p_3_4, f_3_5, p_3_5, f_3_6, p_3_6, f_3_7, p_3_7, f_3_8, p_3_8, f_3_9, f_3_10, f_3_11, f_3_12, f_3_13, c_65, f_65_0, f_65_1, e_76, sl_q hp, sl_0 hp, Option.some.injEq, exists_eq_left', exists_eq_left, Option.toList_some, Option.toList_none, List.cons_append, List.nil_append, true_and, and_true, Option.map_some, Option.map_none, t_isTold (d := d) (by omega) hT, t_hasPerson (d := d) (by omega) hT, t_hasMatter (d := d) (by omega) hT, t_hasSet (d := d) (by omega) hT hW, t_bitOf (d := d) (by omega), t_isClosed (d := d) (by omega) hT hW, t_sumOfAll (d := d) (by omega) hT hW, s_openOnes (d := d) (by omega) h9 hT hW hA, s_wishers (d := d) (by omega) h9 hT hW hA hAw, s_allCups (d := d) (by omega) h9 hT hW hA, hl, if_false, show ¬ ((1 : Int32) = 0) by decide, t_isSlot (d := d) (by omega), h1, not_false_eq_true, if_true, hr1.1, m_isOfActs (d := d) (by omega) hT hp hm hr1]
      by_cases hb : allA (wT W) f m = true
      · simp only [hb, b01, if_true, show ¬ ((1 : Int32) = 0) by decide, if_false]
      · simp only [hb, b01, Bool.false_eq_true, if_true, if_false]
    have hrv : ∀ (d : Nat) (xs : List Int32) (s : xS), 10 ≤ d → rW s W → x_ev g_M P d 314 [.ref 110, .int (nI p), .int 1] (mkH xs s) (some (.int (if allA (wT W) f m = true then 0 else -2)), mkH xs s) := by
      intro d xs s hd hC
      have hr1 := hrr s hC
      obtain ⟨hR, -⟩ := hC
      have hT := hR.1
      have hx : x_rd (s.1 127) 4 (nI p) = some (nI m) := by rw [x_rd_nI hp (by omega), hr1.1]
      obtain ⟨d, rfl⟩ := x_1 (d := d) (by omega)
      rw [x_ev_in rfl (Nat.le_of_ble_eq_true rfl)]
      rw [show x_ent (x_nL g_M 314) [.ref 110, .int (nI p), .int 1] = [some (.ref 110), some (.int (nI p)), some (.int 1), none] from rfl]
      simp only [w_Ref_asksMinutes_0, w_Ref_asksMinutes_4, w_Ref_asksMinutes_7, w_Ref_asksMinutes_11, w_Ref_asksMinutes_14, w_Ref_asksMinutes_18, w_Ref_asksMinutes_21, w_Ref_asksMinutes_25, w_Ref_asksMinutes_27, w_Ref_asksMinutes_31, w_Ref_asksMinutes_34, w_Ref_asksMinutes_41, w_Ref_asksMinutes_43, w_Ref_asksMinutes_46, w_Ref_asksMinutes_53, w_Ref_asksMinutes_56, w_Ref_asksMinutes_59, w_Ref_asksMinutes_62, w_Ref_asksMinutes_68, c_110, f_110_0, p_110_0, f_110_1, f_110_2, f_110_3, f_110_4, f_110_5, p_110_5, f_110_6, f_110_7, p_110_7, f_110_8, p_110_8, f_110_9, p_110_9, f_110_10, p_110_10, f_110_11, p_110_11, f_110_12, p_110_12, f_110_13, p_110_13, f_110_14, f_110_15, f_110_16, p_110_16, f_110_17, f_110_18, p_110_18, f_110_19, p_110_19, f_110_20, f_110_21, p_110_21, f_110_22, p_110_22, f_110_23, f_110_24, f_110_25, p_110_25, f_110_26, f_110_27, f_110_28, f_110_29, f_110_30, f_110_31, p_110_31, f_110_32, p_110_32, f_110_33, p_110_33, f_110_34, p_110_34, f_110_35, f_110_36, f_110_37, f_110_38, e_127, i_127, Option.some.injEq, exists_eq_left', exists_eq_left, Option.toList_some, Option.toList_none, List.cons_append, List.nil_append, true_and, and_true, Option.map_some, Option.map_none, r_isTown (d := d) (by omega) hT, r_isPerson (d := d) (by omega) hT hW, r_isMatterI (d := d) (by omega) hT hW, r_isSet (d := d) (by omega) hT hW, r_allMatters (d := d) (by omega) hT hW, r_isClosed (d := d) (by omega) hT hW, r_sumOfAll (d := d) (by omega) hT hW, r_restsOf (d := d) (by omega) hT hW, r_in (d := d) (by omega), r_bit (d := d) (by omega), r_bits (d := d) (by omega), r_isSlot (d := d) (by omega), h1, hl, if_false, show ¬ ((1 : Int32) = 0) by decide, not_false_eq_true, if_true, hx, nI_nm1 (show m < 2 ^ 31 by omega)]
      have key := x_fstI (C := x_ev g_M P d) (k := 314) (r := (some (.int (if allA (wT W) f m = true then 0 else -2)), mkH xs s)) (N := m) (H := mkH xs s) (f := fun i => !actL (wT W) (f i)) (e := 0) (g := fun _ => -2) (F := fun i => (36, [some (.ref 110), some (.int (nI p)), some (.int 1), some (.int (nI i))], [], mkH xs s)) (fun i hi hf => by
        have hc : ¬ nI m ≤ nI i := nI_ge hi (by omega)
        have hf2 : actL (wT W) (f i) = true := by simpa using hf
        simp only [w_Ref_asksMinutes_0, w_Ref_asksMinutes_4, w_Ref_asksMinutes_7, w_Ref_asksMinutes_11, w_Ref_asksMinutes_14, w_Ref_asksMinutes_18, w_Ref_asksMinutes_21, w_Ref_asksMinutes_25, w_Ref_asksMinutes_27, w_Ref_asksMinutes_31, w_Ref_asksMinutes_34, w_Ref_asksMinutes_41, w_Ref_asksMinutes_43, w_Ref_asksMinutes_46, w_Ref_asksMinutes_53, w_Ref_asksMinutes_56, w_Ref_asksMinutes_59, w_Ref_asksMinutes_62, w_Ref_asksMinutes_68, w_Ref_asksMinutes_36 (l3 := nI i), c_110, f_110_0, p_110_0, f_110_1, f_110_2, f_110_3, f_110_4, f_110_5, p_110_5, f_110_6, f_110_7, p_110_7, f_110_8, p_110_8, f_110_9, p_110_9, f_110_10, p_110_10, f_110_11, p_110_11, f_110_12, p_110_12, f_110_13, p_110_13, f_110_14, f_110_15, f_110_16, p_110_16, f_110_17, f_110_18, p_110_18, f_110_19, p_110_19, f_110_20, f_110_21, p_110_21, f_110_22, p_110_22, f_110_23, f_110_24, f_110_25, p_110_25, f_110_26, f_110_27, f_110_28, f_110_29, f_110_30, f_110_31, p_110_31, f_110_32, p_110_32, f_110_33, p_110_33, f_110_34, p_110_34, f_110_35, f_110_36, f_110_37, f_110_38, e_127, i_127, Option.some.injEq, exists_eq_left', exists_eq_left, Option.toList_some, Option.toList_none, List.cons_append, List.nil_append, true_and, and_true, Option.map_some, Option.map_none, hx, hc, if_false, r_numberAt (d := d) (by omega) hp (show i < 60 by omega) hr1, r_isAct (d := d) (by omega) hT hW, hf2, b01, if_true, show ¬ ((1 : Int32) = 0) by decide, not_false_eq_true, nI_1]) (fun i hi hf => by
        have hc : ¬ nI m ≤ nI i := nI_ge hi (by omega)
        have hf2 : actL (wT W) (f i) = false := by simpa using hf
        simp only [w_Ref_asksMinutes_0, w_Ref_asksMinutes_4, w_Ref_asksMinutes_7, w_Ref_asksMinutes_11, w_Ref_asksMinutes_14, w_Ref_asksMinutes_18, w_Ref_asksMinutes_21, w_Ref_asksMinutes_25, w_Ref_asksMinutes_27, w_Ref_asksMinutes_31, w_Ref_asksMinutes_34, w_Ref_asksMinutes_41, w_Ref_asksMinutes_43, w_Ref_asksMinutes_46, w_Ref_asksMinutes_53, w_Ref_asksMinutes_56, w_Ref_asksMinutes_59, w_Ref_asksMinutes_62, w_Ref_asksMinutes_68, w_Ref_asksMinutes_36 (l3 := nI i), c_110, f_110_0, p_110_0, f_110_1, f_110_2, f_110_3, f_110_4, f_110_5, p_110_5, f_110_6, f_110_7, p_110_7, f_110_8, p_110_8, f_110_9, p_110_9, f_110_10, p_110_10, f_110_11, p_110_11, f_110_12, p_110_12, f_110_13, p_110_13, f_110_14, f_110_15, f_110_16, p_110_16, f_110_17, f_110_18, p_110_18, f_110_19, p_110_19, f_110_20, f_110_21, p_110_21, f_110_22, p_110_22, f_110_23, f_110_24, f_110_25, p_110_25, f_110_26, f_110_27, f_110_28, f_110_29, f_110_30, f_110_31, p_110_31, f_110_32, p_110_32, f_110_33, p_110_33, f_110_34, p_110_34, f_110_35, f_110_36, f_110_37, f_110_38, e_127, i_127, Option.some.injEq, exists_eq_left', exists_eq_left, Option.toList_some, Option.toList_none, List.cons_append, List.nil_append, true_and, and_true, Option.map_some, Option.map_none, hx, hc, if_false, r_numberAt (d := d) (by omega) hp (show i < 60 by omega) hr1, r_isAct (d := d) (by omega) hT hW, hf2, b01, Bool.false_eq_true, not_true_eq_false]
        exact eq_comm) (by
        simp only [w_Ref_asksMinutes_0, w_Ref_asksMinutes_4, w_Ref_asksMinutes_7, w_Ref_asksMinutes_11, w_Ref_asksMinutes_14, w_Ref_asksMinutes_18, w_Ref_asksMinutes_21, w_Ref_asksMinutes_25, w_Ref_asksMinutes_27, w_Ref_asksMinutes_31, w_Ref_asksMinutes_34, w_Ref_asksMinutes_41, w_Ref_asksMinutes_43, w_Ref_asksMinutes_46, w_Ref_asksMinutes_53, w_Ref_asksMinutes_56, w_Ref_asksMinutes_59, w_Ref_asksMinutes_62, w_Ref_asksMinutes_68, w_Ref_asksMinutes_36 (l3 := nI m), c_110, f_110_0, p_110_0, f_110_1, f_110_2, f_110_3, f_110_4, f_110_5, p_110_5, f_110_6, f_110_7, p_110_7, f_110_8, p_110_8, f_110_9, p_110_9, f_110_10, p_110_10, f_110_11, p_110_11, f_110_12, p_110_12, f_110_13, p_110_13, f_110_14, f_110_15, f_110_16, p_110_16, f_110_17, f_110_18, p_110_18, f_110_19, p_110_19, f_110_20, f_110_21, p_110_21, f_110_22, p_110_22, f_110_23, f_110_24, f_110_25, p_110_25, f_110_26, f_110_27, f_110_28, f_110_29, f_110_30, f_110_31, p_110_31, f_110_32, p_110_32, f_110_33, p_110_33, f_110_34, p_110_34, f_110_35, f_110_36, f_110_37, f_110_38, e_127, i_127, Option.some.injEq, exists_eq_left', exists_eq_left, Option.toList_some, Option.toList_none, List.cons_append, List.nil_append, true_and, and_true, Option.map_some, Option.map_none, hx, show nI m ≤ nI m from Int32.le_refl _, if_true]
        exact eq_comm)
      refine key.mpr ?_
      unfold allA
      cases frst (fun i => !actL (wT W) (f i)) 0 m <;> simp
    by_cases hb : allA (wT W) f m = true
    · rw [if_pos hb] at hcv hrv
      exact Or.inr ⟨p, m, f, hp, rfl, hm, hb, hrc, hrr, hcv, hrv⟩
    · rw [if_neg hb] at hcv hrv
      exact Or.inl ⟨-2, Or.inl rfl, hcv, hrv⟩
set_option maxHeartbeats 4000000 in
theorem k_judge (h : wOk W) (x : Int32) : ask2 P 166 316 [.int x] W := by
  have hK := h.1
  rcases wr_cs (P := P) h x with ⟨v, hv, c1, r1⟩ | ⟨p, m, f, hp, rfl, hm, ha, hrc, hrr, c1, r1⟩
  · have hn : ¬ (0 : Int32) ≤ v := by rcases hv with rfl | rfl <;> decide
    refine ⟨v, cAsk0 ?_, rAsk0 ?_⟩
    · intro d xs s hd hC
      obtain ⟨d, rfl⟩ := x_1 (d := d) (by omega)
      have q1 := c1 d xs s (by omega) hC
      rw [x_ev_in rfl (Nat.le_of_ble_eq_true rfl)]
      rw [show x_ent (x_nL g_M 166) [.ref 1, .int x] = [some (.ref 1), some (.int x), none] from rfl]
      simp only [w_Top_judge_0, w_Top_judge_5, w_Top_judge_10, w_Top_judge_14, w_Top_judge_18, w_Top_judge_22, w_Top_judge_24, w_Top_judge_27, c_1, f_1_0, f_1_1, p_1_1, f_1_2, f_1_3, f_1_4, f_1_5, f_1_6, p_1_6, f_1_7, f_1_8, f_1_9, f_1_10, f_1_11, f_1_12, f_1_13, f_1_14, Option.some.injEq, exists_eq_left', exists_eq_left, Option.toList_some, Option.toList_none, List.cons_append, List.nil_append, true_and, and_true, Option.map_some, Option.map_none, x_ev_iff q1, hn, if_false]
    · intro d xs s hd hC
      obtain ⟨d, rfl⟩ := x_1 (d := d) (by omega)
      have q1 := r1 d xs s (by omega) hC
      rw [x_ev_in rfl (Nat.le_of_ble_eq_true rfl)]
      rw [show x_ent (x_nL g_M 316) [.ref 110, .int x] = [some (.ref 110), some (.int x), none] from rfl]
      simp only [w_Ref_judge_0, w_Ref_judge_6, w_Ref_judge_11, w_Ref_judge_15, w_Ref_judge_21, w_Ref_judge_23, w_Ref_judge_26, c_110, f_110_0, p_110_0, f_110_1, f_110_2, f_110_3, f_110_4, f_110_5, p_110_5, f_110_6, f_110_7, p_110_7, f_110_8, p_110_8, f_110_9, p_110_9, f_110_10, p_110_10, f_110_11, p_110_11, f_110_12, p_110_12, f_110_13, p_110_13, f_110_14, f_110_15, f_110_16, p_110_16, f_110_17, f_110_18, p_110_18, f_110_19, p_110_19, f_110_20, f_110_21, p_110_21, f_110_22, p_110_22, f_110_23, f_110_24, f_110_25, p_110_25, f_110_26, f_110_27, f_110_28, f_110_29, f_110_30, f_110_31, p_110_31, f_110_32, p_110_32, f_110_33, p_110_33, f_110_34, p_110_34, f_110_35, f_110_36, f_110_37, f_110_38, Option.some.injEq, exists_eq_left', exists_eq_left, Option.toList_some, Option.toList_none, List.cons_append, List.nil_append, true_and, and_true, Option.map_some, Option.map_none, x_ev_iff q1, hn, if_false]
  · refine ⟨nI (runF (wT W) f 0 m (aBegin (wT W))).1, cAsk ?_, rAsk ?_⟩
    · intro d xs s hd hC
      obtain ⟨d, rfl⟩ := x_1 (d := d) (by omega)
      obtain ⟨d, rfl⟩ := x_1 (d := d) (by omega)
      have q1 := c1 (d + 1) xs s (by omega) hC
      obtain ⟨s', z1, z2, z3⟩ := m_takeFirst (P := P) (d := d) (xs := xs) (by omega) hK hp hm (nn := m) (by omega) hC.1.1 (hrc s hC)
      rw [Nat.min_self] at z1
      have y1 : x_ev g_M P (d + 1) 13 [.ref 65, .ref (77 + 2 * p)] (mkH xs s) (some (.int (nI (runF (wT W) f 0 m (aBegin (wT W))).1)), mkH xs s') := by
        rw [x_ev_in rfl (Nat.le_of_ble_eq_true rfl)]
        rw [show x_ent (x_nL g_M 13) [.ref 65, .ref (77 + 2 * p)] = [some (.ref 65), some (.ref (77 + 2 * p))] from rfl]
        simp only [w_Minutes_judgeRow_0, w_Minutes_judgeRow_6, w_Minutes_judgeRow_9, c_65, f_65_0, f_65_1, sl_2 hp, Option.some.injEq, exists_eq_left', exists_eq_left, Option.toList_some, Option.toList_none, List.cons_append, List.nil_append, true_and, and_true, Option.map_some, Option.map_none, (hrc s hC).2.1, x_ev_iff z1]
      refine ⟨s', ?_, (z2.M (Or.inl rfl)).ke⟩
      rw [x_ev_in rfl (Nat.le_of_ble_eq_true rfl)]
      rw [show x_ent (x_nL g_M 166) [.ref 1, .int (nI p)] = [some (.ref 1), some (.int (nI p)), none] from rfl]
      simp only [w_Top_judge_0, w_Top_judge_5, w_Top_judge_10, w_Top_judge_14, w_Top_judge_18, w_Top_judge_22, w_Top_judge_24, w_Top_judge_27, c_1, f_1_0, f_1_1, p_1_1, f_1_2, f_1_3, f_1_4, f_1_5, f_1_6, p_1_6, f_1_7, f_1_8, f_1_9, f_1_10, f_1_11, f_1_12, f_1_13, f_1_14, c_65, f_65_0, f_65_1, e_76, sl_q hp, Option.some.injEq, exists_eq_left', exists_eq_left, Option.toList_some, Option.toList_none, List.cons_append, List.nil_append, true_and, and_true, Option.map_some, Option.map_none, x_ev_iff q1, show (0 : Int32) ≤ 0 by decide, if_true, x_ev_iff y1]
    · intro d xs s hd hC
      obtain ⟨d, rfl⟩ := x_1 (d := d) (by omega)
      have q1 := r1 d xs s (by omega) hC
      have hr1 := hrr s hC
      have hx : x_rd (s.1 127) 4 (nI p) = some (nI m) := by rw [x_rd_nI hp (by omega), hr1.1]
      obtain ⟨s', z1, z2, z3⟩ := r_goBy (P := P) (d := d) (xs := xs) (by omega) hK hp hm (nn := m) (by omega) ha hC.1.1 hr1
      rw [Nat.min_self] at z1
      refine ⟨s', ?_, z2.ke⟩
      rw [x_ev_in rfl (Nat.le_of_ble_eq_true rfl)]
      rw [show x_ent (x_nL g_M 316) [.ref 110, .int (nI p)] = [some (.ref 110), some (.int (nI p)), none] from rfl]
      simp only [w_Ref_judge_0, w_Ref_judge_6, w_Ref_judge_11, w_Ref_judge_15, w_Ref_judge_21, w_Ref_judge_23, w_Ref_judge_26, c_110, f_110_0, p_110_0, f_110_1, f_110_2, f_110_3, f_110_4, f_110_5, p_110_5, f_110_6, f_110_7, p_110_7, f_110_8, p_110_8, f_110_9, p_110_9, f_110_10, p_110_10, f_110_11, p_110_11, f_110_12, p_110_12, f_110_13, p_110_13, f_110_14, f_110_15, f_110_16, p_110_16, f_110_17, f_110_18, p_110_18, f_110_19, p_110_19, f_110_20, f_110_21, p_110_21, f_110_22, p_110_22, f_110_23, f_110_24, f_110_25, p_110_25, f_110_26, f_110_27, f_110_28, f_110_29, f_110_30, f_110_31, p_110_31, f_110_32, p_110_32, f_110_33, p_110_33, f_110_34, p_110_34, f_110_35, f_110_36, f_110_37, f_110_38, e_127, i_127, Option.some.injEq, exists_eq_left', exists_eq_left, Option.toList_some, Option.toList_none, List.cons_append, List.nil_append, true_and, and_true, Option.map_some, Option.map_none, x_ev_iff q1, show (0 : Int32) ≤ 0 by decide, if_true, hx, x_ev_iff z1]
set_option maxHeartbeats 4000000 in
theorem k_held (h : wOk W) (x : Int32) : ask2 P 167 317 [.int x] W := by
  have hK := h.1
  have hW := hK.1
  rcases wr_cs (P := P) h x with ⟨v, hv, c1, r1⟩ | ⟨p, m, f, hp, rfl, hm, ha, hrc, hrr, c1, r1⟩
  · have hn : ¬ (0 : Int32) ≤ v := by rcases hv with rfl | rfl <;> decide
    refine ⟨v, cAsk0 ?_, rAsk0 ?_⟩
    · intro d xs s hd hC
      obtain ⟨d, rfl⟩ := x_1 (d := d) (by omega)
      have q1 := c1 d xs s (by omega) hC
      rw [x_ev_in rfl (Nat.le_of_ble_eq_true rfl)]
      rw [show x_ent (x_nL g_M 167) [.ref 1, .int x] = [some (.ref 1), some (.int x), none] from rfl]
      simp only [w_Top_held_0, w_Top_held_5, w_Top_held_10, w_Top_held_14, w_Top_held_18, w_Top_held_22, w_Top_held_24, w_Top_held_27, c_1, f_1_0, f_1_1, p_1_1, f_1_2, f_1_3, f_1_4, f_1_5, f_1_6, p_1_6, f_1_7, f_1_8, f_1_9, f_1_10, f_1_11, f_1_12, f_1_13, f_1_14, Option.some.injEq, exists_eq_left', exists_eq_left, Option.toList_some, Option.toList_none, List.cons_append, List.nil_append, true_and, and_true, Option.map_some, Option.map_none, x_ev_iff q1, hn, if_false]
    · intro d xs s hd hC
      obtain ⟨d, rfl⟩ := x_1 (d := d) (by omega)
      have q1 := r1 d xs s (by omega) hC
      rw [x_ev_in rfl (Nat.le_of_ble_eq_true rfl)]
      rw [show x_ent (x_nL g_M 317) [.ref 110, .int x] = [some (.ref 110), some (.int x), none] from rfl]
      simp only [w_Ref_held_0, w_Ref_held_6, w_Ref_held_11, w_Ref_held_13, w_Ref_held_19, w_Ref_held_21, w_Ref_held_24, w_Ref_held_29, c_110, f_110_0, p_110_0, f_110_1, f_110_2, f_110_3, f_110_4, f_110_5, p_110_5, f_110_6, f_110_7, p_110_7, f_110_8, p_110_8, f_110_9, p_110_9, f_110_10, p_110_10, f_110_11, p_110_11, f_110_12, p_110_12, f_110_13, p_110_13, f_110_14, f_110_15, f_110_16, p_110_16, f_110_17, f_110_18, p_110_18, f_110_19, p_110_19, f_110_20, f_110_21, p_110_21, f_110_22, p_110_22, f_110_23, f_110_24, f_110_25, p_110_25, f_110_26, f_110_27, f_110_28, f_110_29, f_110_30, f_110_31, p_110_31, f_110_32, p_110_32, f_110_33, p_110_33, f_110_34, p_110_34, f_110_35, f_110_36, f_110_37, f_110_38, Option.some.injEq, exists_eq_left', exists_eq_left, Option.toList_some, Option.toList_none, List.cons_append, List.nil_append, true_and, and_true, Option.map_some, Option.map_none, x_ev_iff q1, hn, if_false]
  · refine ⟨msk (runF (wT W) f 0 m (aBegin (wT W))).2.1, cAsk ?_, rAsk ?_⟩
    · intro d xs s hd hC
      obtain ⟨d, rfl⟩ := x_1 (d := d) (by omega)
      obtain ⟨d, rfl⟩ := x_1 (d := d) (by omega)
      have q1 := c1 (d + 1) xs s (by omega) hC
      obtain ⟨s', z1, z2, z3⟩ := m_takeFirst (P := P) (d := d) (xs := xs) (by omega) hK hp hm (nn := m) (by omega) hC.1.1 (hrc s hC)
      rw [Nat.min_self] at z1 z3
      have y1 : x_ev g_M P (d + 1) 14 [.ref 65, .ref (77 + 2 * p)] (mkH xs s) (some (.int (msk (runF (wT W) f 0 m (aBegin (wT W))).2.1)), mkH xs s') := by
        rw [x_ev_in rfl (Nat.le_of_ble_eq_true rfl)]
        rw [show x_ent (x_nL g_M 14) [.ref 65, .ref (77 + 2 * p)] = [some (.ref 65), some (.ref (77 + 2 * p))] from rfl]
        simp only [w_Minutes_heldBy_0, w_Minutes_heldBy_6, w_Minutes_heldBy_9, w_Minutes_heldBy_14, w_Minutes_heldBy_17, c_65, f_65_0, f_65_1, c_66, f_66_0, f_66_1, p_66_1, f_66_2, p_66_2, f_66_3, p_66_3, f_66_4, p_66_4, f_66_5, f_66_6, sl_2 hp, Option.some.injEq, exists_eq_left', exists_eq_left, Option.toList_some, Option.toList_none, List.cons_append, List.nil_append, true_and, and_true, Option.map_some, Option.map_none, (hrc s hC).2.1, x_ev_iff z1, z3.1]
      refine ⟨s', ?_, (z2.M (Or.inl rfl)).ke⟩
      rw [x_ev_in rfl (Nat.le_of_ble_eq_true rfl)]
      rw [show x_ent (x_nL g_M 167) [.ref 1, .int (nI p)] = [some (.ref 1), some (.int (nI p)), none] from rfl]
      simp only [w_Top_held_0, w_Top_held_5, w_Top_held_10, w_Top_held_14, w_Top_held_18, w_Top_held_22, w_Top_held_24, w_Top_held_27, c_1, f_1_0, f_1_1, p_1_1, f_1_2, f_1_3, f_1_4, f_1_5, f_1_6, p_1_6, f_1_7, f_1_8, f_1_9, f_1_10, f_1_11, f_1_12, f_1_13, f_1_14, c_65, f_65_0, f_65_1, e_76, sl_q hp, Option.some.injEq, exists_eq_left', exists_eq_left, Option.toList_some, Option.toList_none, List.cons_append, List.nil_append, true_and, and_true, Option.map_some, Option.map_none, x_ev_iff q1, show (0 : Int32) ≤ 0 by decide, if_true, x_ev_iff y1]
    · intro d xs s hd hC
      obtain ⟨d, rfl⟩ := x_1 (d := d) (by omega)
      have q1 := r1 d xs s (by omega) hC
      have hr1 := hrr s hC
      have hx : x_rd (s.1 127) 4 (nI p) = some (nI m) := by rw [x_rd_nI hp (by omega), hr1.1]
      obtain ⟨s', z1, z2, z3⟩ := r_goBy (P := P) (d := d) (xs := xs) (by omega) hK hp hm (nn := m) (by omega) ha hC.1.1 hr1
      rw [Nat.min_self] at z1 z3
      have hok := runF_ok hK f m 0 (aBegin (wT W)) (aOk_begin hK)
      refine ⟨s', ?_, z2.ke⟩
      rw [x_ev_in rfl (Nat.le_of_ble_eq_true rfl)]
      rw [show x_ent (x_nL g_M 317) [.ref 110, .int (nI p)] = [some (.ref 110), some (.int (nI p)), none] from rfl]
      simp only [w_Ref_held_0, w_Ref_held_6, w_Ref_held_11, w_Ref_held_13, w_Ref_held_19, w_Ref_held_21, w_Ref_held_24, w_Ref_held_29, c_110, f_110_0, p_110_0, f_110_1, f_110_2, f_110_3, f_110_4, f_110_5, p_110_5, f_110_6, f_110_7, p_110_7, f_110_8, p_110_8, f_110_9, p_110_9, f_110_10, p_110_10, f_110_11, p_110_11, f_110_12, p_110_12, f_110_13, p_110_13, f_110_14, f_110_15, f_110_16, p_110_16, f_110_17, f_110_18, p_110_18, f_110_19, p_110_19, f_110_20, f_110_21, p_110_21, f_110_22, p_110_22, f_110_23, f_110_24, f_110_25, p_110_25, f_110_26, f_110_27, f_110_28, f_110_29, f_110_30, f_110_31, p_110_31, f_110_32, p_110_32, f_110_33, p_110_33, f_110_34, p_110_34, f_110_35, f_110_36, f_110_37, f_110_38, e_127, i_127, Option.some.injEq, exists_eq_left', exists_eq_left, Option.toList_some, Option.toList_none, List.cons_append, List.nil_append, true_and, and_true, Option.map_some, Option.map_none, x_ev_iff q1, show (0 : Int32) ≤ 0 by decide, if_true, hx, x_ev_iff z1, r_settledNow (d := d) (by omega) z3 hok.1 hW]
theorem runF_min {T : Tw} {f : Nat → Int64} {m nn : Nat} {A : As} : nn ≤ (runF T f 0 (min nn m) A).1 ↔ nn ≤ (runF T f 0 m A).1 := by
  by_cases h : nn ≤ m
  · rw [Nat.min_eq_left h]
    obtain ⟨k, rfl⟩ : ∃ k, m = nn + k := ⟨m - nn, by omega⟩
    have b := (runF_b T f nn 0 A).2
    rw [runF_add T f nn k 0 A]
    by_cases hc : (runF T f 0 nn A).1 = 0 + nn
    · rw [if_pos hc]
      have b2 := (runF_b T f k (0 + nn) (runF T f 0 nn A).2).1
      omega
    · rw [if_neg hc]
  · rw [Nat.min_eq_right (by omega)]
set_option maxHeartbeats 8000000 in
theorem k_when (h : wOk W) (x y n : Int32) : ask2 P 168 318 [.int x, .int y, .int n] W := by
  have h' := h
  obtain ⟨hK, hl60, hr, hrest⟩ := h; have hW := hK.1; have hO := aOk_run hK _ _ _ (aOk_begin hK) hr; have hAw := hO.1; have w1 := hW.1; have w2 := hW.2.1; have h9 : 9 ∈ g_SP := by decide
  have hno : ∀ (d : Nat) (xs : List Int32) (s : xS), 10 ≤ d → rW s W → x_ev g_M P d 314 [.ref 110, .int x, .int 0] (mkH xs s) (some (.int (-2)), mkH xs s) := by
    intro d xs s hd hC; obtain ⟨hR, -⟩ := hC; have hT := hR.1
    obtain ⟨d, rfl⟩ := x_1 (d := d) (by omega)
    rw [x_ev_in rfl (Nat.le_of_ble_eq_true rfl)]
    rw [show x_ent (x_nL g_M 314) [.ref 110, .int x, .int 0] = [some (.ref 110), some (.int x), some (.int 0), none] from rfl]
    simp only [w_Ref_asksMinutes_0, w_Ref_asksMinutes_4, w_Ref_asksMinutes_7, w_Ref_asksMinutes_11, w_Ref_asksMinutes_14, w_Ref_asksMinutes_18, w_Ref_asksMinutes_21, w_Ref_asksMinutes_25, w_Ref_asksMinutes_27, w_Ref_asksMinutes_31, w_Ref_asksMinutes_34, w_Ref_asksMinutes_41, w_Ref_asksMinutes_43, w_Ref_asksMinutes_46, w_Ref_asksMinutes_53, w_Ref_asksMinutes_56, w_Ref_asksMinutes_59, w_Ref_asksMinutes_62, w_Ref_asksMinutes_68, c_110, f_110_0, p_110_0, f_110_1, f_110_2, f_110_3, f_110_4, f_110_5, p_110_5, f_110_6, f_110_7, p_110_7, f_110_8, p_110_8, f_110_9, p_110_9, f_110_10, p_110_10, f_110_11, p_110_11, f_110_12, p_110_12, f_110_13, p_110_13, f_110_14, f_110_15, f_110_16, p_110_16, f_110_17, f_110_18, p_110_18, f_110_19, p_110_19, f_110_20, f_110_21, p_110_21, f_110_22, p_110_22, f_110_23, f_110_24, f_110_25, p_110_25, f_110_26, f_110_27, f_110_28, f_110_29, f_110_30, f_110_31, p_110_31, f_110_32, p_110_32, f_110_33, p_110_33, f_110_34, p_110_34, f_110_35, f_110_36, f_110_37, f_110_38, Option.some.injEq, exists_eq_left', exists_eq_left, Option.toList_some, Option.toList_none, List.cons_append, List.nil_append, true_and, and_true, Option.map_some, Option.map_none, r_isTown (d := d) (by omega) hT, r_isPerson (d := d) (by omega) hT hW, r_isMatterI (d := d) (by omega) hT hW, r_isSet (d := d) (by omega) hT hW, r_allMatters (d := d) (by omega) hT hW, r_isClosed (d := d) (by omega) hT hW, r_sumOfAll (d := d) (by omega) hT hW, r_restsOf (d := d) (by omega) hT hW, r_in (d := d) (by omega), r_bit (d := d) (by omega), r_bits (d := d) (by omega), r_isSlot (d := d) (by omega), not_true_eq_false, if_false, ite_self]
  rcases has_cs (n := tM (wT W)) (by omega) y with h0 | ⟨mt, hmt, rfl, h1⟩
  · refine ⟨-2, cAsk0 ?_, rAsk0 ?_⟩
    · intro d xs s hd hC; obtain ⟨⟨hT, hA, hn, hacts⟩, -⟩ := hC
      obtain ⟨d, rfl⟩ := x_1 (d := d) (by omega)
      rw [x_ev_in rfl (Nat.le_of_ble_eq_true rfl)]
      rw [show x_ent (x_nL g_M 168) [.ref 1, .int x, .int y, .int n] = [some (.ref 1), some (.int x), some (.int y), some (.int n), none] from rfl]
      simp only [w_Top_when_0, w_Top_when_4, w_Top_when_8, w_Top_when_11, w_Top_when_15, w_Top_when_18, w_Top_when_23, w_Top_when_30, w_Top_when_35, w_Top_when_39, w_Top_when_43, w_Top_when_45, w_Top_when_50, c_1, f_1_0, f_1_1, p_1_1, f_1_2, f_1_3, f_1_4, f_1_5, f_1_6, p_1_6, f_1_7, f_1_8, f_1_9, f_1_10, f_1_11, f_1_12, f_1_13, f_1_14, c_3, f_3_0, p_3_0, f_3_1, p_3_1, f_3_2, p_3_2, f_3_3, p_3_3, f_3_4, p_3_4, f_3_5, p_3_5, f_3_6, p_3_6, f_3_7, p_3_7, f_3_8, p_3_8, f_3_9, f_3_10, f_3_11, f_3_12, f_3_13, Option.some.injEq, exists_eq_left', exists_eq_left, Option.toList_some, Option.toList_none, List.cons_append, List.nil_append, true_and, and_true, Option.map_some, Option.map_none, t_isTold (d := d) (by omega) hT, t_hasPerson (d := d) (by omega) hT, t_hasMatter (d := d) (by omega) hT, t_hasSet (d := d) (by omega) hT hW, t_bitOf (d := d) (by omega), t_isClosed (d := d) (by omega) hT hW, t_sumOfAll (d := d) (by omega) hT hW, s_openOnes (d := d) (by omega) h9 hT hW hA, s_wishers (d := d) (by omega) h9 hT hW hA hAw, s_allCups (d := d) (by omega) h9 hT hW hA, h0, if_true]
    · intro d xs s hd hC
      obtain ⟨d, rfl⟩ := x_1 (d := d) (by omega)
      have q1 := hno d xs s (by omega) hC
      have hT := hC.1.1
      rw [x_ev_in rfl (Nat.le_of_ble_eq_true rfl)]
      rw [show x_ent (x_nL g_M 318) [.ref 110, .int x, .int y, .int n] = [some (.ref 110), some (.int x), some (.int y), some (.int n), none] from rfl]
      simp only [w_Ref_when_0, w_Ref_when_8, w_Ref_when_11, w_Ref_when_15, w_Ref_when_19, w_Ref_when_20, w_Ref_when_23, w_Ref_when_30, w_Ref_when_33, w_Ref_when_40, w_Ref_when_42, w_Ref_when_45, w_Ref_when_48, w_Ref_when_50, w_Ref_when_56, w_Ref_when_61, w_Ref_when_65, c_110, f_110_0, p_110_0, f_110_1, f_110_2, f_110_3, f_110_4, f_110_5, p_110_5, f_110_6, f_110_7, p_110_7, f_110_8, p_110_8, f_110_9, p_110_9, f_110_10, p_110_10, f_110_11, p_110_11, f_110_12, p_110_12, f_110_13, p_110_13, f_110_14, f_110_15, f_110_16, p_110_16, f_110_17, f_110_18, p_110_18, f_110_19, p_110_19, f_110_20, f_110_21, p_110_21, f_110_22, p_110_22, f_110_23, f_110_24, f_110_25, p_110_25, f_110_26, f_110_27, f_110_28, f_110_29, f_110_30, f_110_31, p_110_31, f_110_32, p_110_32, f_110_33, p_110_33, f_110_34, p_110_34, f_110_35, f_110_36, f_110_37, f_110_38, Option.some.injEq, exists_eq_left', exists_eq_left, Option.toList_some, Option.toList_none, List.cons_append, List.nil_append, true_and, and_true, Option.map_some, Option.map_none, r_isTown (d := d) (by omega) hT, r_isPerson (d := d) (by omega) hT hW, r_isMatterI (d := d) (by omega) hT hW, r_isSet (d := d) (by omega) hT hW, r_allMatters (d := d) (by omega) hT hW, r_isClosed (d := d) (by omega) hT hW, r_sumOfAll (d := d) (by omega) hT hW, r_restsOf (d := d) (by omega) hT hW, r_in (d := d) (by omega), r_bit (d := d) (by omega), r_bits (d := d) (by omega), h0, if_true, x_ev_iff q1, show ¬ (0 : Int32) ≤ -2 by decide, if_false]
  by_cases hn : n < 0
  · have hn' : ¬ 0 ≤ n := Int32.not_le.mpr hn
    refine ⟨-2, cAsk0 ?_, rAsk0 ?_⟩
    · intro d xs s hd hC; obtain ⟨⟨hT, hA, hn, hacts⟩, -⟩ := hC
      obtain ⟨d, rfl⟩ := x_1 (d := d) (by omega)
      rw [x_ev_in rfl (Nat.le_of_ble_eq_true rfl)]
      rw [show x_ent (x_nL g_M 168) [.ref 1, .int x, .int (nI mt), .int n] = [some (.ref 1), some (.int x), some (.int (nI mt)), some (.int n), none] from rfl]
      simp only [w_Top_when_0, w_Top_when_4, w_Top_when_8, w_Top_when_11, w_Top_when_15, w_Top_when_18, w_Top_when_23, w_Top_when_30, w_Top_when_35, w_Top_when_39, w_Top_when_43, w_Top_when_45, w_Top_when_50, c_1, f_1_0, f_1_1, p_1_1, f_1_2, f_1_3, f_1_4, f_1_5, f_1_6, p_1_6, f_1_7, f_1_8, f_1_9, f_1_10, f_1_11, f_1_12, f_1_13, f_1_14, c_3, f_3_0, p_3_0, f_3_1, p_3_1, f_3_2, p_3_2, f_3_3, p_3_3, f_3_4, p_3_4, f_3_5, p_3_5, f_3_6, p_3_6, f_3_7, p_3_7, f_3_8, p_3_8, f_3_9, f_3_10, f_3_11, f_3_12, f_3_13, Option.some.injEq, exists_eq_left', exists_eq_left, Option.toList_some, Option.toList_none, List.cons_append, List.nil_append, true_and, and_true, Option.map_some, Option.map_none, t_isTold (d := d) (by omega) hT, t_hasPerson (d := d) (by omega) hT, t_hasMatter (d := d) (by omega) hT, t_hasSet (d := d) (by omega) hT hW, t_bitOf (d := d) (by omega), t_isClosed (d := d) (by omega) hT hW, t_sumOfAll (d := d) (by omega) hT hW, s_openOnes (d := d) (by omega) h9 hT hW hA, s_wishers (d := d) (by omega) h9 hT hW hA hAw, s_allCups (d := d) (by omega) h9 hT hW hA, h1, show ¬ ((1 : Int32) = 0) by decide, if_false, hn']
    · intro d xs s hd hC
      obtain ⟨d, rfl⟩ := x_1 (d := d) (by omega)
      have q1 := hno d xs s (by omega) hC
      have hT := hC.1.1
      rw [x_ev_in rfl (Nat.le_of_ble_eq_true rfl)]
      rw [show x_ent (x_nL g_M 318) [.ref 110, .int x, .int (nI mt), .int n] = [some (.ref 110), some (.int x), some (.int (nI mt)), some (.int n), none] from rfl]
      simp only [w_Ref_when_0, w_Ref_when_8, w_Ref_when_11, w_Ref_when_15, w_Ref_when_19, w_Ref_when_20, w_Ref_when_23, w_Ref_when_30, w_Ref_when_33, w_Ref_when_40, w_Ref_when_42, w_Ref_when_45, w_Ref_when_48, w_Ref_when_50, w_Ref_when_56, w_Ref_when_61, w_Ref_when_65, c_110, f_110_0, p_110_0, f_110_1, f_110_2, f_110_3, f_110_4, f_110_5, p_110_5, f_110_6, f_110_7, p_110_7, f_110_8, p_110_8, f_110_9, p_110_9, f_110_10, p_110_10, f_110_11, p_110_11, f_110_12, p_110_12, f_110_13, p_110_13, f_110_14, f_110_15, f_110_16, p_110_16, f_110_17, f_110_18, p_110_18, f_110_19, p_110_19, f_110_20, f_110_21, p_110_21, f_110_22, p_110_22, f_110_23, f_110_24, f_110_25, p_110_25, f_110_26, f_110_27, f_110_28, f_110_29, f_110_30, f_110_31, p_110_31, f_110_32, p_110_32, f_110_33, p_110_33, f_110_34, p_110_34, f_110_35, f_110_36, f_110_37, f_110_38, Option.some.injEq, exists_eq_left', exists_eq_left, Option.toList_some, Option.toList_none, List.cons_append, List.nil_append, true_and, and_true, Option.map_some, Option.map_none, r_isTown (d := d) (by omega) hT, r_isPerson (d := d) (by omega) hT hW, r_isMatterI (d := d) (by omega) hT hW, r_isSet (d := d) (by omega) hT hW, r_allMatters (d := d) (by omega) hT hW, r_isClosed (d := d) (by omega) hT hW, r_sumOfAll (d := d) (by omega) hT hW, r_restsOf (d := d) (by omega) hT hW, r_in (d := d) (by omega), r_bit (d := d) (by omega), r_bits (d := d) (by omega), h1, show ¬ ((1 : Int32) = 0) by decide, if_false, hn, if_true, x_ev_iff q1, show ¬ (0 : Int32) ≤ -2 by decide]
  have hn' : 0 ≤ n := Int32.not_lt.mp hn
  rcases wr_cs (P := P) h' x with ⟨v, hv, c1, r1⟩ | ⟨p, m, f, hp, rfl, hm, ha, hrc, hrr, c1, r1⟩
  · have hvn : ¬ (0 : Int32) ≤ v := by rcases hv with rfl | rfl <;> decide
    refine ⟨v, cAsk0 ?_, rAsk0 ?_⟩
    · intro d xs s hd hC
      obtain ⟨d, rfl⟩ := x_1 (d := d) (by omega)
      have q1 := c1 d xs s (by omega) hC
      have hT := hC.1.1
      rw [x_ev_in rfl (Nat.le_of_ble_eq_true rfl)]
      rw [show x_ent (x_nL g_M 168) [.ref 1, .int x, .int (nI mt), .int n] = [some (.ref 1), some (.int x), some (.int (nI mt)), some (.int n), none] from rfl]
      simp only [w_Top_when_0, w_Top_when_4, w_Top_when_8, w_Top_when_11, w_Top_when_15, w_Top_when_18, w_Top_when_23, w_Top_when_30, w_Top_when_35, w_Top_when_39, w_Top_when_43, w_Top_when_45, w_Top_when_50, c_1, f_1_0, f_1_1, p_1_1, f_1_2, f_1_3, f_1_4, f_1_5, f_1_6, p_1_6, f_1_7, f_1_8, f_1_9, f_1_10, f_1_11, f_1_12, f_1_13, f_1_14, c_3, f_3_0, p_3_0, f_3_1, p_3_1, f_3_2, p_3_2, f_3_3, p_3_3, f_3_4, p_3_4, f_3_5, p_3_5, f_3_6, p_3_6, f_3_7, p_3_7, f_3_8, p_3_8, f_3_9, f_3_10, f_3_11, f_3_12, f_3_13, Option.some.injEq, exists_eq_left', exists_eq_left, Option.toList_some, Option.toList_none, List.cons_append, List.nil_append, true_and, and_true, Option.map_some, Option.map_none, t_hasMatter (d := d) (by omega) hT, h1, show ¬ ((1 : Int32) = 0) by decide, if_false, hn', if_true, x_ev_iff q1, hvn]
    · intro d xs s hd hC
      obtain ⟨d, rfl⟩ := x_1 (d := d) (by omega)
      have q1 := r1 d xs s (by omega) hC
      have hT := hC.1.1
      rw [x_ev_in rfl (Nat.le_of_ble_eq_true rfl)]
      rw [show x_ent (x_nL g_M 318) [.ref 110, .int x, .int (nI mt), .int n] = [some (.ref 110), some (.int x), some (.int (nI mt)), some (.int n), none] from rfl]
      simp only [w_Ref_when_0, w_Ref_when_8, w_Ref_when_11, w_Ref_when_15, w_Ref_when_19, w_Ref_when_20, w_Ref_when_23, w_Ref_when_30, w_Ref_when_33, w_Ref_when_40, w_Ref_when_42, w_Ref_when_45, w_Ref_when_48, w_Ref_when_50, w_Ref_when_56, w_Ref_when_61, w_Ref_when_65, c_110, f_110_0, p_110_0, f_110_1, f_110_2, f_110_3, f_110_4, f_110_5, p_110_5, f_110_6, f_110_7, p_110_7, f_110_8, p_110_8, f_110_9, p_110_9, f_110_10, p_110_10, f_110_11, p_110_11, f_110_12, p_110_12, f_110_13, p_110_13, f_110_14, f_110_15, f_110_16, p_110_16, f_110_17, f_110_18, p_110_18, f_110_19, p_110_19, f_110_20, f_110_21, p_110_21, f_110_22, p_110_22, f_110_23, f_110_24, f_110_25, p_110_25, f_110_26, f_110_27, f_110_28, f_110_29, f_110_30, f_110_31, p_110_31, f_110_32, p_110_32, f_110_33, p_110_33, f_110_34, p_110_34, f_110_35, f_110_36, f_110_37, f_110_38, Option.some.injEq, exists_eq_left', exists_eq_left, Option.toList_some, Option.toList_none, List.cons_append, List.nil_append, true_and, and_true, Option.map_some, Option.map_none, r_isTown (d := d) (by omega) hT, r_isPerson (d := d) (by omega) hT hW, r_isMatterI (d := d) (by omega) hT hW, r_isSet (d := d) (by omega) hT hW, r_allMatters (d := d) (by omega) hT hW, r_isClosed (d := d) (by omega) hT hW, r_sumOfAll (d := d) (by omega) hT hW, r_restsOf (d := d) (by omega) hT hW, r_in (d := d) (by omega), r_bit (d := d) (by omega), r_bits (d := d) (by omega), h1, show ¬ ((1 : Int32) = 0) by decide, if_false, hn, x_ev_iff q1, hvn]
  · obtain ⟨nn, hnn, rfl⟩ := nI_of hn
    have hb := runF_b (wT W) f m 0 (aBegin (wT W))
    have hb2 := runF_b (wT W) f (min nn m) 0 (aBegin (wT W))
    have hmin := runF_min (T := wT W) (f := f) (m := m) (nn := nn) (A := aBegin (wT W))
    have w32 : mt < 32 := by omega
    refine ⟨if nn ≤ (runF (wT W) f 0 m (aBegin (wT W))).1 then (if bt (msk (runF (wT W) f 0 (min nn m) (aBegin (wT W))).2.1) mt = true then 1 else 0) else -1, cAsk ?_, rAsk ?_⟩
    · intro d xs s hd hC
      obtain ⟨d, rfl⟩ := x_1 (d := d) (by omega)
      obtain ⟨d, rfl⟩ := x_1 (d := d) (by omega)
      have q1 := c1 (d + 1) xs s (by omega) hC
      have hT := hC.1.1
      obtain ⟨s', z1, z2, z3⟩ := m_takeFirst (P := P) (d := d) (xs := xs) (by omega) hK hp hm (nn := nn) hnn hT (hrc s hC)
      have hle : nI nn ≤ nI (runF (wT W) f 0 (min nn m) (aBegin (wT W))).1 ↔ nn ≤ (runF (wT W) f 0 m (aBegin (wT W))).1 := (nI_leI hnn (by omega)).trans hmin
      have y1 : x_ev g_M P (d + 1) 15 [.ref 65, .ref (77 + 2 * p), .int (nI mt), .int (nI nn)] (mkH xs s) (some (.int (if nn ≤ (runF (wT W) f 0 m (aBegin (wT W))).1 then (if bt (msk (runF (wT W) f 0 (min nn m) (aBegin (wT W))).2.1) mt = true then 1 else 0) else -1)), mkH xs s') := by
        rw [x_ev_in rfl (Nat.le_of_ble_eq_true rfl)]
        rw [show x_ent (x_nL g_M 15) [.ref 65, .ref (77 + 2 * p), .int (nI mt), .int (nI nn)] = [some (.ref 65), some (.ref (77 + 2 * p)), some (.int (nI mt)), some (.int (nI nn))] from rfl]
        simp only [w_Minutes_heldWhen_0, w_Minutes_heldWhen_6, w_Minutes_heldWhen_10, w_Minutes_heldWhen_12, w_Minutes_heldWhen_16, w_Minutes_heldWhen_19, w_Minutes_heldWhen_23, c_65, f_65_0, f_65_1, c_66, f_66_0, f_66_1, p_66_1, f_66_2, p_66_2, f_66_3, p_66_3, f_66_4, p_66_4, f_66_5, f_66_6, Option.some.injEq, exists_eq_left', exists_eq_left, Option.toList_some, Option.toList_none, List.cons_append, List.nil_append, true_and, and_true, Option.map_some, Option.map_none, x_ev_iff z1, hle, z3.1, t_bitOf (d := d) (by omega), bit_i w32]
        by_cases hc : nn ≤ (runF (wT W) f 0 m (aBegin (wT W))).1
        · simp only [hc, if_true]
        · simp only [hc, if_false]
      refine ⟨s', ?_, (z2.M (Or.inl rfl)).ke⟩
      rw [x_ev_in rfl (Nat.le_of_ble_eq_true rfl)]
      rw [show x_ent (x_nL g_M 168) [.ref 1, .int (nI p), .int (nI mt), .int (nI nn)] = [some (.ref 1), some (.int (nI p)), some (.int (nI mt)), some (.int (nI nn)), none] from rfl]
      simp only [w_Top_when_0, w_Top_when_4, w_Top_when_8, w_Top_when_11, w_Top_when_15, w_Top_when_18, w_Top_when_23, w_Top_when_30, w_Top_when_35, w_Top_when_39, w_Top_when_43, w_Top_when_45, w_Top_when_50, c_1, f_1_0, f_1_1, p_1_1, f_1_2, f_1_3, f_1_4, f_1_5, f_1_6, p_1_6, f_1_7, f_1_8, f_1_9, f_1_10, f_1_11, f_1_12, f_1_13, f_1_14, c_3, f_3_0, p_3_0, f_3_1, p_3_1, f_3_2, p_3_2, f_3_3, p_3_3, f_3_4, p_3_4, f_3_5, p_3_5, f_3_6, p_3_6, f_3_7, p_3_7, f_3_8, p_3_8, f_3_9, f_3_10, f_3_11, f_3_12, f_3_13, c_65, f_65_0, f_65_1, e_76, sl_q hp, Option.some.injEq, exists_eq_left', exists_eq_left, Option.toList_some, Option.toList_none, List.cons_append, List.nil_append, true_and, and_true, Option.map_some, Option.map_none, t_hasMatter (d := d + 1) (by omega) hT, h1, show ¬ ((1 : Int32) = 0) by decide, if_false, hn', x_ev_iff q1, show (0 : Int32) ≤ 0 by decide, if_true, x_ev_iff y1]
    · intro d xs s hd hC
      obtain ⟨d, rfl⟩ := x_1 (d := d) (by omega)
      have q1 := r1 d xs s (by omega) hC
      have hr1 := hrr s hC
      have hT := hC.1.1
      have hx : x_rd (s.1 127) 4 (nI p) = some (nI m) := by rw [x_rd_nI hp (by omega), hr1.1]
      obtain ⟨s1, z1, z2, z3⟩ := r_goBy (P := P) (d := d) (xs := xs) (by omega) hK hp hm (nn := m) (by omega) ha hT hr1
      rw [Nat.min_self] at z1
      by_cases hc : nn ≤ (runF (wT W) f 0 m (aBegin (wT W))).1
      · obtain ⟨s2, y1, y2, y3⟩ := r_goBy (P := P) (d := d) (xs := xs) (by omega) hK hp hm (nn := nn) hnn ha (z2.T hT) (hr1.at z2)
        have hok := runF_ok hK f (min nn m) 0 (aBegin (wT W)) (aOk_begin hK)
        have hle : nI nn ≤ nI (runF (wT W) f 0 m (aBegin (wT W))).1 := nI_le hc (by omega)
        refine ⟨s2, ?_, (z2.tr y2).ke⟩
        rw [if_pos hc]
        rw [x_ev_in rfl (Nat.le_of_ble_eq_true rfl)]
        rw [show x_ent (x_nL g_M 318) [.ref 110, .int (nI p), .int (nI mt), .int (nI nn)] = [some (.ref 110), some (.int (nI p)), some (.int (nI mt)), some (.int (nI nn)), none] from rfl]
        simp only [w_Ref_when_0, w_Ref_when_8, w_Ref_when_11, w_Ref_when_15, w_Ref_when_19, w_Ref_when_20, w_Ref_when_23, w_Ref_when_30, w_Ref_when_33, w_Ref_when_40, w_Ref_when_42, w_Ref_when_45, w_Ref_when_48, w_Ref_when_50, w_Ref_when_56, w_Ref_when_61, w_Ref_when_65, c_110, f_110_0, p_110_0, f_110_1, f_110_2, f_110_3, f_110_4, f_110_5, p_110_5, f_110_6, f_110_7, p_110_7, f_110_8, p_110_8, f_110_9, p_110_9, f_110_10, p_110_10, f_110_11, p_110_11, f_110_12, p_110_12, f_110_13, p_110_13, f_110_14, f_110_15, f_110_16, p_110_16, f_110_17, f_110_18, p_110_18, f_110_19, p_110_19, f_110_20, f_110_21, p_110_21, f_110_22, p_110_22, f_110_23, f_110_24, f_110_25, p_110_25, f_110_26, f_110_27, f_110_28, f_110_29, f_110_30, f_110_31, p_110_31, f_110_32, p_110_32, f_110_33, p_110_33, f_110_34, p_110_34, f_110_35, f_110_36, f_110_37, f_110_38, e_127, i_127, Option.some.injEq, exists_eq_left', exists_eq_left, Option.toList_some, Option.toList_none, List.cons_append, List.nil_append, true_and, and_true, Option.map_some, Option.map_none, r_isTown (d := d) (by omega) hT, r_isPerson (d := d) (by omega) hT hW, r_isMatterI (d := d) (by omega) hT hW, r_isSet (d := d) (by omega) hT hW, r_allMatters (d := d) (by omega) hT hW, r_isClosed (d := d) (by omega) hT hW, r_sumOfAll (d := d) (by omega) hT hW, r_restsOf (d := d) (by omega) hT hW, r_in (d := d) (by omega), r_bit (d := d) (by omega), r_bits (d := d) (by omega), h1, show ¬ ((1 : Int32) = 0) by decide, if_false, hn, x_ev_iff q1, show (0 : Int32) ≤ 0 by decide, if_true, hx, x_ev_iff z1, hle, x_ev_iff y1, r_settledNow (d := d) (by omega) y3 hok.1 hW, bit_i w32]
      · have hle : ¬ nI nn ≤ nI (runF (wT W) f 0 m (aBegin (wT W))).1 := nI_ge (by omega) hnn
        refine ⟨s1, ?_, z2.ke⟩
        rw [if_neg hc]
        rw [x_ev_in rfl (Nat.le_of_ble_eq_true rfl)]
        rw [show x_ent (x_nL g_M 318) [.ref 110, .int (nI p), .int (nI mt), .int (nI nn)] = [some (.ref 110), some (.int (nI p)), some (.int (nI mt)), some (.int (nI nn)), none] from rfl]
        simp only [w_Ref_when_0, w_Ref_when_8, w_Ref_when_11, w_Ref_when_15, w_Ref_when_19, w_Ref_when_20, w_Ref_when_23, w_Ref_when_30, w_Ref_when_33, w_Ref_when_40, w_Ref_when_42, w_Ref_when_45, w_Ref_when_48, w_Ref_when_50, w_Ref_when_56, w_Ref_when_61, w_Ref_when_65, c_110, f_110_0, p_110_0, f_110_1, f_110_2, f_110_3, f_110_4, f_110_5, p_110_5, f_110_6, f_110_7, p_110_7, f_110_8, p_110_8, f_110_9, p_110_9, f_110_10, p_110_10, f_110_11, p_110_11, f_110_12, p_110_12, f_110_13, p_110_13, f_110_14, f_110_15, f_110_16, p_110_16, f_110_17, f_110_18, p_110_18, f_110_19, p_110_19, f_110_20, f_110_21, p_110_21, f_110_22, p_110_22, f_110_23, f_110_24, f_110_25, p_110_25, f_110_26, f_110_27, f_110_28, f_110_29, f_110_30, f_110_31, p_110_31, f_110_32, p_110_32, f_110_33, p_110_33, f_110_34, p_110_34, f_110_35, f_110_36, f_110_37, f_110_38, e_127, i_127, Option.some.injEq, exists_eq_left', exists_eq_left, Option.toList_some, Option.toList_none, List.cons_append, List.nil_append, true_and, and_true, Option.map_some, Option.map_none, r_isTown (d := d) (by omega) hT, r_isPerson (d := d) (by omega) hT hW, r_isMatterI (d := d) (by omega) hT hW, r_isSet (d := d) (by omega) hT hW, r_allMatters (d := d) (by omega) hT hW, r_isClosed (d := d) (by omega) hT hW, r_sumOfAll (d := d) (by omega) hT hW, r_restsOf (d := d) (by omega) hT hW, r_in (d := d) (by omega), r_bit (d := d) (by omega), r_bits (d := d) (by omega), h1, show ¬ ((1 : Int32) = 0) by decide, if_false, hn, x_ev_iff q1, show (0 : Int32) ≤ 0 by decide, if_true, hx, x_ev_iff z1, hle]
set_option maxHeartbeats 8000000 in
theorem k_differs (h : wOk W) (x y : Int32) : ask2 P 169 319 [.int x, .int y] W := by
  have hK := h.1
  have hW := hK.1
  have hbad : ∀ v u : Int32, (v = -2 ∨ v = -6 ∨ v = 0) → (u = -2 ∨ u = -6 ∨ u = 0) → (v ≠ 0 ∨ u ≠ 0) → (∀ (d : Nat) (xs : List Int32) (s : xS), 10 ≤ d → cW s W → x_ev g_M P d 170 [.ref 1, .int x] (mkH xs s) (some (.int v), mkH xs s)) → (∀ (d : Nat) (xs : List Int32) (s : xS), 10 ≤ d → rW s W → x_ev g_M P d 314 [.ref 110, .int x, .int 1] (mkH xs s) (some (.int v), mkH xs s)) →
      (∀ (d : Nat) (xs : List Int32) (s : xS), 10 ≤ d → cW s W → x_ev g_M P d 170 [.ref 1, .int y] (mkH xs s) (some (.int u), mkH xs s)) → (∀ (d : Nat) (xs : List Int32) (s : xS), 10 ≤ d → rW s W → x_ev g_M P d 314 [.ref 110, .int y, .int 1] (mkH xs s) (some (.int u), mkH xs s)) → ask2 P 169 319 [.int x, .int y] W := by
    intro v u hv hu hvu c1 r1 c2 r2
    refine ⟨if v = -2 ∨ u = -2 then -2 else -6, cAsk0 ?_, rAsk0 ?_⟩
    · intro d xs s hd hC
      obtain ⟨d, rfl⟩ := x_1 (d := d) (by omega)
      have q1 := c1 d xs s (by omega) hC
      have q2 := c2 d xs s (by omega) hC
      rw [x_ev_in rfl (Nat.le_of_ble_eq_true rfl)]
      rw [show x_ent (x_nL g_M 169) [.ref 1, .int x, .int y] = [some (.ref 1), some (.int x), some (.int y), none, none] from rfl]
      simp only [w_Top_differs_0, w_Top_differs_5, w_Top_differs_11, w_Top_differs_19, w_Top_differs_26, w_Top_differs_29, w_Top_differs_33, w_Top_differs_38, w_Top_differs_45, w_Top_differs_49, w_Top_differs_51, w_Top_differs_55, w_Top_differs_57, w_Top_differs_60, c_1, f_1_0, f_1_1, p_1_1, f_1_2, f_1_3, f_1_4, f_1_5, f_1_6, p_1_6, f_1_7, f_1_8, f_1_9, f_1_10, f_1_11, f_1_12, f_1_13, f_1_14, Option.some.injEq, exists_eq_left', exists_eq_left, Option.toList_some, Option.toList_none, List.cons_append, List.nil_append, true_and, and_true, Option.map_some, Option.map_none, x_ev_iff q1, x_ev_iff q2]
      rcases hv with rfl | rfl | rfl <;> rcases hu with rfl | rfl | rfl <;> first | exact absurd hvu (by decide) | simp
    · intro d xs s hd hC
      obtain ⟨d, rfl⟩ := x_1 (d := d) (by omega)
      have q1 := r1 d xs s (by omega) hC
      have q2 := r2 d xs s (by omega) hC
      rw [x_ev_in rfl (Nat.le_of_ble_eq_true rfl)]
      rw [show x_ent (x_nL g_M 319) [.ref 110, .int x, .int y] = [some (.ref 110), some (.int x), some (.int y), none, none, none, none, none] from rfl]
      simp only [w_Ref_differs_0, w_Ref_differs_6, w_Ref_differs_13, w_Ref_differs_21, w_Ref_differs_28, w_Ref_differs_31, w_Ref_differs_35, w_Ref_differs_40, w_Ref_differs_49, w_Ref_differs_51, w_Ref_differs_54, w_Ref_differs_60, w_Ref_differs_62, w_Ref_differs_65, w_Ref_differs_80, w_Ref_differs_87, w_Ref_differs_92, w_Ref_differs_101, w_Ref_differs_108, w_Ref_differs_111, w_Ref_differs_114, w_Ref_differs_120, c_110, f_110_0, p_110_0, f_110_1, f_110_2, f_110_3, f_110_4, f_110_5, p_110_5, f_110_6, f_110_7, p_110_7, f_110_8, p_110_8, f_110_9, p_110_9, f_110_10, p_110_10, f_110_11, p_110_11, f_110_12, p_110_12, f_110_13, p_110_13, f_110_14, f_110_15, f_110_16, p_110_16, f_110_17, f_110_18, p_110_18, f_110_19, p_110_19, f_110_20, f_110_21, p_110_21, f_110_22, p_110_22, f_110_23, f_110_24, f_110_25, p_110_25, f_110_26, f_110_27, f_110_28, f_110_29, f_110_30, f_110_31, p_110_31, f_110_32, p_110_32, f_110_33, p_110_33, f_110_34, p_110_34, f_110_35, f_110_36, f_110_37, f_110_38, Option.some.injEq, exists_eq_left', exists_eq_left, Option.toList_some, Option.toList_none, List.cons_append, List.nil_append, true_and, and_true, Option.map_some, Option.map_none, x_ev_iff q1, x_ev_iff q2]
      rcases hv with rfl | rfl | rfl <;> rcases hu with rfl | rfl | rfl <;> first | exact absurd hvu (by decide) | simp
  rcases wr_cs (P := P) h x with ⟨v, hv, c1, r1⟩ | ⟨p, m, f, hp, rfl, hm, ha, hrc, hrr, c1, r1⟩
  · rcases wr_cs (P := P) h y with ⟨u, hu, c2, r2⟩ | ⟨t, m', g, ht, rfl, hm', ha', hrc', hrr', c2, r2⟩
    · exact hbad v u (by rcases hv with z | z <;> simp [z]) (by rcases hu with z | z <;> simp [z]) (Or.inl (by rcases hv with rfl | rfl <;> decide)) c1 r1 c2 r2
    · exact hbad v 0 (by rcases hv with z | z <;> simp [z]) (by simp) (Or.inl (by rcases hv with rfl | rfl <;> decide)) c1 r1 c2 r2
  · rcases wr_cs (P := P) h y with ⟨u, hu, c2, r2⟩ | ⟨t, m', g, ht, rfl, hm', ha', hrc', hrr', c2, r2⟩
    · exact hbad 0 u (by simp) (by rcases hu with z | z <;> simp [z]) (Or.inr (by rcases hu with rfl | rfl <;> decide)) c1 r1 c2 r2
    · refine ⟨dfF (wT W) f g 0 (min m m') (aBegin (wT W)) (aBegin (wT W)), cAsk ?_, rAsk ?_⟩
      · intro d xs s hd hC
        obtain ⟨d, rfl⟩ := x_1 (d := d) (by omega)
        have q1 := c1 d xs s (by omega) hC
        have q2 := c2 d xs s (by omega) hC
        obtain ⟨s', z1, z2⟩ := m_dif (P := P) (d := d) (xs := xs) (by omega) hK hp ht hm hm' hC.1.1 (hrc s hC) (hrc' s hC)
        refine ⟨s', ?_, z2.ke⟩
        rw [x_ev_in rfl (Nat.le_of_ble_eq_true rfl)]
        rw [show x_ent (x_nL g_M 169) [.ref 1, .int (nI p), .int (nI t)] = [some (.ref 1), some (.int (nI p)), some (.int (nI t)), none, none] from rfl]
        simp only [w_Top_differs_0, w_Top_differs_5, w_Top_differs_11, w_Top_differs_19, w_Top_differs_26, w_Top_differs_29, w_Top_differs_33, w_Top_differs_38, w_Top_differs_41, w_Top_differs_45, w_Top_differs_49, w_Top_differs_51, w_Top_differs_55, w_Top_differs_57, w_Top_differs_60, c_1, f_1_0, f_1_1, p_1_1, f_1_2, f_1_3, f_1_4, f_1_5, f_1_6, p_1_6, f_1_7, f_1_8, f_1_9, f_1_10, f_1_11, f_1_12, f_1_13, f_1_14, c_65, f_65_0, f_65_1, e_76, sl_q hp, sl_q ht, Option.some.injEq, exists_eq_left', exists_eq_left, Option.toList_some, Option.toList_none, List.cons_append, List.nil_append, true_and, and_true, Option.map_some, Option.map_none, x_ev_iff q1, x_ev_iff q2, show ¬ ((0 : Int32) = -2) by decide, not_false_eq_true, if_true, if_false, show ¬ (0 : Int32) < 0 by decide, show (0 : Int32) ≤ 0 by decide, x_ev_iff z1]
      · intro d xs s hd hC
        obtain ⟨d, rfl⟩ := x_1 (d := d) (by omega)
        have q1 := r1 d xs s (by omega) hC
        have q2 := r2 d xs s (by omega) hC
        have hr1 := hrr s hC
        have hr2 := hrr' s hC
        have hT := hC.1.1
        have bf := (runF_b (wT W) f m 0 (aBegin (wT W))).2
        have bg := (runF_b (wT W) g m' 0 (aBegin (wT W))).2
        obtain ⟨s1, z1, z2, z3⟩ := r_goBy (P := P) (d := d) (xs := xs) (by omega) hK hp hm (nn := m) (by omega) ha hT hr1
        rw [Nat.min_self] at z1
        obtain ⟨s2, y1, y2, y3⟩ := r_goBy (P := P) (d := d) (xs := xs) (by omega) hK ht hm' (nn := m') (by omega) ha' (z2.T hT) (hr2.at z2)
        rw [Nat.min_self] at y1
        have o2 := z2.tr y2
        obtain ⟨s3, x1, x2⟩ := r_difL (P := P) (d := d) (xs := xs) (by omega) hK hp ht hm hm' ha ha' (min m m') 0 s2 (aBegin (wT W)) (aBegin (wT W)) none (by omega) rfl rfl (o2.T hT) (hr1.at o2) (hr2.at o2)
        refine ⟨s3, ?_, (o2.tr x2).ke⟩
        have hx : x_rd (s.1 127) 4 (nI p) = some (nI m) := by rw [x_rd_nI hp (by omega), hr1.1]
        have hx' : x_rd (s1.1 127) 4 (nI t) = some (nI m') := by rw [x_rd_nI ht (by omega), (hr2.at z2).1]
        rw [x_ev_in rfl (Nat.le_of_ble_eq_true rfl)]
        rw [show x_ent (x_nL g_M 319) [.ref 110, .int (nI p), .int (nI t)] = [some (.ref 110), some (.int (nI p)), some (.int (nI t)), none, none, none, none, none] from rfl]
        simp only [w_Ref_differs_0, w_Ref_differs_6, w_Ref_differs_13, w_Ref_differs_21, w_Ref_differs_28, w_Ref_differs_31, w_Ref_differs_35, w_Ref_differs_40, w_Ref_differs_43, w_Ref_differs_49, w_Ref_differs_51, w_Ref_differs_54, w_Ref_differs_60, w_Ref_differs_62, w_Ref_differs_65, w_Ref_differs_80, w_Ref_differs_87, w_Ref_differs_92, w_Ref_differs_101, w_Ref_differs_108, w_Ref_differs_111, w_Ref_differs_114, w_Ref_differs_120, c_110, f_110_0, p_110_0, f_110_1, f_110_2, f_110_3, f_110_4, f_110_5, p_110_5, f_110_6, f_110_7, p_110_7, f_110_8, p_110_8, f_110_9, p_110_9, f_110_10, p_110_10, f_110_11, p_110_11, f_110_12, p_110_12, f_110_13, p_110_13, f_110_14, f_110_15, f_110_16, p_110_16, f_110_17, f_110_18, p_110_18, f_110_19, p_110_19, f_110_20, f_110_21, p_110_21, f_110_22, p_110_22, f_110_23, f_110_24, f_110_25, p_110_25, f_110_26, f_110_27, f_110_28, f_110_29, f_110_30, f_110_31, p_110_31, f_110_32, p_110_32, f_110_33, p_110_33, f_110_34, p_110_34, f_110_35, f_110_36, f_110_37, f_110_38, e_127, i_127, Option.some.injEq, exists_eq_left', exists_eq_left, Option.toList_some, Option.toList_none, List.cons_append, List.nil_append, true_and, and_true, Option.map_some, Option.map_none, x_ev_iff q1, x_ev_iff q2, show ¬ ((0 : Int32) = -2) by decide, not_false_eq_true, if_true, if_false, show ¬ (0 : Int32) < 0 by decide, show (0 : Int32) ≤ 0 by decide, hx, hx', x_ev_iff z1, x_ev_iff y1, nI_min (show (runF (wT W) f 0 m (aBegin (wT W))).1 < 2 ^ 31 by omega) (show (runF (wT W) g 0 m' (aBegin (wT W))).1 < 2 ^ 31 by omega)]
        exact x1
end MIN2
