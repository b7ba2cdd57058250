/-! HOW IT GOES BY ITSELF: both (own work) -/
def offC (s s' : xS) : Prop := (∀ q, q < 20 ∨ 25 ≤ q → s'.1 q = s.1 q) ∧ s'.2 = s.2
theorem offC.rf {s : xS} : offC s s := ⟨fun _ _ => rfl, rfl⟩
theorem offC.tr {s s' s'' : xS} (h : offC s s') (h2 : offC s' s'') : offC s s'' := ⟨fun q a => (h2.1 q a).trans (h.1 q a), h2.2.trans h.2⟩
theorem offC.ke {s s' : xS} (h : offC s s') : keC s s' := fun q hq => ⟨h.1 q (by omega), by rw [h.2]⟩
def offG (s s' : xS) : Prop := (∀ q, q ≠ 110 → q < 117 ∨ 120 ≤ q → s'.1 q = s.1 q) ∧ (∀ k, k < 16 → s'.1 110 k = s.1 110 k) ∧ s'.2 = s.2
theorem offG.tr {s s' s'' : xS} (h : offG s s') (h2 : offG s' s'') : offG s s'' := ⟨fun q a b => (h2.1 q a b).trans (h.1 q a b), fun k a => (h2.2.1 k a).trans (h.2.1 k a), h2.2.2.trans h.2.2⟩
theorem offG.ke {s s' : xS} (h : offG s s') : keR s s' := ⟨fun q a b => h.1 q a (by omega), fun k a => h.2.1 k a, fun q _ _ => by rw [h.2.2]⟩
theorem offR.G {s s' : xS} (h : offR s s') : offG s s' := ⟨fun q a b => h.1 q a (by omega) (by omega), fun k a => h.2.1 k (by omega) (by omega) (by omega), h.2.2⟩
section COURSE2
variable {P : Nat → List Value → Option Value} {d : Nat} {xs : List Int32} {T : Tw}
set_option maxHeartbeats 4000000 in
theorem s_runL (hd : 5 ≤ d) (hK : tOk T) : ∀ (n k c : Nat) (s : xS) (A : As), k + n = 80 → c ≤ k → clsT s 3 T → clsS s 22 T A → aOk T A → s.1 20 3 = nI k → s.1 20 4 = nI c →
    ∃ s', x_R (x_ev g_M P d) 1 (23, [some (.ref 20), some (.ref 9), some (.int (aNext T A))], [], mkH xs s) (none, mkH xs s') ∧ offC s s' ∧ clsS s' 22 T (cG T n A).2 ∧ s'.1 20 3 = nI (k + (cG T n A).1.length) ∧ s'.1 20 4 = nI (c + dr (cG T n A).1) ∧ (∀ i, i < k → s'.1 21 i = s.1 21 i) ∧ ∀ i, i < (cG T n A).1.length → s'.1 21 (k + i) = (cG T n A).1.getD i 0 := by
  have h22 : 22 ∈ g_SP := by decide
  have hW := hK.1
  intro n
  induction n with
  | zero =>
    intro k c s A hk hc hT hA hO e3 e4
    refine ⟨s, ?_, offC.rf, hA, by rw [e3]; rfl, by rw [e4]; rfl, fun _ _ => rfl, fun i hi => absurd hi (by simp [cG])⟩
    have h80 : (80 : Int32) ≤ nI k := nI_le (a := 80) (by omega) (by omega)
    by_cases hl : aNext T A < 0
    · simp only [w_Course_run_0, w_Course_run_4, w_Course_run_8, w_Course_run_13, w_Course_run_18, w_Course_run_22, w_Course_run_27, w_Course_run_31, w_Course_run_36, w_Course_run_40, w_Course_run_44, w_Course_run_49, w_Course_run_53, w_Course_run_55, w_Course_run_60, w_Course_run_65, w_Course_run_71, w_Course_run_76, w_Course_run_81, w_Course_run_85, w_Course_run_89, w_Course_run_23 (l2 := aNext T A), hl, if_true]
    · simp only [w_Course_run_0, w_Course_run_4, w_Course_run_8, w_Course_run_13, w_Course_run_18, w_Course_run_22, w_Course_run_27, w_Course_run_31, w_Course_run_36, w_Course_run_40, w_Course_run_44, w_Course_run_49, w_Course_run_53, w_Course_run_55, w_Course_run_60, w_Course_run_65, w_Course_run_71, w_Course_run_76, w_Course_run_81, w_Course_run_85, w_Course_run_89, w_Course_run_23 (l2 := aNext T A), hl, if_false, c_20, f_20_0, f_20_1, f_20_2, f_20_3, p_20_3, f_20_4, p_20_4, Option.some.injEq, exists_eq_left', exists_eq_left, Option.toList_some, Option.toList_none, List.cons_append, List.nil_append, true_and, and_true, Option.map_some, Option.map_none, e3, h80, if_true]
  | succ n ih =>
    intro k c s A hk hc hT hA hO e3 e4
    rcases aNext_cs (A := A) hW with ⟨ha, h0⟩ | ⟨hp, -, B, hB, -⟩
    · have e : cG T (n + 1) A = ([], A) := by rw [cG, h0]
      rw [e]
      refine ⟨s, ?_, offC.rf, hA, by rw [e3]; rfl, by rw [e4]; rfl, fun _ _ => rfl, fun i hi => absurd hi (by simp)⟩
      rw [ha]
      simp only [w_Course_run_0, w_Course_run_4, w_Course_run_8, w_Course_run_13, w_Course_run_18, w_Course_run_22, w_Course_run_27, w_Course_run_31, w_Course_run_36, w_Course_run_40, w_Course_run_44, w_Course_run_49, w_Course_run_53, w_Course_run_55, w_Course_run_60, w_Course_run_65, w_Course_run_71, w_Course_run_76, w_Course_run_81, w_Course_run_85, w_Course_run_89, w_Course_run_23 (l2 := -1), show (-1 : Int32) < 0 by decide, if_true]
    · have e : cG T (n + 1) A = (aNext T A :: (cG T n B).1, (cG T n B).2) := by rw [cG, hB]
      rw [e]
      obtain ⟨s1, q1, q2, q3⟩ := s_take (P := P) (d := d) (xs := xs) (by omega) h22 hT hW hA hO.1 (aNext T A)
      rw [hB] at q1 q3
      have o20 : s1.1 20 = s.1 20 := q2.1 20 (by omega) (by omega) (by omega)
      have o21 : s1.1 21 = s.1 21 := q2.1 21 (by omega) (by omega) (by omega)
      have f3 : s1.1 20 3 = nI k := by rw [o20]; exact e3
      have f4 : s1.1 20 4 = nI c := by rw [o20]; exact e4
      have c80 : ¬ (80 : Int32) ≤ nI k := nI_ge (b := 80) (by omega) (by omega)
      have hx : x_rd (s1.1 21) 80 (nI k) = some (s1.1 21 k) := x_rd_nI (by omega) (by omega)
      let b : Nat := if aNext T A < 10 then 0 else 1
      let s2 : xS := s_p (s_p s1 21 k (aNext T A)) 20 3 (nI (k + 1))
      let s3 : xS := if aNext T A < 10 then s2 else s_p s2 20 4 (nI (c + 1))
      have k3 : ∀ q, q ≠ 20 → q ≠ 21 → s3.1 q = s1.1 q := by
        intro q g1 g2
        show (if aNext T A < 10 then s2 else s_p s2 20 4 (nI (c + 1))).1 q = _
        funext j
        split <;> simp [s2, s_p, g1, g2]
      have k33 : s3.1 20 3 = nI (k + 1) := by
        show (if aNext T A < 10 then s2 else s_p s2 20 4 (nI (c + 1))).1 20 3 = _
        split <;> simp [s2, s_p]
      have k34 : s3.1 20 4 = nI (c + b) := by
        show (if aNext T A < 10 then s2 else s_p s2 20 4 (nI (c + 1))).1 20 4 = nI (c + if aNext T A < 10 then 0 else 1)
        split <;> simp [s2, s_p, f4]
      have k35 : ∀ i, s3.1 21 i = if i = k then aNext T A else s.1 21 i := by
        intro i
        rw [← o21]
        show (if aNext T A < 10 then s2 else s_p s2 20 4 (nI (c + 1))).1 21 i = _
        split <;> simp [s2, s_p]
      have k36 : s3.2 = s.2 := by
        rw [← q2.2]
        show (if aNext T A < 10 then s2 else s_p s2 20 4 (nI (c + 1))).2 = _
        split <;> rfl
      have hT3 : clsT s3 3 T := clsT_off (fun q a b => (k3 q (by omega) (by omega)).trans (q2.1 q (by omega) (by omega) (by omega))) hT
      have hA3 : clsS s3 22 T B := clsS_at (fun q a b => k3 q (by omega) (by omega)) q3
      have hO3 := aOk_take hK hO hB
      have hb : b ≤ 1 := by show (if aNext T A < 10 then 0 else 1) ≤ 1; split <;> omega
      obtain ⟨s', z1, z2, z3, z4, z5, z6, z7⟩ := ih (k + 1) (c + b) s3 B (by omega) (by omega) hT3 hA3 hO3 k33 k34
      have ho3 : offC s s3 := ⟨fun q g => (k3 q (by omega) (by omega)).trans (q2.1 q (by omega) (by omega) (by omega)), k36⟩
      refine ⟨s', ?_, ho3.tr z2, z3, ?_, ?_, fun i hi => ?_, fun i hi => ?_⟩
      · have g3 : (s_p s1 21 k (aNext T A)).1 20 3 = nI k := by simp [s_p, f3]
        have g4 : (s_p (s_p s1 21 k (aNext T A)) 20 3 (nI (k + 1))).1 20 4 = nI c := by simp [s_p, f4]
        simp only [w_Course_run_0, w_Course_run_4, w_Course_run_8, w_Course_run_13, w_Course_run_18, w_Course_run_22, w_Course_run_27, w_Course_run_31, w_Course_run_36, w_Course_run_40, w_Course_run_44, w_Course_run_49, w_Course_run_53, w_Course_run_55, w_Course_run_60, w_Course_run_65, w_Course_run_71, w_Course_run_76, w_Course_run_81, w_Course_run_85, w_Course_run_89, w_Course_run_23 (l2 := aNext T A), hp, if_false, c_20, f_20_0, f_20_1, f_20_2, f_20_3, p_20_3, f_20_4, p_20_4, e_21, i_21, c_22, f_22_0, f_22_1, p_22_1, f_22_2, p_22_2, f_22_3, p_22_3, f_22_4, p_22_4, f_22_5, f_22_6, Option.some.injEq, exists_eq_left', exists_eq_left, Option.toList_some, Option.toList_none, List.cons_append, List.nil_append, true_and, and_true, Option.map_some, Option.map_none, e3, c80, x_ev_iff q1, f3, hx, nI_clamp (show k < 2 ^ 31 by omega), g3, nI_1, g4]
        show if aNext T A < 10 then _ else _
        by_cases hl : aNext T A < 10
        · have es : s3 = s2 := by show (if aNext T A < 10 then s2 else _) = s2; rw [if_pos hl]
          rw [if_pos hl]
          rw [es] at hT3 hA3 z1
          refine ⟨_, (s_nextAct (P := P) (d := d) (xs := xs) (by omega) hT3 hW hA3 hO3.1).mpr rfl, ?_⟩
          simp only [w_Course_run_0, w_Course_run_4, w_Course_run_8, w_Course_run_13, w_Course_run_18, w_Course_run_22, w_Course_run_27, w_Course_run_31, w_Course_run_36, w_Course_run_40, w_Course_run_44, w_Course_run_49, w_Course_run_53, w_Course_run_55, w_Course_run_60, w_Course_run_65, w_Course_run_71, w_Course_run_76, w_Course_run_81, w_Course_run_85, w_Course_run_89, Option.some.injEq, exists_eq_left', exists_eq_left, Option.toList_some, Option.toList_none, List.cons_append, List.nil_append, true_and, and_true, Option.map_some, Option.map_none]
          exact z1
        · have es : s3 = s_p s2 20 4 (nI (c + 1)) := by show (if aNext T A < 10 then s2 else _) = _; rw [if_neg hl]
          rw [if_neg hl]
          rw [es] at hT3 hA3 z1
          refine ⟨_, (s_nextAct (P := P) (d := d) (xs := xs) (by omega) hT3 hW hA3 hO3.1).mpr rfl, ?_⟩
          simp only [w_Course_run_0, w_Course_run_4, w_Course_run_8, w_Course_run_13, w_Course_run_18, w_Course_run_22, w_Course_run_27, w_Course_run_31, w_Course_run_36, w_Course_run_40, w_Course_run_44, w_Course_run_49, w_Course_run_53, w_Course_run_55, w_Course_run_60, w_Course_run_65, w_Course_run_71, w_Course_run_76, w_Course_run_81, w_Course_run_85, w_Course_run_89, Option.some.injEq, exists_eq_left', exists_eq_left, Option.toList_some, Option.toList_none, List.cons_append, List.nil_append, true_and, and_true, Option.map_some, Option.map_none]
          exact z1
      · rw [z4, List.length_cons]
        congr 1
        omega
      · rw [z5, dr]
        show nI (c + (if aNext T A < 10 then 0 else 1) + _) = nI (c + ((if aNext T A < 10 then 0 else 1) + _))
        rw [Nat.add_assoc]
      · rw [z6 i (by omega), k35, if_neg (by omega)]
      · cases i with
        | zero => rw [Nat.add_zero, z6 k (by omega), k35, if_pos rfl]; rfl
        | succ i =>
          rw [show k + (i + 1) = k + 1 + i by omega, z7 i (by rw [List.length_cons] at hi; omega)]
          rfl
theorem s_run (hd : 6 ≤ d) (hK : tOk T) {s : xS} {A : As} (hT : clsT s 3 T) (hA : clsS s 9 T A) (hO : aOk T A) :
    ∃ s', x_ev g_M P d 1 [.ref 20, .ref 9] (mkH xs s) (none, mkH xs s') ∧ keC s s' ∧ clsS s' 22 T (cG T 80 A).2 ∧ s'.1 20 3 = nI (cG T 80 A).1.length ∧ s'.1 20 4 = nI (dr (cG T 80 A).1) ∧ ∀ i, i < (cG T 80 A).1.length → s'.1 21 i = (cG T 80 A).1.getD i 0 := by
  have h22 : 22 ∈ g_SP := by decide
  have h9 : 9 ∈ g_SP := by decide
  obtain ⟨d, rfl⟩ := x_1 (d := d) (by omega)
  obtain ⟨s1, q1, q2, q3⟩ := s_copyFrom (P := P) (d := d) (xs := xs) (by omega) h22 h9 (by decide) hK.1 hA hO.1
  have k3 : ∀ q, q ≠ 20 → (s_p (s_p s1 20 3 0) 20 4 0).1 q = s1.1 q := fun q g => by funext j; simp [s_p, g]
  have hT2 : clsT (s_p (s_p s1 20 3 0) 20 4 0) 3 T := clsT_off (fun q a b => (k3 q (by omega)).trans (q2.1 q (by omega) (by omega) (by omega))) hT
  have hA2 : clsS (s_p (s_p s1 20 3 0) 20 4 0) 22 T A := clsS_at (fun q a b => k3 q (by omega)) q3
  obtain ⟨s', z1, z2, z3, z4, z5, -, z7⟩ := s_runL (P := P) (d := d) (xs := xs) (by omega) hK 80 0 0 (s_p (s_p s1 20 3 0) 20 4 0) A (by omega) (by omega) hT2 hA2 hO (by simp [s_p]; rfl) (by simp [s_p]; rfl)
  have ho : offC s (s_p (s_p s1 20 3 0) 20 4 0) := ⟨fun q g => (k3 q (by omega)).trans (q2.1 q (by omega) (by omega) (by omega)), q2.2⟩
  refine ⟨s', ?_, (ho.tr z2).ke, z3, by rw [z4, Nat.zero_add], by rw [z5, Nat.zero_add], fun i hi => by rw [← z7 i hi, Nat.zero_add]⟩
  rw [x_ev_in rfl (Nat.le_of_ble_eq_true rfl)]
  rw [show x_ent (x_nL g_M 1) [.ref 20, .ref 9] = [some (.ref 20), some (.ref 9), none] from rfl]
  simp only [w_Course_run_0, w_Course_run_4, w_Course_run_8, w_Course_run_13, w_Course_run_18, w_Course_run_22, w_Course_run_27, w_Course_run_31, w_Course_run_36, w_Course_run_40, w_Course_run_44, w_Course_run_49, w_Course_run_53, w_Course_run_55, w_Course_run_60, w_Course_run_65, w_Course_run_71, w_Course_run_76, w_Course_run_81, w_Course_run_85, w_Course_run_89, c_20, f_20_0, f_20_1, f_20_2, f_20_3, p_20_3, f_20_4, p_20_4, c_22, f_22_0, f_22_1, p_22_1, f_22_2, p_22_2, f_22_3, p_22_3, f_22_4, p_22_4, f_22_5, f_22_6, Option.some.injEq, exists_eq_left', exists_eq_left, Option.toList_some, Option.toList_none, List.cons_append, List.nil_append, true_and, and_true, Option.map_some, Option.map_none, x_ev_iff q1, s_nextAct (P := P) (d := d) (xs := xs) (by omega) hT2 hK.1 hA2 hO.1]
  exact z1
set_option maxHeartbeats 4000000 in
theorem r_goL (hd : 9 ≤ d) (hK : tOk T) : ∀ (n k c : Nat) (s : xS) (A : As), k + n = 1000 → c ≤ k → refT s 111 0 T → refS s T A → aOk T A → s.1 110 21 = nI k → s.1 110 22 = nI c →
    ∃ s', x_R (x_ev g_M P d) 261 (19, [some (.ref 110), some (.int (aNext T A))], [], mkH xs s) (none, mkH xs s') ∧ offG s s' ∧ refS s' T (cG T n A).2 ∧ s'.1 110 21 = nI (k + (cG T n A).1.length) ∧ s'.1 110 22 = nI (c + dr (cG T n A).1) ∧ (∀ i, i < k → s'.1 119 i = s.1 119 i) ∧ ∀ i, i < (cG T n A).1.length → s'.1 119 (k + i) = (cG T n A).1.getD i 0 := by
  have hW := hK.1
  have rf : ∀ s : xS, offG s s := fun s => ⟨fun _ _ _ => rfl, fun _ _ => rfl, rfl⟩
  intro n
  induction n with
  | zero =>
    intro k c s A hk hc hT hA hO e3 e4
    refine ⟨s, ?_, rf s, hA, by rw [e3]; rfl, by rw [e4]; rfl, fun _ _ => rfl, fun i hi => absurd hi (by simp [cG])⟩
    have h80 : (1000 : Int32) ≤ nI k := nI_le (a := 1000) (by omega) (by omega)
    by_cases hl : aNext T A = -1
    · rw [hl]
      simp only [w_Ref_goCourse_0, w_Ref_goCourse_4, w_Ref_goCourse_9, w_Ref_goCourse_14, w_Ref_goCourse_18, w_Ref_goCourse_24, w_Ref_goCourse_28, w_Ref_goCourse_34, w_Ref_goCourse_39, w_Ref_goCourse_43, w_Ref_goCourse_47, w_Ref_goCourse_49, w_Ref_goCourse_54, w_Ref_goCourse_59, w_Ref_goCourse_64, w_Ref_goCourse_70, w_Ref_goCourse_74, w_Ref_goCourse_75, w_Ref_goCourse_79, w_Ref_goCourse_83, w_Ref_goCourse_87, w_Ref_goCourse_19 (l1 := -1), if_true]
    · simp only [w_Ref_goCourse_0, w_Ref_goCourse_4, w_Ref_goCourse_9, w_Ref_goCourse_14, w_Ref_goCourse_18, w_Ref_goCourse_24, w_Ref_goCourse_28, w_Ref_goCourse_34, w_Ref_goCourse_39, w_Ref_goCourse_43, w_Ref_goCourse_47, w_Ref_goCourse_49, w_Ref_goCourse_54, w_Ref_goCourse_59, w_Ref_goCourse_64, w_Ref_goCourse_70, w_Ref_goCourse_74, w_Ref_goCourse_75, w_Ref_goCourse_79, w_Ref_goCourse_83, w_Ref_goCourse_87, w_Ref_goCourse_19 (l1 := aNext T A), hl, if_false, c_110, f_110_0, p_110_0, f_110_1, f_110_2, f_110_3, f_110_4, f_110_5, p_110_5, f_110_6, f_110_7, p_110_7, f_110_8, p_110_8, f_110_9, p_110_9, f_110_10, p_110_10, f_110_11, p_110_11, f_110_12, p_110_12, f_110_13, p_110_13, f_110_14, f_110_15, f_110_16, p_110_16, f_110_17, f_110_18, p_110_18, f_110_19, p_110_19, f_110_20, f_110_21, p_110_21, f_110_22, p_110_22, f_110_23, f_110_24, f_110_25, p_110_25, f_110_26, f_110_27, f_110_28, f_110_29, f_110_30, f_110_31, p_110_31, f_110_32, p_110_32, f_110_33, p_110_33, f_110_34, p_110_34, f_110_35, f_110_36, f_110_37, f_110_38, Option.some.injEq, exists_eq_left', exists_eq_left, Option.toList_some, Option.toList_none, List.cons_append, List.nil_append, true_and, and_true, Option.map_some, Option.map_none, e3, h80, if_true]
  | succ n ih =>
    intro k c s A hk hc hT hA hO e3 e4
    rcases aNext_cs (A := A) hW with ⟨ha, h0⟩ | ⟨-, hp, B, hB, -⟩
    · have e : cG T (n + 1) A = ([], A) := by rw [cG, h0]
      rw [e]
      refine ⟨s, ?_, rf s, hA, by rw [e3]; rfl, by rw [e4]; rfl, fun _ _ => rfl, fun i hi => absurd hi (by simp)⟩
      rw [ha]
      simp only [w_Ref_goCourse_0, w_Ref_goCourse_4, w_Ref_goCourse_9, w_Ref_goCourse_14, w_Ref_goCourse_18, w_Ref_goCourse_24, w_Ref_goCourse_28, w_Ref_goCourse_34, w_Ref_goCourse_39, w_Ref_goCourse_43, w_Ref_goCourse_47, w_Ref_goCourse_49, w_Ref_goCourse_54, w_Ref_goCourse_59, w_Ref_goCourse_64, w_Ref_goCourse_70, w_Ref_goCourse_74, w_Ref_goCourse_75, w_Ref_goCourse_79, w_Ref_goCourse_83, w_Ref_goCourse_87, w_Ref_goCourse_19 (l1 := -1), if_true]
    · have e : cG T (n + 1) A = (aNext T A :: (cG T n B).1, (cG T n B).2) := by rw [cG, hB]
      rw [e]
      obtain ⟨s1, q1, q2, q3⟩ := r_act0 (P := P) (d := d) (xs := xs) (by omega) hT hW hA hO.1 hB
      have o119 : s1.1 119 = s.1 119 := q2.1 119 (by omega) (by omega) (by omega)
      have f3 : s1.1 110 21 = nI k := by rw [q2.2.1 21 (by omega) (by omega) (by omega)]; exact e3
      have f4 : s1.1 110 22 = nI c := by rw [q2.2.1 22 (by omega) (by omega) (by omega)]; exact e4
      have c80 : ¬ (1000 : Int32) ≤ nI k := nI_ge (b := 1000) (by omega) (by omega)
      have hx : x_rd (s1.1 119) 1000 (nI k) = some (s1.1 119 k) := x_rd_nI (by omega) (by omega)
      let b : Nat := if aNext T A < 10 then 0 else 1
      let s3 : xS := s_p (s_p (s_p s1 119 k (aNext T A)) 110 21 (nI (k + 1))) 110 22 (nI (c + b))
      have k3 : ∀ q, q ≠ 110 → q ≠ 119 → s3.1 q = s1.1 q := by
        intro q g1 g2
        funext j
        simp [s3, s_p, g1, g2]
      have k4 : ∀ j, j ≠ 21 → j ≠ 22 → s3.1 110 j = s1.1 110 j := by
        intro j g1 g2
        simp [s3, s_p, g1, g2]
      have k33 : s3.1 110 21 = nI (k + 1) := by simp [s3, s_p]
      have k34 : s3.1 110 22 = nI (c + b) := by simp [s3, s_p]
      have k35 : ∀ i, s3.1 119 i = if i = k then aNext T A else s.1 119 i := by
        intro i
        rw [← o119]
        simp [s3, s_p]
      have hT3 : refT s3 111 0 T := refT_off ((k3 111 (by omega) (by omega)).trans (q2.1 111 (by omega) (by omega) (by omega))) hT
      have hA3 : refS s3 T B := by
        obtain ⟨a1, a2, a3, a4, a5⟩ := q3
        unfold refS
        rw [k4 16 (by omega) (by omega), k4 18 (by omega) (by omega), k4 19 (by omega) (by omega), k3 117 (by omega) (by omega), k3 118 (by omega) (by omega)]
        exact ⟨a1, a2, a3, a4, a5⟩
      have hO3 := aOk_take hK hO hB
      have hb : b ≤ 1 := by show (if aNext T A < 10 then 0 else 1) ≤ 1; split <;> omega
      obtain ⟨s', z1, z2, z3, z4, z5, z6, z7⟩ := ih (k + 1) (c + b) s3 B (by omega) (by omega) hT3 hA3 hO3 k33 k34
      have ho3 : offG s s3 := ⟨fun q g1 g2 => (k3 q g1 (by omega)).trans (q2.1 q g1 (by omega) (by omega)), fun j hj => (k4 j (by omega) (by omega)).trans (q2.2.1 j (by omega) (by omega) (by omega)), q2.2.2⟩
      refine ⟨s', ?_, ho3.tr z2, z3, ?_, ?_, fun i hi => ?_, fun i hi => ?_⟩
      · have g3 : (s_p s1 119 k (aNext T A)).1 110 21 = nI k := by simp [s_p, f3]
        have g4 : (s_p (s_p s1 119 k (aNext T A)) 110 21 (nI (k + 1))).1 110 22 = nI c := by simp [s_p, f4]
        simp only [w_Ref_goCourse_0, w_Ref_goCourse_4, w_Ref_goCourse_9, w_Ref_goCourse_14, w_Ref_goCourse_18, w_Ref_goCourse_24, w_Ref_goCourse_28, w_Ref_goCourse_34, w_Ref_goCourse_39, w_Ref_goCourse_43, w_Ref_goCourse_47, w_Ref_goCourse_49, w_Ref_goCourse_54, w_Ref_goCourse_59, w_Ref_goCourse_64, w_Ref_goCourse_70, w_Ref_goCourse_74, w_Ref_goCourse_75, w_Ref_goCourse_79, w_Ref_goCourse_83, w_Ref_goCourse_87, w_Ref_goCourse_19 (l1 := aNext T A), hp, if_false, c_110, f_110_0, p_110_0, f_110_1, f_110_2, f_110_3, f_110_4, f_110_5, p_110_5, f_110_6, f_110_7, p_110_7, f_110_8, p_110_8, f_110_9, p_110_9, f_110_10, p_110_10, f_110_11, p_110_11, f_110_12, p_110_12, f_110_13, p_110_13, f_110_14, f_110_15, f_110_16, p_110_16, f_110_17, f_110_18, p_110_18, f_110_19, p_110_19, f_110_20, f_110_21, p_110_21, f_110_22, p_110_22, f_110_23, f_110_24, f_110_25, p_110_25, f_110_26, f_110_27, f_110_28, f_110_29, f_110_30, f_110_31, p_110_31, f_110_32, p_110_32, f_110_33, p_110_33, f_110_34, p_110_34, f_110_35, f_110_36, f_110_37, f_110_38, e_119, i_119, Option.some.injEq, exists_eq_left', exists_eq_left, Option.toList_some, Option.toList_none, List.cons_append, List.nil_append, true_and, and_true, Option.map_some, Option.map_none, e3, c80, x_ev_iff q1, f3, hx, nI_clamp (show k < 2 ^ 31 by omega), g3, nI_1, g4]
        show if aNext T A < 10 then _ else _
        by_cases hl : aNext T A < 10
        · have es : s3 = s_p (s_p (s_p s1 119 k (aNext T A)) 110 21 (nI (k + 1))) 110 22 (nI c + 0) := by
            show s_p (s_p (s_p s1 119 k (aNext T A)) 110 21 (nI (k + 1))) 110 22 (nI (c + if aNext T A < 10 then 0 else 1)) = _
            rw [if_pos hl, Int32.add_zero]
            rfl
          rw [if_pos hl]
          rw [es] at hT3 hA3 z1
          refine ⟨_, (r_nextStep (P := P) (d := d) (xs := xs) (by omega) hT3 hW hA3 hO3).mpr rfl, ?_⟩
          simp only [w_Ref_goCourse_0, w_Ref_goCourse_4, w_Ref_goCourse_9, w_Ref_goCourse_14, w_Ref_goCourse_18, w_Ref_goCourse_24, w_Ref_goCourse_28, w_Ref_goCourse_34, w_Ref_goCourse_39, w_Ref_goCourse_43, w_Ref_goCourse_47, w_Ref_goCourse_49, w_Ref_goCourse_54, w_Ref_goCourse_59, w_Ref_goCourse_64, w_Ref_goCourse_70, w_Ref_goCourse_74, w_Ref_goCourse_75, w_Ref_goCourse_79, w_Ref_goCourse_83, w_Ref_goCourse_87, Option.some.injEq, exists_eq_left', exists_eq_left, Option.toList_some, Option.toList_none, List.cons_append, List.nil_append, true_and, and_true, Option.map_some, Option.map_none]
          exact z1
        · have es : s3 = s_p (s_p (s_p s1 119 k (aNext T A)) 110 21 (nI (k + 1))) 110 22 (nI (c + 1)) := by
            show s_p (s_p (s_p s1 119 k (aNext T A)) 110 21 (nI (k + 1))) 110 22 (nI (c + if aNext T A < 10 then 0 else 1)) = _
            rw [if_neg hl]
          rw [if_neg hl]
          rw [es] at hT3 hA3 z1
          refine ⟨_, (r_nextStep (P := P) (d := d) (xs := xs) (by omega) hT3 hW hA3 hO3).mpr rfl, ?_⟩
          simp only [w_Ref_goCourse_0, w_Ref_goCourse_4, w_Ref_goCourse_9, w_Ref_goCourse_14, w_Ref_goCourse_18, w_Ref_goCourse_24, w_Ref_goCourse_28, w_Ref_goCourse_34, w_Ref_goCourse_39, w_Ref_goCourse_43, w_Ref_goCourse_47, w_Ref_goCourse_49, w_Ref_goCourse_54, w_Ref_goCourse_59, w_Ref_goCourse_64, w_Ref_goCourse_70, w_Ref_goCourse_74, w_Ref_goCourse_75, w_Ref_goCourse_79, w_Ref_goCourse_83, w_Ref_goCourse_87, Option.some.injEq, exists_eq_left', exists_eq_left, Option.toList_some, Option.toList_none, List.cons_append, List.nil_append, true_and, and_true, Option.map_some, Option.map_none]
          exact z1
      · rw [z4, List.length_cons]
        congr 1
        omega
      · rw [z5, dr]
        show nI (c + (if aNext T A < 10 then 0 else 1) + _) = nI (c + ((if aNext T A < 10 then 0 else 1) + _))
        rw [Nat.add_assoc]
      · rw [z6 i (by omega), k35, if_neg (by omega)]
      · cases i with
        | zero => rw [Nat.add_zero, z6 k (by omega), k35, if_pos rfl]; rfl
        | succ i =>
          rw [show k + (i + 1) = k + 1 + i by omega, z7 i (by rw [List.length_cons] at hi; omega)]
          rfl
theorem r_goCourse (hd : 10 ≤ d) (hK : tOk T) {s : xS} {A : As} {acts : List Int32} (hR : refW s T acts) (hr : aRun T (aBegin T) acts = some A) :
    ∃ s', x_ev g_M P d 261 [.ref 110] (mkH xs s) (none, mkH xs s') ∧ keR s s' ∧ refT s' 111 0 T ∧ refS s' T (cG T 80 A).2 ∧ s'.1 110 21 = nI (cG T 80 A).1.length ∧ s'.1 110 22 = nI (dr (cG T 80 A).1) ∧ ∀ i, i < (cG T 80 A).1.length → s'.1 119 i = (cG T 80 A).1.getD i 0 := by
  obtain ⟨d, rfl⟩ := x_1 (d := d) (by omega)
  have hO := aOk_run hK _ _ _ (aOk_begin hK) hr
  obtain ⟨s1, e1, o1, hA1⟩ := r_asItIs (P := P) (d := d) (xs := xs) (by omega) hR hK hr
  have k3 : ∀ q, q ≠ 110 → (s_p (s_p s1 110 21 0) 110 22 0).1 q = s1.1 q := fun q g => by funext j; simp [s_p, g]
  have k4 : ∀ j, j ≠ 21 → j ≠ 22 → (s_p (s_p s1 110 21 0) 110 22 0).1 110 j = s1.1 110 j := fun j g1 g2 => by simp [s_p, g1, g2]
  have hT2 : refT (s_p (s_p s1 110 21 0) 110 22 0) 111 0 T := refT_off (k3 111 (by omega)) (o1.T hR.1)
  have hA2 : refS (s_p (s_p s1 110 21 0) 110 22 0) T A := by
    obtain ⟨a1, a2, a3, a4, a5⟩ := hA1
    unfold refS
    rw [k4 16 (by omega) (by omega), k4 18 (by omega) (by omega), k4 19 (by omega) (by omega), k3 117 (by omega), k3 118 (by omega)]
    exact ⟨a1, a2, a3, a4, a5⟩
  obtain ⟨s', z1, z2, z3, z4, z5, -, z7⟩ := r_goL (P := P) (d := d) (xs := xs) (by omega) hK 1000 0 0 (s_p (s_p s1 110 21 0) 110 22 0) A (by omega) (by omega) hT2 hA2 hO (by simp [s_p]; rfl) (by simp [s_p]; rfl)
  rw [cG_80 hK hO] at z3 z4 z5 z7
  have ho : offG s1 (s_p (s_p s1 110 21 0) 110 22 0) := ⟨fun q g _ => k3 q g, fun k hk => k4 k (by omega) (by omega), rfl⟩
  refine ⟨s', ?_, ((o1.G.tr ho).tr z2).ke, refT_off (z2.1 111 (by omega) (by omega)) hT2, z3, by rw [z4, Nat.zero_add], by rw [z5, Nat.zero_add], fun i hi => by rw [← z7 i hi, Nat.zero_add]⟩
  rw [x_ev_in rfl (Nat.le_of_ble_eq_true rfl)]
  rw [show x_ent (x_nL g_M 261) [.ref 110] = [some (.ref 110), none] from rfl]
  simp only [w_Ref_goCourse_0, w_Ref_goCourse_4, w_Ref_goCourse_9, w_Ref_goCourse_14, w_Ref_goCourse_18, w_Ref_goCourse_24, w_Ref_goCourse_28, w_Ref_goCourse_34, w_Ref_goCourse_39, w_Ref_goCourse_43, w_Ref_goCourse_47, w_Ref_goCourse_49, w_Ref_goCourse_54, w_Ref_goCourse_59, w_Ref_goCourse_64, w_Ref_goCourse_70, w_Ref_goCourse_74, w_Ref_goCourse_75, w_Ref_goCourse_79, w_Ref_goCourse_83, w_Ref_goCourse_87, c_110, f_110_0, p_110_0, f_110_1, f_110_2, f_110_3, f_110_4, f_110_5, p_110_5, f_110_6, f_110_7, p_110_7, f_110_8, p_110_8, f_110_9, p_110_9, f_110_10, p_110_10, f_110_11, p_110_11, f_110_12, p_110_12, f_110_13, p_110_13, f_110_14, f_110_15, f_110_16, p_110_16, f_110_17, f_110_18, p_110_18, f_110_19, p_110_19, f_110_20, f_110_21, p_110_21, f_110_22, p_110_22, f_110_23, f_110_24, f_110_25, p_110_25, f_110_26, f_110_27, f_110_28, f_110_29, f_110_30, f_110_31, p_110_31, f_110_32, p_110_32, f_110_33, p_110_33, f_110_34, p_110_34, f_110_35, f_110_36, f_110_37, f_110_38, Option.some.injEq, exists_eq_left', exists_eq_left, Option.toList_some, Option.toList_none, List.cons_append, List.nil_append, true_and, and_true, Option.map_some, Option.map_none, x_ev_iff e1, r_nextStep (P := P) (d := d) (xs := xs) (by omega) hT2 hK.1 hA2 hO]
  exact z1
end COURSE2

