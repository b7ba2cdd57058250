/-! THE REFERENCE: ACTS again, and the state as it is (own work) -/
/-- a TOWN with all its bounds -/
def tOk (T : Tw) : Prop := tWf T ∧ (0 ≤ tLe T ∧ tLe T ≤ 99) ∧ (0 ≤ tSp T ∧ tSp T ≤ 9) ∧ (0 ≤ tFr T ∧ tFr T ≤ 100) ∧ (∀ p, p < tP T → 0 ≤ tCu T p ∧ tCu T p ≤ 9) ∧ (∀ m, m < tM T → ∀ k, k < 2 → -99 ≤ tGa T m k ∧ tGa T m k ≤ 99) ∧ (0 < tP T → 0 < tLi T) ∧ (0 ≤ tLi T ∧ tLi T ≤ 900)
theorem aOk_begin {T : Tw} (h : tOk T) : aOk T (aBegin T) := ⟨aWf_begin, h.2.1, h.2.2.2.2.1⟩
theorem i_dec {x : Int32} {n : Int} (h0 : ¬ x < 1) (h : x.toInt ≤ n) : 0 ≤ (x - 1) ∧ (x - 1).toInt ≤ n := by
  rw [Int32.lt_iff_toInt_lt] at h0
  have e1 : (1 : Int32).toInt = 1 := rfl
  have h1 : x.toInt < 2 ^ 31 := Int32.toInt_lt x
  have e : (x - 1).toInt = x.toInt - 1 := by
    rw [Int32.toInt_sub, e1]
    apply Int.bmod_eq_of_le <;> omega
  rw [Int32.le_iff_toInt_le, e]
  simp
  omega
theorem aOk_day {T : Tw} {A : As} (hT : tOk T) (h : aOk T A) : aOk T (aDay T A) := by
  obtain ⟨h1, ⟨h2, h3⟩, h4⟩ := h
  obtain ⟨-, -, ⟨s0, s9⟩, -⟩ := hT
  refine ⟨h1, ?_, h4⟩
  show 0 ≤ (if A.2.2.1 + tSp T < 99 then A.2.2.1 + tSp T else 99) ∧ (if A.2.2.1 + tSp T < 99 then A.2.2.1 + tSp T else 99) ≤ 99
  rw [Int32.le_iff_toInt_le] at h2 h3 s0 s9
  have e0 : (0 : Int32).toInt = 0 := rfl
  have e9 : (9 : Int32).toInt = 9 := rfl
  have e99 : (99 : Int32).toInt = 99 := rfl
  have e : (A.2.2.1 + tSp T).toInt = A.2.2.1.toInt + (tSp T).toInt := by
    rw [Int32.toInt_add]
    apply Int.bmod_eq_of_le <;> omega
  split
  · rename_i hl
    refine ⟨?_, Int32.le_of_lt hl⟩
    rw [Int32.le_iff_toInt_le, e]
    omega
  · exact ⟨by decide, by decide⟩
theorem aWhy_0 {T : Tw} {A : As} {j : Nat} (h : aWhy T A j = 0) : ¬ A.2.2.2 j < 1 ∧ ¬ A.2.2.1 < 1 ∧ ∃ m, aLast T A j = some m ∧ bt A.2.1 m = false ∧ tDry T m = false := by
  unfold aWhy at h
  cases hl : aLast T A j with
  | none => rw [hl] at h; exact absurd h (show ¬ ((1 : Int32) = 0) by decide)
  | some m =>
    rw [hl] at h
    simp only at h
    split at h
    · exact absurd h (by decide)
    rename_i g1
    split at h
    · exact absurd h (by decide)
    rename_i g2
    split at h
    · exact absurd h (by decide)
    rename_i g3
    split at h
    · exact absurd h (by decide)
    rename_i g4
    exact ⟨g3, g4, m, rfl, by simpa using g2, by simpa using g1⟩
theorem aOk_drink {T : Tw} {A : As} {j m : Nat} (h : aOk T A) (h0 : aWhy T A j = 0) (hj : j < tP T) : aOk T (aDrink T A j m) := by
  obtain ⟨h1, ⟨h2, h3⟩, h4⟩ := h
  obtain ⟨c1, c2, -⟩ := aWhy_0 h0
  refine ⟨aWf_drink h1, ?_, fun i hi => ?_⟩
  · have := i_dec c2 (Int32.le_iff_toInt_le.mp h3)
    exact ⟨this.1, Int32.le_iff_toInt_le.mpr this.2⟩
  · show 0 ≤ (if i = j then A.2.2.2 j - 1 else A.2.2.2 i) ∧ (if i = j then A.2.2.2 j - 1 else A.2.2.2 i) ≤ 9
    split
    · have := i_dec c1 (Int32.le_iff_toInt_le.mp (h4 j hj).2)
      exact ⟨this.1, Int32.le_iff_toInt_le.mpr this.2⟩
    · exact h4 i hi
theorem aOk_take {T : Tw} {A A' : As} {act : Int32} (hT : tOk T) (hA : aOk T A) (h : aTake T A act = some A') : aOk T A' := by
  have hw := aWf_take hT.1 hA.1 h
  have w1 := hT.1.1
  unfold aTake at h
  split at h
  · split at h
    · cases h
      exact ⟨hw, hA.2⟩
    · cases h
  · split at h
    · rename_i hc
      obtain ⟨j, hj, he⟩ := x_has (by omega) hc.1 hc.2
      rw [he, nI_clamp (by omega)] at h
      split at h
      · rename_i h0
        cases h
        exact aOk_drink hA h0 hj
      · cases h
    · split at h
      · cases h
        exact aOk_day hT hA
      · cases h
def aRun (T : Tw) : As → List Int32 → Option As
  | A, [] => some A
  | A, a :: l => match aTake T A a with
    | none => none
    | some B => aRun T B l
theorem aRun_snoc (T : Tw) (a : Int32) : ∀ (l : List Int32) (A : As), aRun T A (l ++ [a]) = (aRun T A l).bind (fun B => aTake T B a) := by
  intro l
  induction l with
  | nil =>
    intro A
    simp only [List.nil_append, aRun, Option.bind_some]
    cases aTake T A a <;> rfl
  | cons x l ih =>
    intro A
    simp only [List.cons_append, aRun]
    cases aTake T A x with
    | none => rfl
    | some B => exact ih B
theorem aOk_run {T : Tw} (hT : tOk T) : ∀ (l : List Int32) (A A' : As), aOk T A → aRun T A l = some A' → aOk T A' := by
  intro l
  induction l with
  | nil => intro A A' h1 h2; cases h2; exact h1
  | cons x l ih =>
    intro A A' h1 h2
    rw [aRun] at h2
    cases hB : aTake T A x with
    | none => rw [hB] at h2; cases h2
    | some B => rw [hB] at h2; exact ih B A' (aOk_take hT h1 hB) h2
theorem aRun_take {T : Tw} : ∀ (l : List Int32) (n : Nat) (A A' : As), aRun T A l = some A' → ∃ B, aRun T A (l.take n) = some B := by
  intro l
  induction l with
  | nil => intro n A A' h; exact ⟨A, by simp [aRun]⟩
  | cons x l ih =>
    intro n A A' h
    cases n with
    | zero => exact ⟨A, rfl⟩
    | succ n =>
      rw [aRun] at h
      rw [List.take_succ_cons, aRun]
      cases hB : aTake T A x with
      | none => rw [hB] at h; cases h
      | some B => rw [hB] at h; exact ih n B A' h
/-- the reference's own world: the TOWN and its ACTS -/
def refW (s : xS) (T : Tw) (acts : List Int32) : Prop := refT s 111 0 T ∧ s.1 111 6 = nI acts.length ∧ (∀ i, i < acts.length → s.1 111 (75 + i) = acts.getD i 0) ∧ acts.length ≤ 60
section REF4
variable {P : Nat → List Value → Option Value} {d : Nat} {xs : List Int32} {s : xS} {T : Tw} {A : As}
theorem offR.S {s s' : xS} (h : s'.1 110 = s.1 110) (h1 : s'.1 117 = s.1 117) (h2 : s'.1 118 = s.1 118) (hA : refS s T A) : refS s' T A := by
  unfold refS at *
  rw [h, h1, h2]
  exact hA
set_option maxHeartbeats 4000000 in
theorem r_act0 (hd : 5 ≤ d) (hT : refT s 111 0 T) (hW : tWf T) (hA : refS s T A) (hAw : aWf T A) {A' : As} {act : Int32} (h : aTake T A act = some A') : ∃ s', x_ev g_M P d 239 [.ref 110, .int act] (mkH xs s) (none, mkH xs s') ∧ offR s s' ∧ refS s' T A' := by
  have w1 := hW.1
  have w2 := hW.2.1
  obtain ⟨d, rfl⟩ := x_1 (d := d) (by omega)
  unfold aTake at h
  split at h
  · rename_i hc
    obtain ⟨m, hm, rfl⟩ := x_has (by omega) hc.1 hc.2
    rw [nI_clamp (by omega)] at h
    split at h
    · rename_i ho
      cases h
      obtain ⟨s', q1, q2, q3⟩ := r_settle0 (P := P) (d := d) (xs := xs) (by omega) hA (m := m) (tOpen_out hW hAw hm ho).2
      refine ⟨s', ?_, q2, q3⟩
      rw [x_ev_in rfl (Nat.le_of_ble_eq_true rfl)]
      rw [show x_ent (x_nL g_M 239) [.ref 110, .int (nI m)] = [some (.ref 110), some (.int (nI m))] from rfl]
      have h10 : ¬ (10 : Int32) ≤ nI m := nI_ge (b := 10) (by omega) (by omega)
      simp only [w_Ref_act0_0, w_Ref_act0_6, w_Ref_act0_11, w_Ref_act0_14, w_Ref_act0_20, w_Ref_act0_28, w_Ref_act0_32, w_Ref_act0_38, w_Ref_act0_42, c_110, f_110_0, p_110_0, f_110_1, f_110_2, f_110_3, f_110_4, f_110_5, p_110_5, f_110_6, f_110_7, p_110_7, f_110_8, p_110_8, f_110_9, p_110_9, f_110_10, p_110_10, f_110_11, p_110_11, f_110_12, p_110_12, f_110_13, p_110_13, f_110_14, f_110_15, f_110_16, p_110_16, f_110_17, f_110_18, p_110_18, f_110_19, p_110_19, f_110_20, f_110_21, p_110_21, f_110_22, p_110_22, f_110_23, f_110_24, f_110_25, p_110_25, f_110_26, f_110_27, f_110_28, f_110_29, f_110_30, f_110_31, p_110_31, f_110_32, p_110_32, f_110_33, p_110_33, f_110_34, p_110_34, f_110_35, f_110_36, f_110_37, f_110_38, Option.some.injEq, exists_eq_left', exists_eq_left, Option.toList_some, Option.toList_none, List.cons_append, List.nil_append, true_and, and_true, Option.map_some, Option.map_none, h10, if_false, x_ev_iff q1]
    · cases h
  · split at h
    · rename_i hc
      obtain ⟨a, ha, he⟩ := x_has (by omega) hc.1 hc.2
      rw [he, nI_clamp (by omega)] at h
      split at h
      · rename_i h0
        cases h
        obtain ⟨m, hl⟩ := aWhy_last h0
        obtain ⟨s', q1, q2, q3⟩ := r_drink0 (P := P) (d := d) (xs := xs) (by omega) hT hW hA hAw ha hl
        have hact : act = nI (a + 10) := by
          rw [← nI_add, ← he]
          show act = act - 10 + 10
          rw [Int32.sub_add_cancel]
        refine ⟨s', ?_, q2, by rw [hl]; exact q3⟩
        rw [x_ev_in rfl (Nat.le_of_ble_eq_true rfl)]
        rw [show x_ent (x_nL g_M 239) [.ref 110, .int act] = [some (.ref 110), some (.int act)] from rfl]
        have h10 : (10 : Int32) ≤ act := by rw [hact]; exact nI_le (a := 10) (by omega) (by omega)
        have h20 : ¬ (20 : Int32) ≤ act := by rw [hact]; exact nI_ge (b := 20) (by omega) (by omega)
        simp only [w_Ref_act0_0, w_Ref_act0_6, w_Ref_act0_11, w_Ref_act0_14, w_Ref_act0_20, w_Ref_act0_28, w_Ref_act0_32, w_Ref_act0_38, w_Ref_act0_42, c_110, f_110_0, p_110_0, f_110_1, f_110_2, f_110_3, f_110_4, f_110_5, p_110_5, f_110_6, f_110_7, p_110_7, f_110_8, p_110_8, f_110_9, p_110_9, f_110_10, p_110_10, f_110_11, p_110_11, f_110_12, p_110_12, f_110_13, p_110_13, f_110_14, f_110_15, f_110_16, p_110_16, f_110_17, f_110_18, p_110_18, f_110_19, p_110_19, f_110_20, f_110_21, p_110_21, f_110_22, p_110_22, f_110_23, f_110_24, f_110_25, p_110_25, f_110_26, f_110_27, f_110_28, f_110_29, f_110_30, f_110_31, p_110_31, f_110_32, p_110_32, f_110_33, p_110_33, f_110_34, p_110_34, f_110_35, f_110_36, f_110_37, f_110_38, Option.some.injEq, exists_eq_left', exists_eq_left, Option.toList_some, Option.toList_none, List.cons_append, List.nil_append, true_and, and_true, Option.map_some, Option.map_none, h10, if_true, h20, if_false, he, x_ev_iff q1]
      · cases h
    · split at h
      · rename_i h20
        cases h
        subst h20
        obtain ⟨s', q1, q2, q3⟩ := r_day0 (P := P) (d := d) (xs := xs) (by omega) hT hA
        refine ⟨s', ?_, q2, q3⟩
        rw [x_ev_in rfl (Nat.le_of_ble_eq_true rfl)]
        rw [show x_ent (x_nL g_M 239) [.ref 110, .int 20] = [some (.ref 110), some (.int 20)] from rfl]
        simp only [w_Ref_act0_0, w_Ref_act0_6, w_Ref_act0_11, w_Ref_act0_14, w_Ref_act0_20, w_Ref_act0_28, w_Ref_act0_32, w_Ref_act0_38, w_Ref_act0_42, c_110, f_110_0, p_110_0, f_110_1, f_110_2, f_110_3, f_110_4, f_110_5, p_110_5, f_110_6, f_110_7, p_110_7, f_110_8, p_110_8, f_110_9, p_110_9, f_110_10, p_110_10, f_110_11, p_110_11, f_110_12, p_110_12, f_110_13, p_110_13, f_110_14, f_110_15, f_110_16, p_110_16, f_110_17, f_110_18, p_110_18, f_110_19, p_110_19, f_110_20, f_110_21, p_110_21, f_110_22, p_110_22, f_110_23, f_110_24, f_110_25, p_110_25, f_110_26, f_110_27, f_110_28, f_110_29, f_110_30, f_110_31, p_110_31, f_110_32, p_110_32, f_110_33, p_110_33, f_110_34, p_110_34, f_110_35, f_110_36, f_110_37, f_110_38, Option.some.injEq, exists_eq_left', exists_eq_left, Option.toList_some, Option.toList_none, List.cons_append, List.nil_append, true_and, and_true, Option.map_some, Option.map_none, show (10 : Int32) ≤ 20 by decide, if_true, show (20 : Int32) ≤ 20 by decide, not_true_eq_false, if_false, x_ev_iff q1]
      · cases h
theorem r_beAtFirst (hd : 1 ≤ d) (hT : refT s 111 0 T) (hW : tWf T) : ∃ s', x_ev g_M P d 226 [.ref 110] (mkH xs s) (none, mkH xs s') ∧ offR s s' ∧ refS s' T (aBegin T) := by
  have w1 := hW.1
  let st : Nat → xS := fo (fun p s' => s_p s' 118 p (s.1 111 (7 + 2 * p))) (s_p s 110 16 0)
  have ks : ∀ n, (∀ q, q ≠ 110 → q ≠ 118 → (st n).1 q = s.1 q) ∧ (st n).1 110 = (s_p s 110 16 0).1 110 ∧ (st n).2 = s.2 := fo_ind (fun x : xS => (∀ q, q ≠ 110 → q ≠ 118 → x.1 q = s.1 q) ∧ x.1 110 = (s_p s 110 16 0).1 110 ∧ x.2 = s.2) ⟨fun q h1 h2 => by funext k; simp [s_p, h1], rfl, rfl⟩ (fun n x hx => ⟨fun q h1 h2 => by
      rw [← hx.1 q h1 h2]
      funext k
      simp [s_p, h2], by
      rw [← hx.2.1]
      funext k
      simp [s_p], hx.2.2⟩)
  have kv : ∀ n j, j < n → (st n).1 118 j = s.1 111 (7 + 2 * j) := by
    intro n
    induction n with
    | zero => intro j hj; omega
    | succ n ih =>
      intro j hj
      show (s_p (st n) 118 n (s.1 111 (7 + 2 * n))).1 118 j = _
      by_cases hjn : j = n
      · subst hjn
        simp [s_p]
      · simp [s_p, hjn]
        exact ih j (by omega)
  obtain ⟨k1, k2, k3⟩ := ks 6
  refine ⟨s_p (s_p (st 6) 110 18 (tLe T)) 110 19 0, ?_, ⟨fun q h1 h2 h3 => ?_, fun k h1 h2 h3 => ?_, k3⟩, ?_⟩
  · obtain ⟨d, rfl⟩ := x_1 (d := d) (by omega)
    rw [x_ev_in rfl (Nat.le_of_ble_eq_true rfl)]
    rw [show x_ent (x_nL g_M 226) [.ref 110] = [some (.ref 110), none] from rfl]
    simp only [w_Ref_beAtFirst_0, w_Ref_beAtFirst_5, c_110, f_110_0, p_110_0, f_110_1, f_110_2, f_110_3, f_110_4, f_110_5, p_110_5, f_110_6, f_110_7, p_110_7, f_110_8, p_110_8, f_110_9, p_110_9, f_110_10, p_110_10, f_110_11, p_110_11, f_110_12, p_110_12, f_110_13, p_110_13, f_110_14, f_110_15, f_110_16, p_110_16, f_110_17, f_110_18, p_110_18, f_110_19, p_110_19, f_110_20, f_110_21, p_110_21, f_110_22, p_110_22, f_110_23, f_110_24, f_110_25, p_110_25, f_110_26, f_110_27, f_110_28, f_110_29, f_110_30, f_110_31, p_110_31, f_110_32, p_110_32, f_110_33, p_110_33, f_110_34, p_110_34, f_110_35, f_110_36, f_110_37, f_110_38, Option.some.injEq, exists_eq_left', exists_eq_left, Option.toList_some, Option.toList_none, List.cons_append, List.nil_append, true_and, and_true, Option.map_some, Option.map_none]
    have key := x_up (C := x_ev g_M P d) (k := 226) (r := (none, mkH xs (s_p (s_p (st 6) 110 18 (tLe T)) 110 19 0))) (N := 6) (F := fun m => (7, [some (.ref 110), some (.int (nI m))], [], mkH xs (st m))) (fun m hm => by
      have hc : ¬ 6 ≤ nI m := nI_ge (b := 6) hm (by omega)
      have hx : x_rd ((st m).1 111) 135 (7 + (2 * nI m)) = some (s.1 111 (7 + 2 * m)) := by
        rw [show (2 : Int32) = nI 2 from rfl, show (7 : Int32) = nI 7 from rfl, pk_mul, nI_add, x_rd_nI (by omega) (by omega), (ks m).1 111 (by decide) (by decide)]
      have hy : x_rd ((st m).1 118) 6 (nI m) = some ((st m).1 118 m) := x_rd_nI (by omega) (by omega)
      simp only [w_Ref_beAtFirst_0, w_Ref_beAtFirst_5, w_Ref_beAtFirst_13, w_Ref_beAtFirst_17, w_Ref_beAtFirst_22, w_Ref_beAtFirst_29, w_Ref_beAtFirst_30, w_Ref_beAtFirst_36, w_Ref_beAtFirst_41, w_Ref_beAtFirst_43, w_Ref_beAtFirst_46, w_Ref_beAtFirst_51, w_Ref_beAtFirst_7 (l1 := nI m), c_110, f_110_0, p_110_0, f_110_1, f_110_2, f_110_3, f_110_4, f_110_5, p_110_5, f_110_6, f_110_7, p_110_7, f_110_8, p_110_8, f_110_9, p_110_9, f_110_10, p_110_10, f_110_11, p_110_11, f_110_12, p_110_12, f_110_13, p_110_13, f_110_14, f_110_15, f_110_16, p_110_16, f_110_17, f_110_18, p_110_18, f_110_19, p_110_19, f_110_20, f_110_21, p_110_21, f_110_22, p_110_22, f_110_23, f_110_24, f_110_25, p_110_25, f_110_26, f_110_27, f_110_28, f_110_29, f_110_30, f_110_31, p_110_31, f_110_32, p_110_32, f_110_33, p_110_33, f_110_34, p_110_34, f_110_35, f_110_36, f_110_37, f_110_38, e_111, i_111, e_118, i_118, Option.some.injEq, exists_eq_left', exists_eq_left, Option.toList_some, Option.toList_none, List.cons_append, List.nil_append, true_and, and_true, Option.map_some, Option.map_none, hc, if_false, hx, hy, nI_clamp (show m < 2 ^ 31 by omega), nI_1]
      exact Iff.rfl) 0 (Nat.zero_le _)
    refine key.mpr ?_
    have hx : x_rd ((st 6).1 111) 135 0 = some (tLe T) := by
      rw [show (0 : Int32) = nI 0 from rfl, x_rd_nI (by omega) (by omega), k1 111 (by decide) (by decide)]
      exact congrArg some hT.1.1
    simp only [w_Ref_beAtFirst_0, w_Ref_beAtFirst_5, w_Ref_beAtFirst_13, w_Ref_beAtFirst_17, w_Ref_beAtFirst_22, w_Ref_beAtFirst_29, w_Ref_beAtFirst_30, w_Ref_beAtFirst_36, w_Ref_beAtFirst_41, w_Ref_beAtFirst_43, w_Ref_beAtFirst_46, w_Ref_beAtFirst_51, w_Ref_beAtFirst_7 (l1 := nI 6), c_110, f_110_0, p_110_0, f_110_1, f_110_2, f_110_3, f_110_4, f_110_5, p_110_5, f_110_6, f_110_7, p_110_7, f_110_8, p_110_8, f_110_9, p_110_9, f_110_10, p_110_10, f_110_11, p_110_11, f_110_12, p_110_12, f_110_13, p_110_13, f_110_14, f_110_15, f_110_16, p_110_16, f_110_17, f_110_18, p_110_18, f_110_19, p_110_19, f_110_20, f_110_21, p_110_21, f_110_22, p_110_22, f_110_23, f_110_24, f_110_25, p_110_25, f_110_26, f_110_27, f_110_28, f_110_29, f_110_30, f_110_31, p_110_31, f_110_32, p_110_32, f_110_33, p_110_33, f_110_34, p_110_34, f_110_35, f_110_36, f_110_37, f_110_38, e_111, i_111, e_118, i_118, Option.some.injEq, exists_eq_left', exists_eq_left, Option.toList_some, Option.toList_none, List.cons_append, List.nil_append, true_and, and_true, Option.map_some, Option.map_none, show (6 : Int32) ≤ nI 6 from Int32.le_refl _, if_true, hx]
  · rw [← k1 q h1 h3]
    funext k
    simp [s_p, h1]
  · have : (st 6).1 110 k = s.1 110 k := by rw [k2]; simp [s_p, h1]
    simp [s_p, h2, h3, this]
  · refine ⟨?_, fun i hi => absurd hi (by simp [aBegin]), fun j hj => ?_, ?_, ?_⟩
    · have : (st 6).1 110 16 = 0 := by rw [k2]; simp [s_p]
      simp [s_p, this, aBegin]
      rfl
    · have h1 := kv 6 j (by omega)
      have h2 := (hT.2.1 j hj).1
      rw [Nat.zero_add] at h2
      simp [s_p, aBegin, h1, h2]
    · simp [s_p, aBegin]
    · simp [s_p, aBegin]
theorem r_asLoop (hd : 5 ≤ d) {acts : List Int32} (hR : refW s T acts) (hK : tOk T) : ∀ (n i : Nat) (si : xS) (Ai : As), i + n = acts.length → offR s si → refS si T Ai → aWf T Ai → aRun T Ai (acts.drop i) = some A →
    ∃ s', x_R (x_ev g_M P d) 227 (6, [some (.ref 110), some (.int (nI i))], [], mkH xs si) (none, mkH xs s') ∧ offR s s' ∧ refS s' T A := by
  obtain ⟨hT, r6, ra, r60⟩ := hR
  intro n
  induction n with
  | zero =>
    intro i si Ai hin ho hS hw hr
    have hi : i = acts.length := by omega
    subst hi
    rw [List.drop_length] at hr
    cases hr
    have e6 : x_rd (si.1 111) 135 6 = some (nI acts.length) := by
      rw [show (6 : Int32) = nI 6 from rfl, x_rd_nI (by omega) (by omega), ho.1 111 (by decide) (by decide) (by decide), r6]
    refine ⟨si, ?_, ho, hS⟩
    simp only [w_Ref_asItIs_0, w_Ref_asItIs_4, w_Ref_asItIs_11, w_Ref_asItIs_14, w_Ref_asItIs_17, w_Ref_asItIs_22, w_Ref_asItIs_27, w_Ref_asItIs_30, w_Ref_asItIs_36, w_Ref_asItIs_6 (l1 := nI acts.length), c_110, f_110_0, p_110_0, f_110_1, f_110_2, f_110_3, f_110_4, f_110_5, p_110_5, f_110_6, f_110_7, p_110_7, f_110_8, p_110_8, f_110_9, p_110_9, f_110_10, p_110_10, f_110_11, p_110_11, f_110_12, p_110_12, f_110_13, p_110_13, f_110_14, f_110_15, f_110_16, p_110_16, f_110_17, f_110_18, p_110_18, f_110_19, p_110_19, f_110_20, f_110_21, p_110_21, f_110_22, p_110_22, f_110_23, f_110_24, f_110_25, p_110_25, f_110_26, f_110_27, f_110_28, f_110_29, f_110_30, f_110_31, p_110_31, f_110_32, p_110_32, f_110_33, p_110_33, f_110_34, p_110_34, f_110_35, f_110_36, f_110_37, f_110_38, e_111, i_111, Option.some.injEq, exists_eq_left', exists_eq_left, Option.toList_some, Option.toList_none, List.cons_append, List.nil_append, true_and, and_true, Option.map_some, Option.map_none, e6, show nI acts.length ≤ nI acts.length from Int32.le_refl _, if_true]
  | succ n ih =>
    intro i si Ai hin ho hS hw hr
    have hi : i < acts.length := by omega
    rw [List.drop_eq_getElem_cons hi, aRun] at hr
    have hg : acts.getD i 0 = acts[i] := by rw [List.getD_eq_getElem?_getD, List.getElem?_eq_getElem hi]; rfl
    cases hB : aTake T Ai acts[i] with
    | none => rw [hB] at hr; cases hr
    | some B =>
      rw [hB] at hr
      obtain ⟨s1, q1, q2, q3⟩ := r_act0 (P := P) (d := d) (xs := xs) (by omega) (ho.T hT) hK.1 hS hw hB
      obtain ⟨s', z1, z2, z3⟩ := ih (i + 1) s1 B (by omega) (ho.tr q2) q3 (aWf_take hK.1 hw hB) hr
      refine ⟨s', ?_, z2, z3⟩
      have e6 : x_rd (si.1 111) 135 6 = some (nI acts.length) := by
        rw [show (6 : Int32) = nI 6 from rfl, x_rd_nI (by omega) (by omega), ho.1 111 (by decide) (by decide) (by decide), r6]
      have e7 : x_rd (si.1 111) 135 (75 + nI i) = some acts[i] := by
        rw [show (75 : Int32) = nI 75 from rfl, nI_add, x_rd_nI (by omega) (by omega), ho.1 111 (by decide) (by decide) (by decide), ra i hi, hg]
      have hc : ¬ nI acts.length ≤ nI i := nI_ge hi (by omega)
      simp only [w_Ref_asItIs_0, w_Ref_asItIs_4, w_Ref_asItIs_11, w_Ref_asItIs_14, w_Ref_asItIs_17, w_Ref_asItIs_22, w_Ref_asItIs_27, w_Ref_asItIs_30, w_Ref_asItIs_36, w_Ref_asItIs_6 (l1 := nI i), c_110, f_110_0, p_110_0, f_110_1, f_110_2, f_110_3, f_110_4, f_110_5, p_110_5, f_110_6, f_110_7, p_110_7, f_110_8, p_110_8, f_110_9, p_110_9, f_110_10, p_110_10, f_110_11, p_110_11, f_110_12, p_110_12, f_110_13, p_110_13, f_110_14, f_110_15, f_110_16, p_110_16, f_110_17, f_110_18, p_110_18, f_110_19, p_110_19, f_110_20, f_110_21, p_110_21, f_110_22, p_110_22, f_110_23, f_110_24, f_110_25, p_110_25, f_110_26, f_110_27, f_110_28, f_110_29, f_110_30, f_110_31, p_110_31, f_110_32, p_110_32, f_110_33, p_110_33, f_110_34, p_110_34, f_110_35, f_110_36, f_110_37, f_110_38, e_111, i_111, Option.some.injEq, exists_eq_left', exists_eq_left, Option.toList_some, Option.toList_none, List.cons_append, List.nil_append, true_and, and_true, Option.map_some, Option.map_none, e6, e7, hc, if_false, x_ev_iff q1, nI_1]
      exact z1
theorem r_asItIs (hd : 6 ≤ d) {acts : List Int32} (hR : refW s T acts) (hK : tOk T) (hr : aRun T (aBegin T) acts = some A) : ∃ s', x_ev g_M P d 227 [.ref 110] (mkH xs s) (none, mkH xs s') ∧ offR s s' ∧ refS s' T A := by
  obtain ⟨d, rfl⟩ := x_1 (d := d) (by omega)
  obtain ⟨s1, q1, q2, q3⟩ := r_beAtFirst (P := P) (d := d) (xs := xs) (by omega) hR.1 hK.1
  obtain ⟨s', z1, z2, z3⟩ := r_asLoop (P := P) (d := d) (xs := xs) (by omega) hR hK acts.length 0 s1 (aBegin T) (by omega) q2 q3 aWf_begin hr
  refine ⟨s', ?_, z2, z3⟩
  rw [x_ev_in rfl (Nat.le_of_ble_eq_true rfl)]
  rw [show x_ent (x_nL g_M 227) [.ref 110] = [some (.ref 110), none] from rfl]
  simp only [w_Ref_asItIs_0, w_Ref_asItIs_4, w_Ref_asItIs_11, w_Ref_asItIs_14, w_Ref_asItIs_17, w_Ref_asItIs_22, w_Ref_asItIs_27, w_Ref_asItIs_30, w_Ref_asItIs_36, c_110, f_110_0, p_110_0, f_110_1, f_110_2, f_110_3, f_110_4, f_110_5, p_110_5, f_110_6, f_110_7, p_110_7, f_110_8, p_110_8, f_110_9, p_110_9, f_110_10, p_110_10, f_110_11, p_110_11, f_110_12, p_110_12, f_110_13, p_110_13, f_110_14, f_110_15, f_110_16, p_110_16, f_110_17, f_110_18, p_110_18, f_110_19, p_110_19, f_110_20, f_110_21, p_110_21, f_110_22, p_110_22, f_110_23, f_110_24, f_110_25, p_110_25, f_110_26, f_110_27, f_110_28, f_110_29, f_110_30, f_110_31, p_110_31, f_110_32, p_110_32, f_110_33, p_110_33, f_110_34, p_110_34, f_110_35, f_110_36, f_110_37, f_110_38, Option.some.injEq, exists_eq_left', exists_eq_left, Option.toList_some, Option.toList_none, List.cons_append, List.nil_append, true_and, and_true, Option.map_some, Option.map_none, x_ev_iff q1]
  exact z1
end REF4
