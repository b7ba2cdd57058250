/-! HOW IT GOES BY ITSELF (own work) -/
def aGood (T : Tw) (A : As) (m : Nat) : Bool := tOpen T (msk A.1) m && (decide (0 < tGa T m 0) && decide (0 < tGa T m 1))
def aNext (T : Tw) (A : As) : Int32 := match frst (fun p => aWil T A p) 0 (tP T) with
  | some p => 10 + nI p
  | none => match frst (fun m => aGood T A m) 0 (tM T) with
    | some m => nI m
    | none => -1
def cG (T : Tw) : Nat → As → List Int32 × As
  | 0, A => ([], A)
  | n + 1, A => match aTake T A (aNext T A) with
    | none => ([], A)
    | some B => (aNext T A :: (cG T n B).1, (cG T n B).2)
def dr : List Int32 → Nat
  | [] => 0
  | a :: l => (if a < 10 then 0 else 1) + dr l
theorem aWil_why {T : Tw} {A : As} {p : Nat} (h : aWil T A p = true) : aWhy T A p = 0 := by
  unfold aWil at h
  cases hl : aLast T A p with
  | none => rw [hl] at h; cases h
  | some m =>
    rw [hl] at h
    simp only [Bool.and_eq_true, decide_eq_true_eq] at h
    exact h.1
theorem aNext_cs {T : Tw} {A : As} (hW : tWf T) : (aNext T A = -1 ∧ aTake T A (aNext T A) = none) ∨ (¬ aNext T A < 0 ∧ ¬ aNext T A = -1 ∧ ∃ B, aTake T A (aNext T A) = some B ∧ ((∃ m, B = aSettle A m ∧ m < tM T ∧ tOpen T (msk A.1) m = true) ∨ ∃ p m, B = aDrink T A p m ∧ p < tP T ∧ aWhy T A p = 0 ∧ aLast T A p = some m)) := by
  have w1 := hW.1
  have w2 := hW.2.1
  have hm1 : ∀ n, n < 2 ^ 30 → ¬ nI n = -1 := fun n hn z => by
    have := nI_pos (n := n) (by omega)
    rw [z] at this
    exact this (by decide)
  unfold aNext
  cases h1 : frst (fun p => aWil T A p) 0 (tP T) with
  | some p =>
    right
    obtain ⟨-, hp, hw, -⟩ := frst_some h1
    have h0 := aWil_why hw
    obtain ⟨m, hl⟩ := aWhy_last h0
    simp only
    have e : (10 : Int32) + nI p = nI (10 + p) := nI_add 10 p
    refine ⟨by rw [e]; exact nI_pos (by omega), by rw [e]; exact hm1 _ (by omega), _, by rw [aTake_d hW (by omega), if_pos h0], Or.inr ⟨p, m, by rw [hl]; rfl, by omega, h0, hl⟩⟩
  | none =>
    cases h2 : frst (fun m => aGood T A m) 0 (tM T) with
    | some m =>
      right
      obtain ⟨-, hm, hg, -⟩ := frst_some h2
      have ho : tOpen T (msk A.1) m = true := by
        unfold aGood at hg
        simp only [Bool.and_eq_true] at hg
        exact hg.1
      simp only
      exact ⟨nI_pos (by omega), hm1 _ (by omega), _, by rw [aTake_s hW (by omega), if_pos ho], Or.inl ⟨m, rfl, by omega, ho⟩⟩
    | none =>
      left
      refine ⟨rfl, ?_⟩
      simp only
      unfold aTake
      rw [if_neg (fun z => z.1 (by decide)), if_neg (fun z => z.1 (by decide)), if_neg (by decide)]
def nsm (f : Nat → Nat) : Nat → Nat
  | 0 => 0
  | n + 1 => nsm f n + f n
theorem nsm_le {f : Nat → Nat} (h : ∀ i, f i ≤ 1) : ∀ n, nsm f n ≤ n := by
  intro n
  induction n with
  | zero => exact Nat.le_refl _
  | succ n ih => rw [nsm]; have := h n; omega
theorem nsm_eq {f g : Nat → Nat} : ∀ n, (∀ i, i < n → f i = g i) → nsm f n = nsm g n := by
  intro n
  induction n with
  | zero => intro _; rfl
  | succ n ih => intro h; rw [nsm, nsm, ih (fun i hi => h i (by omega)), h n (by omega)]
theorem nsm_one {f g : Nat → Nat} {m : Nat} (h : ∀ i, i ≠ m → g i = f i) (h1 : g m = f m + 1) : ∀ n, m < n → nsm g n = nsm f n + 1 := by
  intro n
  induction n with
  | zero => intro hm; omega
  | succ n ih =>
    intro hm
    rw [nsm, nsm]
    by_cases hn : m = n
    · subst hn
      rw [h1, nsm_eq m (fun i hi => h i (by omega))]
      omega
    · rw [ih (by omega), h n (by omega)]
      omega
/-- what is left to happen, at most -/
def cPh (A : As) : Nat := 9 * (8 - nsm (fun i => if bt A.2.1 i = true then 1 else 0) 8) + (8 - A.1.length)
theorem cPh_80 (A : As) : cPh A ≤ 80 := by unfold cPh; omega
theorem cPh_dn {T : Tw} {A B : As} (hW : tWf T) (hAw : aWf T A) (h : aTake T A (aNext T A) = some B) : cPh B < cPh A := by
  have w2 := hW.2.1
  have h8 := hAw.2.2
  rcases aNext_cs (A := A) hW with ⟨-, h0⟩ | ⟨-, -, B', hB, hc⟩
  · rw [h0] at h; cases h
  · rw [hB] at h
    cases h
    rcases hc with ⟨m, rfl, hm, ho⟩ | ⟨p, m, rfl, hp, h0, hl⟩
    · obtain ⟨-, h7⟩ := tOpen_out hW hAw hm ho
      unfold cPh aSettle
      simp only [List.length_append, List.length_singleton]
      omega
    · obtain ⟨-, -, m', hl', hb, -⟩ := aWhy_0 h0
      rw [hl] at hl'
      cases hl'
      have hm : m < tM T := hAw.1 m (lastN_in (Nat.le_refl _) hl).1
      have e := nsm_one (f := fun i => if bt A.2.1 i = true then 1 else 0) (g := fun i => if i < 32 ∧ bt (A.2.1 ||| on1 m) i = true then 1 else 0) (m := m) (fun i hi => by
        by_cases h32 : i < 32
        · simp only [h32, true_and, b_or, b_on (show m < 32 by omega) h32, hi, decide_false, Bool.or_false]
        · simp only [h32, false_and, if_false, b_big (show 32 ≤ i by omega), Bool.false_eq_true]) (by
        simp [hb, b_or, b_on (show m < 32 by omega) (show m < 32 by omega), show m < 32 by omega]) 8 (by omega)
      have e2 : nsm (fun i => if bt (A.2.1 ||| on1 m) i = true then 1 else 0) 8 = nsm (fun i => if i < 32 ∧ bt (A.2.1 ||| on1 m) i = true then 1 else 0) 8 := nsm_eq 8 (fun i hi => by simp [show i < 32 by omega])
      have e3 := nsm_le (f := fun i => if bt (A.2.1 ||| on1 m) i = true then 1 else 0) (fun i => by split <;> omega) 8
      unfold cPh aDrink
      simp only
      omega
theorem cG_more {T : Tw} (hT : tOk T) : ∀ (n k : Nat) (A : As), aOk T A → cPh A ≤ n → cG T (n + k) A = cG T n A := by
  intro n
  induction n with
  | zero =>
    intro k A hA h
    cases k with
    | zero => rfl
    | succ k =>
      show (match aTake T A (aNext T A) with | none => ([], A) | some B => (aNext T A :: (cG T (0 + k) B).1, (cG T (0 + k) B).2)) = ([], A)
      cases hB : aTake T A (aNext T A) with
      | none => rfl
      | some B => have := cPh_dn hT.1 hA.1 hB; omega
  | succ n ih =>
    intro k A hA h
    rw [show n + 1 + k = (n + k) + 1 by omega, cG, cG]
    cases hB : aTake T A (aNext T A) with
    | none => rfl
    | some B =>
      have := cPh_dn hT.1 hA.1 hB
      simp only
      rw [ih k B (aOk_take hT hA hB) (by omega)]
theorem cG_80 {T : Tw} {A : As} (hT : tOk T) (hA : aOk T A) : cG T 1000 A = cG T 80 A := cG_more hT 80 920 A hA (cPh_80 A)
theorem cG_len (T : Tw) : ∀ (n : Nat) (A : As), (cG T n A).1.length ≤ n := by
  intro n
  induction n with
  | zero => intro A; exact Nat.le_refl _
  | succ n ih =>
    intro A
    rw [cG]
    cases aTake T A (aNext T A) with
    | none => exact Nat.zero_le _
    | some B => have := ih B; simp; omega
theorem cG_ok {T : Tw} (hT : tOk T) : ∀ (n : Nat) (A : As), aOk T A → aOk T (cG T n A).2 := by
  intro n
  induction n with
  | zero => intro A h; exact h
  | succ n ih =>
    intro A h
    rw [cG]
    cases hB : aTake T A (aNext T A) with
    | none => exact h
    | some B => exact ih B (aOk_take hT h hB)
theorem dr_len : ∀ l : List Int32, dr l ≤ l.length := by
  intro l
  induction l with
  | nil => exact Nat.le_refl _
  | cons a l ih => rw [dr, List.length_cons]; split <;> omega
section COURSE
variable {P : Nat → List Value → Option Value} {d : Nat} {xs : List Int32} {s : xS} {T : Tw} {A : As} {q : Option Value × xH}
theorem s_isGain (hd : 2 ≤ d) (hT : clsT s 3 T) (hW : tWf T) {m : Nat} (hm : m < tM T) : x_ev g_M P d 3 [.ref 20, .int (nI m)] (mkH xs s) q ↔ q = (some (.int (b01 (decide (0 < tGa T m 0) && decide (0 < tGa T m 1)))), mkH xs s) := by
  obtain ⟨p1, p2, p3⟩ := hW.2.2.1 m hm
  have q0 := fun (d : Nat) (hd : 1 ≤ d) (q : Option Value × xH) => t_partyOf (P := P) (d := d) (xs := xs) (q := q) hd hT hW hm (k := 0) (by omega)
  have q1 := fun (d : Nat) (hd : 1 ≤ d) (q : Option Value × xH) => t_partyOf (P := P) (d := d) (xs := xs) (q := q) hd hT hW hm (k := 1) (by omega)
  have v0 : tGain T (tPa T m 0) m = tGa T m 0 := by unfold tGain; rw [if_pos rfl]
  have v1 : tGain T (tPa T m 1) m = tGa T m 1 := by unfold tGain; rw [if_neg p3, if_pos rfl]
  rw [show nI 0 = 0 from rfl] at q0
  rw [show nI 1 = 1 from rfl] at q1
  obtain ⟨d, rfl⟩ := x_1 (d := d) (by omega)
  rw [x_ev_in rfl (Nat.le_of_ble_eq_true rfl)]
  rw [show x_ent (x_nL g_M 3) [.ref 20, .int (nI m)] = [some (.ref 20), some (.int (nI m))] from rfl]
  simp only [w_Course_isGainOfBoth_0, w_Course_isGainOfBoth_4, w_Course_isGainOfBoth_8, w_Course_isGainOfBoth_13, w_Course_isGainOfBoth_17, w_Course_isGainOfBoth_20, w_Course_isGainOfBoth_24, w_Course_isGainOfBoth_28, w_Course_isGainOfBoth_33, w_Course_isGainOfBoth_37, w_Course_isGainOfBoth_40, w_Course_isGainOfBoth_44, w_Course_isGainOfBoth_45, c_3, f_3_0, p_3_0, f_3_1, p_3_1, f_3_2, p_3_2, f_3_3, p_3_3, f_3_4, p_3_4, f_3_5, p_3_5, f_3_6, p_3_6, f_3_7, p_3_7, f_3_8, p_3_8, f_3_9, f_3_10, f_3_11, f_3_12, f_3_13, c_20, f_20_0, f_20_1, f_20_2, f_20_3, p_20_3, f_20_4, p_20_4, Option.some.injEq, exists_eq_left', exists_eq_left, Option.toList_some, Option.toList_none, List.cons_append, List.nil_append, true_and, and_true, Option.map_some, Option.map_none, q0 d (by omega), q1 d (by omega), t_gainOf (d := d) (by omega) hT hW p1 hm, t_gainOf (d := d) (by omega) hT hW p2 hm, v0, v1, x_nb0, x_nb1, b01]
  have g0 : tGa T m 0 ≤ 0 ↔ ¬ 0 < tGa T m 0 := Int32.not_lt.symm
  have g1 : tGa T m 1 ≤ 0 ↔ ¬ 0 < tGa T m 1 := Int32.not_lt.symm
  by_cases h1 : 0 < tGa T m 0 <;> by_cases h2 : 0 < tGa T m 1 <;> simp [h1, h2, g0, g1, eq_comm (a := q)]
set_option maxHeartbeats 4000000 in
theorem s_nextAct (hd : 4 ≤ d) (hT : clsT s 3 T) (hW : tWf T) (hA : clsS s 22 T A) (hAw : aWf T A) : x_ev g_M P d 2 [.ref 20] (mkH xs s) q ↔ q = (some (.int (aNext T A)), mkH xs s) := by
  have h22 : 22 ∈ g_SP := by decide
  have w1 := hW.1
  have w2 := hW.2.1
  have t4 := hT.1.2.2.2.2.1
  have t5 := hT.1.2.2.2.2.2
  obtain ⟨d, rfl⟩ := x_1 (d := d) (by omega)
  rw [x_ev_in rfl (Nat.le_of_ble_eq_true rfl)]
  rw [show x_ent (x_nL g_M 2) [.ref 20] = [some (.ref 20), none] from rfl]
  rw [w_Course_nextAct_0]
  have k2 := x_fstI (C := x_ev g_M P d) (k := 2) (r := q) (N := tM T) (H := mkH xs s) (f := fun m => aGood T A m) (e := -1) (g := fun m => nI m) (F := fun m => (37, [some (.ref 20), some (.int (nI m))], [], mkH xs s)) (fun m hm hf => by
    have hc : ¬ nI (tM T) ≤ nI m := nI_ge hm (by omega)
    simp only [w_Course_nextAct_0, w_Course_nextAct_7, w_Course_nextAct_10, w_Course_nextAct_13, w_Course_nextAct_17, w_Course_nextAct_21, w_Course_nextAct_24, w_Course_nextAct_29, w_Course_nextAct_35, w_Course_nextAct_42, w_Course_nextAct_45, w_Course_nextAct_48, w_Course_nextAct_52, w_Course_nextAct_56, w_Course_nextAct_59, w_Course_nextAct_64, w_Course_nextAct_67, w_Course_nextAct_69, w_Course_nextAct_75, w_Course_nextAct_37 (l1 := nI m), c_3, f_3_0, p_3_0, f_3_1, p_3_1, f_3_2, p_3_2, f_3_3, p_3_3, f_3_4, p_3_4, f_3_5, p_3_5, f_3_6, p_3_6, f_3_7, p_3_7, f_3_8, p_3_8, f_3_9, f_3_10, f_3_11, f_3_12, f_3_13, c_20, f_20_0, f_20_1, f_20_2, f_20_3, p_20_3, f_20_4, p_20_4, c_22, f_22_0, f_22_1, p_22_1, f_22_2, p_22_2, f_22_3, p_22_3, f_22_4, p_22_4, f_22_5, f_22_6, Option.some.injEq, exists_eq_left', exists_eq_left, Option.toList_some, Option.toList_none, List.cons_append, List.nil_append, true_and, and_true, Option.map_some, Option.map_none, t5, hc, if_false, s_isOpen (d := d) (by omega) h22 hT hW hA hm, s_isGain (d := d) (by omega) hT hW hm, nI_1]
    unfold aGood at hf
    by_cases h1 : tOpen T (msk A.1) m = true
    · have h2 : (decide (0 < tGa T m 0) && decide (0 < tGa T m 1)) = false := by rw [h1] at hf; exact hf
      simp only [h1, h2, b01, if_true, show ¬ ((1 : Int32) = 0) by decide, if_false, Bool.false_eq_true]
    · simp only [h1, if_false, if_true, Bool.false_eq_true]) (fun m hm hf => by
    have hc : ¬ nI (tM T) ≤ nI m := nI_ge hm (by omega)
    unfold aGood at hf
    rw [Bool.and_eq_true] at hf
    simp only [w_Course_nextAct_0, w_Course_nextAct_7, w_Course_nextAct_10, w_Course_nextAct_13, w_Course_nextAct_17, w_Course_nextAct_21, w_Course_nextAct_24, w_Course_nextAct_29, w_Course_nextAct_35, w_Course_nextAct_42, w_Course_nextAct_45, w_Course_nextAct_48, w_Course_nextAct_52, w_Course_nextAct_56, w_Course_nextAct_59, w_Course_nextAct_64, w_Course_nextAct_67, w_Course_nextAct_69, w_Course_nextAct_75, w_Course_nextAct_37 (l1 := nI m), c_3, f_3_0, p_3_0, f_3_1, p_3_1, f_3_2, p_3_2, f_3_3, p_3_3, f_3_4, p_3_4, f_3_5, p_3_5, f_3_6, p_3_6, f_3_7, p_3_7, f_3_8, p_3_8, f_3_9, f_3_10, f_3_11, f_3_12, f_3_13, c_20, f_20_0, f_20_1, f_20_2, f_20_3, p_20_3, f_20_4, p_20_4, c_22, f_22_0, f_22_1, p_22_1, f_22_2, p_22_2, f_22_3, p_22_3, f_22_4, p_22_4, f_22_5, f_22_6, Option.some.injEq, exists_eq_left', exists_eq_left, Option.toList_some, Option.toList_none, List.cons_append, List.nil_append, true_and, and_true, Option.map_some, Option.map_none, t5, hc, if_false, s_isOpen (d := d) (by omega) h22 hT hW hA hm, s_isGain (d := d) (by omega) hT hW hm, hf.1, hf.2, b01, if_true, show ¬ ((1 : Int32) = 0) by decide]
    exact eq_comm) (by
    simp only [w_Course_nextAct_0, w_Course_nextAct_7, w_Course_nextAct_10, w_Course_nextAct_13, w_Course_nextAct_17, w_Course_nextAct_21, w_Course_nextAct_24, w_Course_nextAct_29, w_Course_nextAct_35, w_Course_nextAct_42, w_Course_nextAct_45, w_Course_nextAct_48, w_Course_nextAct_52, w_Course_nextAct_56, w_Course_nextAct_59, w_Course_nextAct_64, w_Course_nextAct_67, w_Course_nextAct_69, w_Course_nextAct_75, w_Course_nextAct_37 (l1 := nI (tM T)), c_3, f_3_0, p_3_0, f_3_1, p_3_1, f_3_2, p_3_2, f_3_3, p_3_3, f_3_4, p_3_4, f_3_5, p_3_5, f_3_6, p_3_6, f_3_7, p_3_7, f_3_8, p_3_8, f_3_9, f_3_10, f_3_11, f_3_12, f_3_13, c_20, f_20_0, f_20_1, f_20_2, f_20_3, p_20_3, f_20_4, p_20_4, c_22, f_22_0, f_22_1, p_22_1, f_22_2, p_22_2, f_22_3, p_22_3, f_22_4, p_22_4, f_22_5, f_22_6, Option.some.injEq, exists_eq_left', exists_eq_left, Option.toList_some, Option.toList_none, List.cons_append, List.nil_append, true_and, and_true, Option.map_some, Option.map_none, t5, show nI (tM T) ≤ nI (tM T) from Int32.le_refl _, if_true]
    exact eq_comm)
  have k1 := x_fstG (C := x_ev g_M P d) (k := 2) (r := q) (N := tP T) (f := fun p => aWil T A p) (K := fun p => q = (some (.int (10 + nI p)), mkH xs s)) (E := q = (some (.int ((frst (fun m => aGood T A m) 0 (tM T)).elim (-1) (fun m => nI m))), mkH xs s)) (F := fun p => (2, [some (.ref 20), some (.int (nI p))], [], mkH xs s)) (fun p hp hf => by
    have hc : ¬ nI (tP T) ≤ nI p := nI_ge hp (by omega)
    simp only [w_Course_nextAct_0, w_Course_nextAct_7, w_Course_nextAct_10, w_Course_nextAct_13, w_Course_nextAct_17, w_Course_nextAct_21, w_Course_nextAct_24, w_Course_nextAct_29, w_Course_nextAct_35, w_Course_nextAct_42, w_Course_nextAct_45, w_Course_nextAct_48, w_Course_nextAct_52, w_Course_nextAct_56, w_Course_nextAct_59, w_Course_nextAct_64, w_Course_nextAct_67, w_Course_nextAct_69, w_Course_nextAct_75, w_Course_nextAct_2 (l1 := nI p), c_3, f_3_0, p_3_0, f_3_1, p_3_1, f_3_2, p_3_2, f_3_3, p_3_3, f_3_4, p_3_4, f_3_5, p_3_5, f_3_6, p_3_6, f_3_7, p_3_7, f_3_8, p_3_8, f_3_9, f_3_10, f_3_11, f_3_12, f_3_13, c_20, f_20_0, f_20_1, f_20_2, f_20_3, p_20_3, f_20_4, p_20_4, c_22, f_22_0, f_22_1, p_22_1, f_22_2, p_22_2, f_22_3, p_22_3, f_22_4, p_22_4, f_22_5, f_22_6, Option.some.injEq, exists_eq_left', exists_eq_left, Option.toList_some, Option.toList_none, List.cons_append, List.nil_append, true_and, and_true, Option.map_some, Option.map_none, t4, hc, if_false, s_isWilling (d := d) (by omega) h22 hT hW hA hAw hp, hf, Bool.false_eq_true, if_true, nI_1]) (fun p hp hf => by
    have hc : ¬ nI (tP T) ≤ nI p := nI_ge hp (by omega)
    simp only [w_Course_nextAct_0, w_Course_nextAct_7, w_Course_nextAct_10, w_Course_nextAct_13, w_Course_nextAct_17, w_Course_nextAct_21, w_Course_nextAct_24, w_Course_nextAct_29, w_Course_nextAct_35, w_Course_nextAct_42, w_Course_nextAct_45, w_Course_nextAct_48, w_Course_nextAct_52, w_Course_nextAct_56, w_Course_nextAct_59, w_Course_nextAct_64, w_Course_nextAct_67, w_Course_nextAct_69, w_Course_nextAct_75, w_Course_nextAct_2 (l1 := nI p), c_3, f_3_0, p_3_0, f_3_1, p_3_1, f_3_2, p_3_2, f_3_3, p_3_3, f_3_4, p_3_4, f_3_5, p_3_5, f_3_6, p_3_6, f_3_7, p_3_7, f_3_8, p_3_8, f_3_9, f_3_10, f_3_11, f_3_12, f_3_13, c_20, f_20_0, f_20_1, f_20_2, f_20_3, p_20_3, f_20_4, p_20_4, c_22, f_22_0, f_22_1, p_22_1, f_22_2, p_22_2, f_22_3, p_22_3, f_22_4, p_22_4, f_22_5, f_22_6, Option.some.injEq, exists_eq_left', exists_eq_left, Option.toList_some, Option.toList_none, List.cons_append, List.nil_append, true_and, and_true, Option.map_some, Option.map_none, t4, hc, if_false, s_isWilling (d := d) (by omega) h22 hT hW hA hAw hp, hf, if_true, show ¬ ((1 : Int32) = 0) by decide]
    exact eq_comm) (by
    simp only [w_Course_nextAct_0, w_Course_nextAct_7, w_Course_nextAct_10, w_Course_nextAct_13, w_Course_nextAct_17, w_Course_nextAct_21, w_Course_nextAct_24, w_Course_nextAct_29, w_Course_nextAct_35, w_Course_nextAct_42, w_Course_nextAct_45, w_Course_nextAct_48, w_Course_nextAct_52, w_Course_nextAct_56, w_Course_nextAct_59, w_Course_nextAct_64, w_Course_nextAct_67, w_Course_nextAct_69, w_Course_nextAct_75, w_Course_nextAct_2 (l1 := nI (tP T)), c_3, f_3_0, p_3_0, f_3_1, p_3_1, f_3_2, p_3_2, f_3_3, p_3_3, f_3_4, p_3_4, f_3_5, p_3_5, f_3_6, p_3_6, f_3_7, p_3_7, f_3_8, p_3_8, f_3_9, f_3_10, f_3_11, f_3_12, f_3_13, c_20, f_20_0, f_20_1, f_20_2, f_20_3, p_20_3, f_20_4, p_20_4, c_22, f_22_0, f_22_1, p_22_1, f_22_2, p_22_2, f_22_3, p_22_3, f_22_4, p_22_4, f_22_5, f_22_6, Option.some.injEq, exists_eq_left', exists_eq_left, Option.toList_some, Option.toList_none, List.cons_append, List.nil_append, true_and, and_true, Option.map_some, Option.map_none, t4, show nI (tP T) ≤ nI (tP T) from Int32.le_refl _, if_true]
    exact k2) (tP T) 0 (by omega)
  refine k1.trans ?_
  unfold aNext
  cases frst (fun p => aWil T A p) 0 (tP T) with
  | some p => exact Iff.rfl
  | none => cases frst (fun m => aGood T A m) 0 (tM T) <;> exact Iff.rfl
set_option maxHeartbeats 4000000 in
theorem r_nextStep (hd : 8 ≤ d) (hT : refT s 111 0 T) (hW : tWf T) (hA : refS s T A) (hO : aOk T A) : x_ev g_M P d 260 [.ref 110] (mkH xs s) q ↔ q = (some (.int (aNext T A)), mkH xs s) := by
  have hAw := hO.1
  have w1 := hW.1
  have w2 := hW.2.1
  obtain ⟨d, rfl⟩ := x_1 (d := d) (by omega)
  rw [x_ev_in rfl (Nat.le_of_ble_eq_true rfl)]
  rw [show x_ent (x_nL g_M 260) [.ref 110] = [some (.ref 110), none] from rfl]
  rw [w_Ref_nextStep_0]
  have k2 := x_fstI (C := x_ev g_M P d) (k := 260) (r := q) (N := tM T) (H := mkH xs s) (f := fun m => aGood T A m) (e := -1) (g := fun m => nI m) (F := fun m => (33, [some (.ref 110), some (.int (nI m))], [], mkH xs s)) (fun m hm hf => by
    have hc : ¬ nI (tM T) ≤ nI m := nI_ge hm (by omega)
    have g0 : tGa T m 0 ≤ 0 ↔ ¬ 0 < tGa T m 0 := Int32.not_lt.symm
    have g1 : tGa T m 1 ≤ 0 ↔ ¬ 0 < tGa T m 1 := Int32.not_lt.symm
    simp only [w_Ref_nextStep_0, w_Ref_nextStep_7, w_Ref_nextStep_9, w_Ref_nextStep_12, w_Ref_nextStep_17, w_Ref_nextStep_20, w_Ref_nextStep_25, w_Ref_nextStep_31, w_Ref_nextStep_38, w_Ref_nextStep_40, w_Ref_nextStep_43, w_Ref_nextStep_48, w_Ref_nextStep_51, w_Ref_nextStep_57, w_Ref_nextStep_60, w_Ref_nextStep_66, w_Ref_nextStep_69, w_Ref_nextStep_71, w_Ref_nextStep_77, w_Ref_nextStep_33 (l1 := nI m), c_110, f_110_0, p_110_0, f_110_1, f_110_2, f_110_3, f_110_4, f_110_5, p_110_5, f_110_6, f_110_7, p_110_7, f_110_8, p_110_8, f_110_9, p_110_9, f_110_10, p_110_10, f_110_11, p_110_11, f_110_12, p_110_12, f_110_13, p_110_13, f_110_14, f_110_15, f_110_16, p_110_16, f_110_17, f_110_18, p_110_18, f_110_19, p_110_19, f_110_20, f_110_21, p_110_21, f_110_22, p_110_22, f_110_23, f_110_24, f_110_25, p_110_25, f_110_26, f_110_27, f_110_28, f_110_29, f_110_30, f_110_31, p_110_31, f_110_32, p_110_32, f_110_33, p_110_33, f_110_34, p_110_34, f_110_35, f_110_36, f_110_37, f_110_38, e_111, i_111, Option.some.injEq, exists_eq_left', exists_eq_left, Option.toList_some, Option.toList_none, List.cons_append, List.nil_append, true_and, and_true, Option.map_some, Option.map_none, x_w4 hT, hc, if_false, r_isOpen (d := d) (by omega) hT hW hA hAw hm, r_of2 (d := d) (by omega) hT hW hm, r_of3 (d := d) (by omega) hT hW hm, g0, g1, nI_1]
    unfold aGood at hf
    by_cases h1 : tOpen T (msk A.1) m = true
    · by_cases h2 : 0 < tGa T m 0
      · have h3 : ¬ 0 < tGa T m 1 := by simp [h1, h2] at hf; exact Int32.not_lt.mpr hf
        simp only [h1, h2, h3, b01, if_true, show ¬ ((1 : Int32) = 0) by decide, if_false, not_true_eq_false, not_false_eq_true]
      · simp only [h1, h2, b01, if_true, show ¬ ((1 : Int32) = 0) by decide, if_false, not_false_eq_true]
    · simp only [h1, b01, if_false, if_true, Bool.false_eq_true]) (fun m hm hf => by
    have hc : ¬ nI (tM T) ≤ nI m := nI_ge hm (by omega)
    unfold aGood at hf
    simp only [Bool.and_eq_true, decide_eq_true_eq] at hf
    have g0 : ¬ tGa T m 0 ≤ 0 := Int32.not_le.mpr hf.2.1
    have g1 : ¬ tGa T m 1 ≤ 0 := Int32.not_le.mpr hf.2.2
    simp only [w_Ref_nextStep_0, w_Ref_nextStep_7, w_Ref_nextStep_9, w_Ref_nextStep_12, w_Ref_nextStep_17, w_Ref_nextStep_20, w_Ref_nextStep_25, w_Ref_nextStep_31, w_Ref_nextStep_38, w_Ref_nextStep_40, w_Ref_nextStep_43, w_Ref_nextStep_48, w_Ref_nextStep_51, w_Ref_nextStep_57, w_Ref_nextStep_60, w_Ref_nextStep_66, w_Ref_nextStep_69, w_Ref_nextStep_71, w_Ref_nextStep_77, w_Ref_nextStep_33 (l1 := nI m), c_110, f_110_0, p_110_0, f_110_1, f_110_2, f_110_3, f_110_4, f_110_5, p_110_5, f_110_6, f_110_7, p_110_7, f_110_8, p_110_8, f_110_9, p_110_9, f_110_10, p_110_10, f_110_11, p_110_11, f_110_12, p_110_12, f_110_13, p_110_13, f_110_14, f_110_15, f_110_16, p_110_16, f_110_17, f_110_18, p_110_18, f_110_19, p_110_19, f_110_20, f_110_21, p_110_21, f_110_22, p_110_22, f_110_23, f_110_24, f_110_25, p_110_25, f_110_26, f_110_27, f_110_28, f_110_29, f_110_30, f_110_31, p_110_31, f_110_32, p_110_32, f_110_33, p_110_33, f_110_34, p_110_34, f_110_35, f_110_36, f_110_37, f_110_38, e_111, i_111, Option.some.injEq, exists_eq_left', exists_eq_left, Option.toList_some, Option.toList_none, List.cons_append, List.nil_append, true_and, and_true, Option.map_some, Option.map_none, x_w4 hT, hc, if_false, r_isOpen (d := d) (by omega) hT hW hA hAw hm, r_of2 (d := d) (by omega) hT hW hm, r_of3 (d := d) (by omega) hT hW hm, g0, g1, hf.1, b01, if_true, show ¬ ((1 : Int32) = 0) by decide]
    exact eq_comm) (by
    simp only [w_Ref_nextStep_0, w_Ref_nextStep_7, w_Ref_nextStep_9, w_Ref_nextStep_12, w_Ref_nextStep_17, w_Ref_nextStep_20, w_Ref_nextStep_25, w_Ref_nextStep_31, w_Ref_nextStep_38, w_Ref_nextStep_40, w_Ref_nextStep_43, w_Ref_nextStep_48, w_Ref_nextStep_51, w_Ref_nextStep_57, w_Ref_nextStep_60, w_Ref_nextStep_66, w_Ref_nextStep_69, w_Ref_nextStep_71, w_Ref_nextStep_77, w_Ref_nextStep_33 (l1 := nI (tM T)), c_110, f_110_0, p_110_0, f_110_1, f_110_2, f_110_3, f_110_4, f_110_5, p_110_5, f_110_6, f_110_7, p_110_7, f_110_8, p_110_8, f_110_9, p_110_9, f_110_10, p_110_10, f_110_11, p_110_11, f_110_12, p_110_12, f_110_13, p_110_13, f_110_14, f_110_15, f_110_16, p_110_16, f_110_17, f_110_18, p_110_18, f_110_19, p_110_19, f_110_20, f_110_21, p_110_21, f_110_22, p_110_22, f_110_23, f_110_24, f_110_25, p_110_25, f_110_26, f_110_27, f_110_28, f_110_29, f_110_30, f_110_31, p_110_31, f_110_32, p_110_32, f_110_33, p_110_33, f_110_34, p_110_34, f_110_35, f_110_36, f_110_37, f_110_38, e_111, i_111, Option.some.injEq, exists_eq_left', exists_eq_left, Option.toList_some, Option.toList_none, List.cons_append, List.nil_append, true_and, and_true, Option.map_some, Option.map_none, x_w4 hT, show nI (tM T) ≤ nI (tM T) from Int32.le_refl _, if_true]
    exact eq_comm)
  have k1 := x_fstG (C := x_ev g_M P d) (k := 260) (r := q) (N := tP T) (f := fun p => aWil T A p) (K := fun p => q = (some (.int (10 + nI p)), mkH xs s)) (E := q = (some (.int ((frst (fun m => aGood T A m) 0 (tM T)).elim (-1) (fun m => nI m))), mkH xs s)) (F := fun p => (2, [some (.ref 110), some (.int (nI p))], [], mkH xs s)) (fun p hp hf => by
    have hc : ¬ nI (tP T) ≤ nI p := nI_ge hp (by omega)
    simp only [w_Ref_nextStep_0, w_Ref_nextStep_7, w_Ref_nextStep_9, w_Ref_nextStep_12, w_Ref_nextStep_17, w_Ref_nextStep_20, w_Ref_nextStep_25, w_Ref_nextStep_31, w_Ref_nextStep_38, w_Ref_nextStep_40, w_Ref_nextStep_43, w_Ref_nextStep_48, w_Ref_nextStep_51, w_Ref_nextStep_57, w_Ref_nextStep_60, w_Ref_nextStep_66, w_Ref_nextStep_69, w_Ref_nextStep_71, w_Ref_nextStep_77, w_Ref_nextStep_2 (l1 := nI p), c_110, f_110_0, p_110_0, f_110_1, f_110_2, f_110_3, f_110_4, f_110_5, p_110_5, f_110_6, f_110_7, p_110_7, f_110_8, p_110_8, f_110_9, p_110_9, f_110_10, p_110_10, f_110_11, p_110_11, f_110_12, p_110_12, f_110_13, p_110_13, f_110_14, f_110_15, f_110_16, p_110_16, f_110_17, f_110_18, p_110_18, f_110_19, p_110_19, f_110_20, f_110_21, p_110_21, f_110_22, p_110_22, f_110_23, f_110_24, f_110_25, p_110_25, f_110_26, f_110_27, f_110_28, f_110_29, f_110_30, f_110_31, p_110_31, f_110_32, p_110_32, f_110_33, p_110_33, f_110_34, p_110_34, f_110_35, f_110_36, f_110_37, f_110_38, e_111, i_111, Option.some.injEq, exists_eq_left', exists_eq_left, Option.toList_some, Option.toList_none, List.cons_append, List.nil_append, true_and, and_true, Option.map_some, Option.map_none, x_w3 hT, hc, if_false, r_wishes (d := d) (by omega) hT hW hA hO hp, hf, b01, Bool.false_eq_true, if_true, nI_1]) (fun p hp hf => by
    have hc : ¬ nI (tP T) ≤ nI p := nI_ge hp (by omega)
    simp only [w_Ref_nextStep_0, w_Ref_nextStep_7, w_Ref_nextStep_9, w_Ref_nextStep_12, w_Ref_nextStep_17, w_Ref_nextStep_20, w_Ref_nextStep_25, w_Ref_nextStep_31, w_Ref_nextStep_38, w_Ref_nextStep_40, w_Ref_nextStep_43, w_Ref_nextStep_48, w_Ref_nextStep_51, w_Ref_nextStep_57, w_Ref_nextStep_60, w_Ref_nextStep_66, w_Ref_nextStep_69, w_Ref_nextStep_71, w_Ref_nextStep_77, w_Ref_nextStep_2 (l1 := nI p), c_110, f_110_0, p_110_0, f_110_1, f_110_2, f_110_3, f_110_4, f_110_5, p_110_5, f_110_6, f_110_7, p_110_7, f_110_8, p_110_8, f_110_9, p_110_9, f_110_10, p_110_10, f_110_11, p_110_11, f_110_12, p_110_12, f_110_13, p_110_13, f_110_14, f_110_15, f_110_16, p_110_16, f_110_17, f_110_18, p_110_18, f_110_19, p_110_19, f_110_20, f_110_21, p_110_21, f_110_22, p_110_22, f_110_23, f_110_24, f_110_25, p_110_25, f_110_26, f_110_27, f_110_28, f_110_29, f_110_30, f_110_31, p_110_31, f_110_32, p_110_32, f_110_33, p_110_33, f_110_34, p_110_34, f_110_35, f_110_36, f_110_37, f_110_38, e_111, i_111, Option.some.injEq, exists_eq_left', exists_eq_left, Option.toList_some, Option.toList_none, List.cons_append, List.nil_append, true_and, and_true, Option.map_some, Option.map_none, x_w3 hT, hc, if_false, r_wishes (d := d) (by omega) hT hW hA hO hp, hf, b01, if_true, show ¬ ((1 : Int32) = 0) by decide]
    exact eq_comm) (by
    simp only [w_Ref_nextStep_0, w_Ref_nextStep_7, w_Ref_nextStep_9, w_Ref_nextStep_12, w_Ref_nextStep_17, w_Ref_nextStep_20, w_Ref_nextStep_25, w_Ref_nextStep_31, w_Ref_nextStep_38, w_Ref_nextStep_40, w_Ref_nextStep_43, w_Ref_nextStep_48, w_Ref_nextStep_51, w_Ref_nextStep_57, w_Ref_nextStep_60, w_Ref_nextStep_66, w_Ref_nextStep_69, w_Ref_nextStep_71, w_Ref_nextStep_77, w_Ref_nextStep_2 (l1 := nI (tP T)), c_110, f_110_0, p_110_0, f_110_1, f_110_2, f_110_3, f_110_4, f_110_5, p_110_5, f_110_6, f_110_7, p_110_7, f_110_8, p_110_8, f_110_9, p_110_9, f_110_10, p_110_10, f_110_11, p_110_11, f_110_12, p_110_12, f_110_13, p_110_13, f_110_14, f_110_15, f_110_16, p_110_16, f_110_17, f_110_18, p_110_18, f_110_19, p_110_19, f_110_20, f_110_21, p_110_21, f_110_22, p_110_22, f_110_23, f_110_24, f_110_25, p_110_25, f_110_26, f_110_27, f_110_28, f_110_29, f_110_30, f_110_31, p_110_31, f_110_32, p_110_32, f_110_33, p_110_33, f_110_34, p_110_34, f_110_35, f_110_36, f_110_37, f_110_38, e_111, i_111, Option.some.injEq, exists_eq_left', exists_eq_left, Option.toList_some, Option.toList_none, List.cons_append, List.nil_append, true_and, and_true, Option.map_some, Option.map_none, x_w3 hT, show nI (tP T) ≤ nI (tP T) from Int32.le_refl _, if_true]
    exact k2) (tP T) 0 (by omega)
  refine k1.trans ?_
  unfold aNext
  cases frst (fun p => aWil T A p) 0 (tP T) with
  | some p => exact Iff.rfl
  | none => cases frst (fun m => aGood T A m) 0 (tM T) <;> exact Iff.rfl
end COURSE
