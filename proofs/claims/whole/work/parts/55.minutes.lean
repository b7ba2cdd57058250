/-! judge, held, when, differs (own work) -/
def actL (T : Tw) (v : Int64) : Bool := (!decide (v < 0) && decide (v < (nI (tM T)).toInt64)) || ((!decide (v < 10) && decide (v < (10 + nI (tP T)).toInt64)) || decide (v = 20))
theorem l_of {v : Int64} {n : Nat} (h0 : ¬ v < 0) (h1 : v < (nI n).toInt64) (hn : n < 2 ^ 31) : ∃ m, m < n ∧ v.toInt32 = nI m := by
  rw [Int64.lt_iff_toInt_lt] at h0 h1
  rw [Int32.toInt_toInt64, nI_toInt hn] at h1
  have e0 : (0 : Int64).toInt = 0 := rfl
  rw [e0] at h0
  refine ⟨v.toInt.toNat, by omega, ?_⟩
  apply Int32.toInt_inj.mp
  rw [nI_toInt (by omega), Int64.toInt_toInt32]
  rw [Int.bmod_eq_of_le (by omega) (by omega)]
  omega
theorem actL_cs {T : Tw} (hW : tWf T) {v : Int64} (h : actL T v = true) : (∃ m, m < tM T ∧ v.toInt32 = nI m) ∨ (∃ p, p < tP T ∧ v.toInt32 = 10 + nI p) ∨ v.toInt32 = 20 := by
  have w1 := hW.1
  have w2 := hW.2.1
  unfold actL at h
  rw [Bool.or_eq_true, Bool.or_eq_true] at h
  rcases h with h | h | h
  · simp only [Bool.and_eq_true, Bool.not_eq_true', decide_eq_false_iff_not, decide_eq_true_eq] at h
    obtain ⟨m, hm, e⟩ := l_of h.1 h.2 (by omega)
    exact Or.inl ⟨m, hm, e⟩
  · simp only [Bool.and_eq_true, Bool.not_eq_true', decide_eq_false_iff_not, decide_eq_true_eq] at h
    have e10 : (10 : Int32) + nI (tP T) = nI (10 + tP T) := nI_add 10 _
    rw [e10] at h
    have h0 : ¬ v < 0 := by
      have h1 := h.1
      rw [Int64.lt_iff_toInt_lt] at h1 ⊢
      have a1 : (10 : Int64).toInt = 10 := rfl
      have a0 : (0 : Int64).toInt = 0 := rfl
      omega
    obtain ⟨m, hm, e⟩ := l_of h0 h.2 (by omega)
    have hm10 : 10 ≤ m := by
      have h1 := h.1
      rw [Int64.lt_iff_toInt_lt] at h1
      have a1 : (10 : Int64).toInt = 10 := rfl
      have e2 := congrArg Int32.toInt e
      have h2 := h.2
      rw [Int64.lt_iff_toInt_lt, Int32.toInt_toInt64, nI_toInt (by omega)] at h2
      rw [nI_toInt (by omega), Int64.toInt_toInt32, Int.bmod_eq_of_le (by omega) (by omega)] at e2
      omega
    refine Or.inr (Or.inl ⟨m - 10, by omega, ?_⟩)
    rw [e, show (10 : Int32) = nI 10 from rfl, nI_add]
    congr 1
    omega
  · simp only [decide_eq_true_eq] at h
    subst h
    exact Or.inr (Or.inr rfl)
/-- the ACTS f, from place i on, n of them, as far as they can be -/
def runF (T : Tw) (f : Nat → Int64) : Nat → Nat → As → Nat × As
  | i, 0, A => (i, A)
  | i, n + 1, A => match aTake T A (f i).toInt32 with
    | none => (i, A)
    | some B => runF T f (i + 1) n B
theorem runF_b (T : Tw) (f : Nat → Int64) : ∀ n i A, i ≤ (runF T f i n A).1 ∧ (runF T f i n A).1 ≤ i + n := by
  intro n
  induction n with
  | zero => intro i A; exact ⟨Nat.le_refl _, Nat.le_refl _⟩
  | succ n ih =>
    intro i A
    rw [runF]
    cases h : aTake T A (f i).toInt32 with
    | none => exact ⟨Nat.le_refl _, by show i ≤ _; omega⟩
    | some B =>
      have := ih (i + 1) B
      exact ⟨by show i ≤ (runF T f (i + 1) n B).1; omega, by show (runF T f (i + 1) n B).1 ≤ _; omega⟩
theorem runF_add (T : Tw) (f : Nat → Int64) : ∀ a b i A, runF T f i (a + b) A = if (runF T f i a A).1 = i + a then runF T f (i + a) b (runF T f i a A).2 else runF T f i a A := by
  intro a
  induction a with
  | zero =>
    intro b i A
    rw [Nat.zero_add]
    show _ = if i = i + 0 then runF T f (i + 0) b A else _
    rw [if_pos (by omega)]
    rfl
  | succ a ih =>
    intro b i A
    rw [show a + 1 + b = (a + b) + 1 by omega, runF, runF]
    cases h : aTake T A (f i).toInt32 with
    | none =>
      show (i, A) = if i = i + (a + 1) then _ else (i, A)
      rw [if_neg (by omega)]
    | some B =>
      show runF T f (i + 1) (a + b) B = if (runF T f (i + 1) a B).1 = i + (a + 1) then runF T f (i + (a + 1)) b (runF T f (i + 1) a B).2 else runF T f (i + 1) a B
      rw [ih b (i + 1) B, show i + 1 + a = i + (a + 1) by omega]
theorem runF_ok {T : Tw} (hK : tOk T) (f : Nat → Int64) : ∀ n i A, aOk T A → aOk T (runF T f i n A).2 := by
  intro n
  induction n with
  | zero => intro i A h; exact h
  | succ n ih =>
    intro i A h
    rw [runF]
    cases hB : aTake T A (f i).toInt32 with
    | none => exact h
    | some B => exact ih (i + 1) B (aOk_take hK h hB)
/-- where two rows come to differ -/
def dfF (T : Tw) (f g : Nat → Int64) : Nat → Nat → As → As → Int32
  | _, 0, _, _ => -1
  | i, n + 1, A, B => match aTake T A (f i).toInt32, aTake T B (g i).toInt32 with
    | some A', some B' => if msk A'.1 = msk B'.1 then dfF T f g (i + 1) n A' B' else nI (i + 1)
    | _, _ => -1
section MIN
variable {P : Nat → List Value → Option Value} {d : Nat} {xs : List Int32} {s : xS} {T : Tw} {A : As} {q : Option Value × xH}
theorem s_isAct (hd : 1 ≤ d) {p : Nat} (hp : p ∈ g_SP) (hT : clsT s 3 T) (v : Int64) : x_ev g_M P d 76 [.ref p, .long v] (mkH xs s) q ↔ q = (some (.int (b01 (actL T v))), mkH xs s) := by
  have t4 := hT.1.2.2.2.2.1
  have t5 := hT.1.2.2.2.2.2
  obtain ⟨d, rfl⟩ := x_1 (d := d) (by omega)
  rw [x_ev_in rfl (Nat.le_of_ble_eq_true rfl)]
  rw [show x_ent (x_nL g_M 76) [.ref p, .long v] = [some (.ref p), some (.long v), none] from rfl]
  simp only [w_State_isAct_0, w_State_isAct_6, w_State_isAct_11, w_State_isAct_14, w_State_isAct_19, w_State_isAct_27, w_State_isAct_34, w_State_isAct_37, w_State_isAct_43, w_State_isAct_51, w_State_isAct_55, w_State_isAct_56, cS hp, fS0 hp, fS1 hp, fS2 hp, fS3 hp, fS4 hp, fS5 hp, fS6 hp, pS1 hp, pS2 hp, pS3 hp, pS4 hp, eS1 hp, eS2 hp, iS1 hp, iS2 hp, c_3, f_3_0, p_3_0, f_3_1, p_3_1, f_3_2, p_3_2, f_3_3, p_3_3, f_3_4, p_3_4, f_3_5, p_3_5, f_3_6, p_3_6, f_3_7, p_3_7, f_3_8, p_3_8, f_3_9, f_3_10, f_3_11, f_3_12, f_3_13, Option.some.injEq, exists_eq_left', exists_eq_left, Option.toList_some, Option.toList_none, List.cons_append, List.nil_append, true_and, and_true, Option.map_some, Option.map_none, x_nb0, x_nb1, lg_cmp_lt, lg_cmp_eq, t4, t5]
  unfold actL b01
  by_cases h1 : v < 0 <;> by_cases h2 : v < (nI (tM T)).toInt64 <;> by_cases h3 : v < 10 <;> by_cases h4 : v < (10 + nI (tP T)).toInt64 <;> by_cases h5 : v = 20 <;> simp [h1, h2, h3, h4, h5, eq_comm (a := q)]
theorem l_pr {n : Nat} (hn : n < 2 ^ 30) (v : Int64) : (nI n - 1).toInt64 < v ↔ ¬ v < (nI n).toInt64 := by
  have h1 : (nI n - 1).toInt = (n : Int) - 1 := by
    have := pk_sub_toInt (a := n) (b := 1) (by omega) (by omega)
    exact this
  rw [Int64.lt_iff_toInt_lt, Int64.lt_iff_toInt_lt, Int32.toInt_toInt64, Int32.toInt_toInt64, h1, nI_toInt (by omega)]
  omega
theorem r_isMatterL (hd : 2 ≤ d) (hT : refT s 111 0 T) (hW : tWf T) (v : Int64) : x_ev g_M P d 196 [.ref 110, .long v] (mkH xs s) q ↔ q = (some (.int (if v < 0 then 0 else if v < (nI (tM T)).toInt64 then 1 else 0)), mkH xs s) := by
  have w2 := hW.2.1
  obtain ⟨d, rfl⟩ := x_1 (d := d) (by omega)
  rw [x_ev_in rfl (Nat.le_of_ble_eq_true rfl)]
  rw [show x_ent (x_nL g_M 196) [.ref 110, .long v] = [some (.ref 110), some (.long v), none] from rfl]
  simp only [w_Ref_isMatter_0, w_Ref_isMatter_6, w_Ref_isMatter_8, w_Ref_isMatter_14, c_110, f_110_0, p_110_0, f_110_1, f_110_2, f_110_3, f_110_4, f_110_5, p_110_5, f_110_6, f_110_7, p_110_7, f_110_8, p_110_8, f_110_9, p_110_9, f_110_10, p_110_10, f_110_11, p_110_11, f_110_12, p_110_12, f_110_13, p_110_13, f_110_14, f_110_15, f_110_16, p_110_16, f_110_17, f_110_18, p_110_18, f_110_19, p_110_19, f_110_20, f_110_21, p_110_21, f_110_22, p_110_22, f_110_23, f_110_24, f_110_25, p_110_25, f_110_26, f_110_27, f_110_28, f_110_29, f_110_30, f_110_31, p_110_31, f_110_32, p_110_32, f_110_33, p_110_33, f_110_34, p_110_34, f_110_35, f_110_36, f_110_37, f_110_38, e_111, i_111, Option.some.injEq, exists_eq_left', exists_eq_left, Option.toList_some, Option.toList_none, List.cons_append, List.nil_append, true_and, and_true, Option.map_some, Option.map_none, x_w4 hT, r_in (d := d) (by omega), l_pr (show tM T < 2 ^ 30 by omega)]
  by_cases h1 : v < 0 <;> by_cases h2 : v < (nI (tM T)).toInt64 <;> simp [h1, h2, x_nb0, x_nb1, eq_comm (a := q)]
theorem r_isAct (hd : 3 ≤ d) (hT : refT s 111 0 T) (hW : tWf T) (v : Int64) : x_ev g_M P d 240 [.ref 110, .long v] (mkH xs s) q ↔ q = (some (.int (b01 (actL T v))), mkH xs s) := by
  have w1 := hW.1
  have e10 : (10 : Int32) + nI (tP T) = nI (10 + tP T) := nI_add 10 _
  obtain ⟨d, rfl⟩ := x_1 (d := d) (by omega)
  rw [x_ev_in rfl (Nat.le_of_ble_eq_true rfl)]
  rw [show x_ent (x_nL g_M 240) [.ref 110, .long v] = [some (.ref 110), some (.long v), none] from rfl]
  simp only [w_Ref_isAct_0, w_Ref_isAct_5, w_Ref_isAct_8, w_Ref_isAct_18, w_Ref_isAct_20, w_Ref_isAct_27, w_Ref_isAct_30, w_Ref_isAct_38, w_Ref_isAct_42, w_Ref_isAct_43, c_110, f_110_0, p_110_0, f_110_1, f_110_2, f_110_3, f_110_4, f_110_5, p_110_5, f_110_6, f_110_7, p_110_7, f_110_8, p_110_8, f_110_9, p_110_9, f_110_10, p_110_10, f_110_11, p_110_11, f_110_12, p_110_12, f_110_13, p_110_13, f_110_14, f_110_15, f_110_16, p_110_16, f_110_17, f_110_18, p_110_18, f_110_19, p_110_19, f_110_20, f_110_21, p_110_21, f_110_22, p_110_22, f_110_23, f_110_24, f_110_25, p_110_25, f_110_26, f_110_27, f_110_28, f_110_29, f_110_30, f_110_31, p_110_31, f_110_32, p_110_32, f_110_33, p_110_33, f_110_34, p_110_34, f_110_35, f_110_36, f_110_37, f_110_38, e_111, i_111, Option.some.injEq, exists_eq_left', exists_eq_left, Option.toList_some, Option.toList_none, List.cons_append, List.nil_append, true_and, and_true, Option.map_some, Option.map_none, x_w3 hT, r_in (d := d) (by omega), r_isMatterL (d := d) (by omega) hT hW, e10, l_pr (show 10 + tP T < 2 ^ 30 by omega), lg_cmp_eq, x_nb0, x_nb1]
  unfold actL b01
  rw [e10]
  by_cases h1 : v < 0 <;> by_cases h2 : v < (nI (tM T)).toInt64 <;> by_cases h3 : v < 10 <;> by_cases h4 : v < (nI (10 + tP T)).toInt64 <;> by_cases h5 : v = 20 <;> simp [h1, h2, h3, h4, h5, eq_comm (a := q)]
theorem r_canAct (hd : 7 ≤ d) (hT : refT s 111 0 T) (hW : tWf T) (hA : refS s T A) (hO : aOk T A) {v : Int64} (hv : actL T v = true) : x_ev g_M P d 241 [.ref 110, .int v.toInt32] (mkH xs s) q ↔ q = (some (.int (b01 (aTake T A v.toInt32).isSome)), mkH xs s) := by
  have w1 := hW.1
  have w2 := hW.2.1
  rcases actL_cs hW hv with ⟨m, hm, e⟩ | ⟨p, hp, e⟩ | e
  · rw [e, aTake_s hW hm]
    have h10 : ¬ (10 : Int32) ≤ nI m := nI_ge (b := 10) (by omega) (by omega)
    obtain ⟨d, rfl⟩ := x_1 (d := d) (by omega)
    rw [x_ev_in rfl (Nat.le_of_ble_eq_true rfl)]
    rw [show x_ent (x_nL g_M 241) [.ref 110, .int (nI m)] = [some (.ref 110), some (.int (nI m))] from rfl]
    simp only [w_Ref_canAct_0, w_Ref_canAct_6, w_Ref_canAct_11, w_Ref_canAct_14, w_Ref_canAct_20, w_Ref_canAct_28, w_Ref_canAct_31, w_Ref_canAct_35, w_Ref_canAct_36, c_110, f_110_0, p_110_0, f_110_1, f_110_2, f_110_3, f_110_4, f_110_5, p_110_5, f_110_6, f_110_7, p_110_7, f_110_8, p_110_8, f_110_9, p_110_9, f_110_10, p_110_10, f_110_11, p_110_11, f_110_12, p_110_12, f_110_13, p_110_13, f_110_14, f_110_15, f_110_16, p_110_16, f_110_17, f_110_18, p_110_18, f_110_19, p_110_19, f_110_20, f_110_21, p_110_21, f_110_22, p_110_22, f_110_23, f_110_24, f_110_25, p_110_25, f_110_26, f_110_27, f_110_28, f_110_29, f_110_30, f_110_31, p_110_31, f_110_32, p_110_32, f_110_33, p_110_33, f_110_34, p_110_34, f_110_35, f_110_36, f_110_37, f_110_38, Option.some.injEq, exists_eq_left', exists_eq_left, Option.toList_some, Option.toList_none, List.cons_append, List.nil_append, true_and, and_true, Option.map_some, Option.map_none, h10, if_false, r_isOpen (d := d) (by omega) hT hW hA hO.1 hm]
    by_cases ho : tOpen T (msk A.1) m = true
    · simp [ho, b01, x_nb1, eq_comm (a := q)]
    · simp [ho, b01, x_nb0, eq_comm (a := q)]
  · rw [e, aTake_d hW hp]
    have e10 : (10 : Int32) + nI p = nI (10 + p) := nI_add 10 p
    have h10 : (10 : Int32) ≤ 10 + nI p := by rw [e10]; exact nI_le (a := 10) (by omega) (by omega)
    have h20 : ¬ (10 : Int32) + nI p = 20 := by
      rw [e10]
      intro z
      have := (nI_eq (a := 10 + p) (b := 20) (by omega) (by omega)).mp z
      omega
    have es : (10 : Int32) + nI p - 10 = nI p := by rw [Int32.add_comm, Int32.add_sub_cancel]
    obtain ⟨d, rfl⟩ := x_1 (d := d) (by omega)
    rw [x_ev_in rfl (Nat.le_of_ble_eq_true rfl)]
    rw [show x_ent (x_nL g_M 241) [.ref 110, .int (10 + nI p)] = [some (.ref 110), some (.int (10 + nI p))] from rfl]
    simp only [w_Ref_canAct_0, w_Ref_canAct_6, w_Ref_canAct_11, w_Ref_canAct_14, w_Ref_canAct_20, w_Ref_canAct_28, w_Ref_canAct_31, w_Ref_canAct_35, w_Ref_canAct_36, c_110, f_110_0, p_110_0, f_110_1, f_110_2, f_110_3, f_110_4, f_110_5, p_110_5, f_110_6, f_110_7, p_110_7, f_110_8, p_110_8, f_110_9, p_110_9, f_110_10, p_110_10, f_110_11, p_110_11, f_110_12, p_110_12, f_110_13, p_110_13, f_110_14, f_110_15, f_110_16, p_110_16, f_110_17, f_110_18, p_110_18, f_110_19, p_110_19, f_110_20, f_110_21, p_110_21, f_110_22, p_110_22, f_110_23, f_110_24, f_110_25, p_110_25, f_110_26, f_110_27, f_110_28, f_110_29, f_110_30, f_110_31, p_110_31, f_110_32, p_110_32, f_110_33, p_110_33, f_110_34, p_110_34, f_110_35, f_110_36, f_110_37, f_110_38, Option.some.injEq, exists_eq_left', exists_eq_left, Option.toList_some, Option.toList_none, List.cons_append, List.nil_append, true_and, and_true, Option.map_some, Option.map_none, h10, h20, if_true, if_false, es, r_whyNot (d := d) (by omega) hT hW hA hO hp]
    by_cases ho : aWhy T A p = 0
    · simp [ho, b01, x_nb1, eq_comm (a := q)]
    · simp [ho, b01, x_nb0, eq_comm (a := q)]
  · rw [e, aTake_y hW]
    obtain ⟨d, rfl⟩ := x_1 (d := d) (by omega)
    rw [x_ev_in rfl (Nat.le_of_ble_eq_true rfl)]
    rw [show x_ent (x_nL g_M 241) [.ref 110, .int 20] = [some (.ref 110), some (.int 20)] from rfl]
    simp only [w_Ref_canAct_0, w_Ref_canAct_6, w_Ref_canAct_11, w_Ref_canAct_14, w_Ref_canAct_20, w_Ref_canAct_28, w_Ref_canAct_31, w_Ref_canAct_35, w_Ref_canAct_36, c_110, f_110_0, p_110_0, f_110_1, f_110_2, f_110_3, f_110_4, f_110_5, p_110_5, f_110_6, f_110_7, p_110_7, f_110_8, p_110_8, f_110_9, p_110_9, f_110_10, p_110_10, f_110_11, p_110_11, f_110_12, p_110_12, f_110_13, p_110_13, f_110_14, f_110_15, f_110_16, p_110_16, f_110_17, f_110_18, p_110_18, f_110_19, p_110_19, f_110_20, f_110_21, p_110_21, f_110_22, p_110_22, f_110_23, f_110_24, f_110_25, p_110_25, f_110_26, f_110_27, f_110_28, f_110_29, f_110_30, f_110_31, p_110_31, f_110_32, p_110_32, f_110_33, p_110_33, f_110_34, p_110_34, f_110_35, f_110_36, f_110_37, f_110_38, Option.some.injEq, exists_eq_left', exists_eq_left, Option.toList_some, Option.toList_none, List.cons_append, List.nil_append, true_and, and_true, Option.map_some, Option.map_none, show (10 : Int32) ≤ 20 by decide, if_true, x_nb1, Option.isSome_some, b01]
    exact eq_comm
/-- a row of the class at p -/
def rowC (s : xS) (p m : Nat) (f : Nat → Int64) : Prop := s.1 (77 + 2 * p) 0 = 1 ∧ s.1 (77 + 2 * p) 2 = nI m ∧ ∀ j, j < 60 → s.2 (78 + 2 * p) j = f j
theorem rowC.at {s s' : xS} {p m : Nat} {f : Nat → Int64} (h : rowC s p m f) (h1 : s'.1 (77 + 2 * p) = s.1 (77 + 2 * p)) (h2 : s'.2 = s.2) : rowC s' p m f := by
  unfold rowC at *
  rw [h1, h2]
  exact h
def rowR (s : xS) (p m : Nat) (f : Nat → Int64) : Prop := s.1 127 p = nI m ∧ ∀ j, j < 60 → s.2 129 (60 * p + j) = f j
theorem rowR.at {s s' : xS} {p m : Nat} {f : Nat → Int64} (h : rowR s p m f) (h1 : offR s s') : rowR s' p m f := by
  unfold rowR at *
  rw [h1.1 127 (by omega) (by omega) (by omega), h1.2.2]
  exact h
def allA (T : Tw) (f : Nat → Int64) (m : Nat) : Bool := (frst (fun i => !actL T (f i)) 0 m).isNone
theorem allA_t {T : Tw} {f : Nat → Int64} {m : Nat} (h : allA T f m = true) {i : Nat} (hi : i < m) : actL T (f i) = true := by
  unfold allA at h
  have h2 : frst (fun i => !actL T (f i)) 0 m = none := by simpa using h
  have := frst_none h2 i (by omega) (by omega)
  simpa using this
theorem m_isOfActs (hd : 2 ≤ d) (hT : clsT s 3 T) {p m : Nat} {f : Nat → Int64} (hp : p < 4) (hm : m ≤ 60) (hr : rowC s p m f) : x_ev g_M P d 12 [.ref 65, .ref (77 + 2 * p)] (mkH xs s) q ↔ q = (some (.int (b01 (allA T f m))), mkH xs s) := by
  have h66 : 66 ∈ g_SP := by decide
  obtain ⟨r1, r2, r3⟩ := hr
  obtain ⟨d, rfl⟩ := x_1 (d := d) (by omega)
  rw [x_ev_in rfl (Nat.le_of_ble_eq_true rfl)]
  rw [show x_ent (x_nL g_M 12) [.ref 65, .ref (77 + 2 * p)] = [some (.ref 65), some (.ref (77 + 2 * p)), none] from rfl]
  rw [w_Minutes_isOfActs_0]
  have key := x_fstI (C := x_ev g_M P d) (k := 12) (r := q) (N := m) (H := mkH xs s) (f := fun i => !actL T (f i)) (e := 1) (g := fun _ => 0) (F := fun i => (2, [some (.ref 65), some (.ref (77 + 2 * p)), some (.int (nI i))], [], mkH xs s)) (fun i hi hf => by
    have hc : ¬ nI m ≤ nI i := nI_ge hi (by omega)
    have hx : x_rd (s.2 (78 + 2 * p)) 60 (nI i) = some (f i) := by rw [x_rd_nI (by omega) (by omega), r3 i (by omega)]
    have hf2 : actL T (f i) = true := by simpa using hf
    simp only [w_Minutes_isOfActs_0, w_Minutes_isOfActs_7, w_Minutes_isOfActs_10, w_Minutes_isOfActs_14, w_Minutes_isOfActs_18, w_Minutes_isOfActs_20, w_Minutes_isOfActs_23, w_Minutes_isOfActs_26, w_Minutes_isOfActs_28, w_Minutes_isOfActs_34, w_Minutes_isOfActs_2 (l2 := nI i), c_65, f_65_0, f_65_1, c_66, f_66_0, f_66_1, p_66_1, f_66_2, p_66_2, f_66_3, p_66_3, f_66_4, p_66_4, f_66_5, f_66_6, sl_2 hp, sl_3 hp, sl_e hp, Option.some.injEq, exists_eq_left', exists_eq_left, Option.toList_some, Option.toList_none, List.cons_append, List.nil_append, true_and, and_true, Option.map_some, Option.map_none, r2, hc, if_false, hx, s_isAct (d := d) (by omega) h66 hT, hf2, b01, if_true, show ¬ ((1 : Int32) = 0) by decide, not_false_eq_true, nI_1]) (fun i hi hf => by
    have hc : ¬ nI m ≤ nI i := nI_ge hi (by omega)
    have hx : x_rd (s.2 (78 + 2 * p)) 60 (nI i) = some (f i) := by rw [x_rd_nI (by omega) (by omega), r3 i (by omega)]
    have hf2 : actL T (f i) = false := by simpa using hf
    simp only [w_Minutes_isOfActs_0, w_Minutes_isOfActs_7, w_Minutes_isOfActs_10, w_Minutes_isOfActs_14, w_Minutes_isOfActs_18, w_Minutes_isOfActs_20, w_Minutes_isOfActs_23, w_Minutes_isOfActs_26, w_Minutes_isOfActs_28, w_Minutes_isOfActs_34, w_Minutes_isOfActs_2 (l2 := nI i), c_65, f_65_0, f_65_1, c_66, f_66_0, f_66_1, p_66_1, f_66_2, p_66_2, f_66_3, p_66_3, f_66_4, p_66_4, f_66_5, f_66_6, sl_2 hp, sl_3 hp, sl_e hp, Option.some.injEq, exists_eq_left', exists_eq_left, Option.toList_some, Option.toList_none, List.cons_append, List.nil_append, true_and, and_true, Option.map_some, Option.map_none, r2, hc, if_false, hx, s_isAct (d := d) (by omega) h66 hT, hf2, b01, Bool.false_eq_true, not_true_eq_false, x_nb0]
    exact eq_comm) (by
    simp only [w_Minutes_isOfActs_0, w_Minutes_isOfActs_7, w_Minutes_isOfActs_10, w_Minutes_isOfActs_14, w_Minutes_isOfActs_18, w_Minutes_isOfActs_20, w_Minutes_isOfActs_23, w_Minutes_isOfActs_26, w_Minutes_isOfActs_28, w_Minutes_isOfActs_34, w_Minutes_isOfActs_2 (l2 := nI m), c_65, f_65_0, f_65_1, sl_2 hp, Option.some.injEq, exists_eq_left', exists_eq_left, Option.toList_some, Option.toList_none, List.cons_append, List.nil_append, true_and, and_true, Option.map_some, Option.map_none, r2, show nI m ≤ nI m from Int32.le_refl _, if_true, x_nb1]
    exact eq_comm)
  refine key.trans ?_
  unfold allA b01
  cases frst (fun i => !actL T (f i)) 0 m <;> simp
theorem m_takeL (hd : 4 ≤ d) (hK : tOk T) {p m nn : Nat} {f : Nat → Int64} (hp : p < 4) (hm : m ≤ 60) (hnn : nn < 2 ^ 31) : ∀ (n i : Nat) (s : xS) (A : As), i + n = min nn m → clsT s 3 T → clsS s 66 T A → aWf T A → rowC s p m f →
    ∃ s', x_R (x_ev g_M P d) 16 (9, [some (.ref 65), some (.ref (77 + 2 * p)), some (.int (nI nn)), some (.int (nI i))], [], mkH xs s) (some (.int (nI (runF T f i n A).1)), mkH xs s') ∧ off3 s s' 66 ∧ clsS s' 66 T (runF T f i n A).2 := by
  have h66 : 66 ∈ g_SP := by decide
  have hW := hK.1
  intro n
  induction n with
  | zero =>
    intro i s A hi hT hA hAw hr
    refine ⟨s, ?_, off3.rf, hA⟩
    obtain ⟨r1, r2, r3⟩ := hr
    by_cases hc : nn ≤ i
    · simp only [w_Minutes_takeFirst_0, w_Minutes_takeFirst_4, w_Minutes_takeFirst_7, w_Minutes_takeFirst_14, w_Minutes_takeFirst_19, w_Minutes_takeFirst_22, w_Minutes_takeFirst_26, w_Minutes_takeFirst_30, w_Minutes_takeFirst_32, w_Minutes_takeFirst_36, w_Minutes_takeFirst_39, w_Minutes_takeFirst_45, w_Minutes_takeFirst_9 (l3 := nI i), nI_le hc (show i < 2 ^ 31 by omega), if_true, runF]
    · have h1 : ¬ nI nn ≤ nI i := nI_ge (by omega) hnn
      have h2 : nI m ≤ nI i := nI_le (by omega) (by omega)
      simp only [w_Minutes_takeFirst_0, w_Minutes_takeFirst_4, w_Minutes_takeFirst_7, w_Minutes_takeFirst_14, w_Minutes_takeFirst_19, w_Minutes_takeFirst_22, w_Minutes_takeFirst_26, w_Minutes_takeFirst_30, w_Minutes_takeFirst_32, w_Minutes_takeFirst_36, w_Minutes_takeFirst_39, w_Minutes_takeFirst_45, w_Minutes_takeFirst_9 (l3 := nI i), h1, h2, if_true, if_false, sl_2 hp, Option.some.injEq, exists_eq_left', exists_eq_left, Option.toList_some, Option.toList_none, List.cons_append, List.nil_append, true_and, and_true, Option.map_some, Option.map_none, r2, runF]
  | succ n ih =>
    intro i s A hi hT hA hAw hr
    have h1 : ¬ nI nn ≤ nI i := nI_ge (by omega) hnn
    have h2 : ¬ nI m ≤ nI i := nI_ge (by omega) (by omega)
    obtain ⟨s1, q1, q2, q3⟩ := s_take (P := P) (d := d) (xs := xs) hd h66 hT hW hA hAw (f i).toInt32
    obtain ⟨r1, r2, r3⟩ := id hr
    have hx : x_rd (s.2 (78 + 2 * p)) 60 (nI i) = some (f i) := by rw [x_rd_nI (by omega) (by omega), r3 i (by omega)]
    rw [runF]
    cases hB : aTake T A (f i).toInt32 with
    | none =>
      rw [hB] at q1 q3
      refine ⟨s1, ?_, q2, q3⟩
      simp only [w_Minutes_takeFirst_0, w_Minutes_takeFirst_4, w_Minutes_takeFirst_7, w_Minutes_takeFirst_14, w_Minutes_takeFirst_19, w_Minutes_takeFirst_22, w_Minutes_takeFirst_26, w_Minutes_takeFirst_30, w_Minutes_takeFirst_32, w_Minutes_takeFirst_36, w_Minutes_takeFirst_39, w_Minutes_takeFirst_45, w_Minutes_takeFirst_9 (l3 := nI i), h1, h2, if_false, c_65, f_65_0, f_65_1, c_66, f_66_0, f_66_1, p_66_1, f_66_2, p_66_2, f_66_3, p_66_3, f_66_4, p_66_4, f_66_5, f_66_6, sl_2 hp, sl_3 hp, sl_e hp, Option.some.injEq, exists_eq_left', exists_eq_left, Option.toList_some, Option.toList_none, List.cons_append, List.nil_append, true_and, and_true, Option.map_some, Option.map_none, r2, hx, x_ev_iff q1, Option.isSome_none, Bool.false_eq_true, if_true]
    | some B =>
      rw [hB] at q1 q3
      obtain ⟨s2, z1, z2, z3⟩ := ih (i + 1) s1 B (by omega) (q2.T h66 hT) q3 (aWf_take hW hAw hB) (hr.at (q2.1 _ (by omega) (by omega) (by omega)) q2.2)
      refine ⟨s2, ?_, q2.tr z2, z3⟩
      simp only [w_Minutes_takeFirst_0, w_Minutes_takeFirst_4, w_Minutes_takeFirst_7, w_Minutes_takeFirst_14, w_Minutes_takeFirst_19, w_Minutes_takeFirst_22, w_Minutes_takeFirst_26, w_Minutes_takeFirst_30, w_Minutes_takeFirst_32, w_Minutes_takeFirst_36, w_Minutes_takeFirst_39, w_Minutes_takeFirst_45, w_Minutes_takeFirst_9 (l3 := nI i), h1, h2, if_false, c_65, f_65_0, f_65_1, c_66, f_66_0, f_66_1, p_66_1, f_66_2, p_66_2, f_66_3, p_66_3, f_66_4, p_66_4, f_66_5, f_66_6, sl_2 hp, sl_3 hp, sl_e hp, Option.some.injEq, exists_eq_left', exists_eq_left, Option.toList_some, Option.toList_none, List.cons_append, List.nil_append, true_and, and_true, Option.map_some, Option.map_none, r2, hx, x_ev_iff q1, Option.isSome_some, if_true, show ¬ ((1 : Int32) = 0) by decide, nI_1]
      exact z1
theorem m_takeFirst (hd : 5 ≤ d) (hK : tOk T) {p m nn : Nat} {f : Nat → Int64} (hp : p < 4) (hm : m ≤ 60) (hnn : nn < 2 ^ 31) (hT : clsT s 3 T) (hr : rowC s p m f) : ∃ s', x_ev g_M P d 16 [.ref 65, .ref (77 + 2 * p), .int (nI nn)] (mkH xs s) (some (.int (nI (runF T f 0 (min nn m) (aBegin T)).1)), mkH xs s') ∧ off3 s s' 66 ∧ clsS s' 66 T (runF T f 0 (min nn m) (aBegin T)).2 := by
  have h66 : 66 ∈ g_SP := by decide
  obtain ⟨d, rfl⟩ := x_1 (d := d) (by omega)
  obtain ⟨s1, q1, q2, q3⟩ := s_begin (P := P) (d := d) (xs := xs) (by omega) h66 hT hK.1
  obtain ⟨s2, z1, z2, z3⟩ := m_takeL (P := P) (d := d) (xs := xs) (by omega) hK hp hm hnn (min nn m) 0 s1 (aBegin T) (by omega) (q2.T h66 hT) q3 aWf_begin (hr.at (q2.1 _ (by omega) (by omega) (by omega)) q2.2)
  refine ⟨s2, ?_, q2.tr z2, z3⟩
  rw [x_ev_in rfl (Nat.le_of_ble_eq_true rfl)]
  rw [show x_ent (x_nL g_M 16) [.ref 65, .ref (77 + 2 * p), .int (nI nn)] = [some (.ref 65), some (.ref (77 + 2 * p)), some (.int (nI nn)), none] from rfl]
  simp only [w_Minutes_takeFirst_0, w_Minutes_takeFirst_4, w_Minutes_takeFirst_7, w_Minutes_takeFirst_14, w_Minutes_takeFirst_19, w_Minutes_takeFirst_22, w_Minutes_takeFirst_26, w_Minutes_takeFirst_30, w_Minutes_takeFirst_32, w_Minutes_takeFirst_36, w_Minutes_takeFirst_39, w_Minutes_takeFirst_45, c_65, f_65_0, f_65_1, c_66, f_66_0, f_66_1, p_66_1, f_66_2, p_66_2, f_66_3, p_66_3, f_66_4, p_66_4, f_66_5, f_66_6, Option.some.injEq, exists_eq_left', exists_eq_left, Option.toList_some, Option.toList_none, List.cons_append, List.nil_append, true_and, and_true, Option.map_some, Option.map_none, x_ev_iff q1]
  exact z1
theorem r_numberAt (hd : 1 ≤ d) {p m i : Nat} {f : Nat → Int64} (hp : p < 4) (hi : i < 60) (hr : rowR s p m f) : x_ev g_M P d 313 [.ref 110, .int (nI p), .int (nI i)] (mkH xs s) q ↔ q = (some (.long (f i)), mkH xs s) := by
  have ei : 60 * nI p + nI i = nI (60 * p + i) := by rw [show (60 : Int32) = nI 60 from rfl, pk_mul, nI_add]
  have hx : x_rd (s.2 129) 240 (nI (60 * p + i)) = some (f i) := by rw [x_rd_nI (by omega) (by omega), hr.2 i hi]
  obtain ⟨d, rfl⟩ := x_1 (d := d) (by omega)
  rw [x_ev_in rfl (Nat.le_of_ble_eq_true rfl)]
  rw [show x_ent (x_nL g_M 313) [.ref 110, .int (nI p), .int (nI i)] = [some (.ref 110), some (.int (nI p)), some (.int (nI i))] from rfl]
  simp only [w_Ref_numberAt_0, w_Ref_numberAt_4, w_Ref_numberAt_11, c_110, f_110_0, p_110_0, f_110_1, f_110_2, f_110_3, f_110_4, f_110_5, p_110_5, f_110_6, f_110_7, p_110_7, f_110_8, p_110_8, f_110_9, p_110_9, f_110_10, p_110_10, f_110_11, p_110_11, f_110_12, p_110_12, f_110_13, p_110_13, f_110_14, f_110_15, f_110_16, p_110_16, f_110_17, f_110_18, p_110_18, f_110_19, p_110_19, f_110_20, f_110_21, p_110_21, f_110_22, p_110_22, f_110_23, f_110_24, f_110_25, p_110_25, f_110_26, f_110_27, f_110_28, f_110_29, f_110_30, f_110_31, p_110_31, f_110_32, p_110_32, f_110_33, p_110_33, f_110_34, p_110_34, f_110_35, f_110_36, f_110_37, f_110_38, e_129, i_129, Option.some.injEq, exists_eq_left', exists_eq_left, Option.toList_some, Option.toList_none, List.cons_append, List.nil_append, true_and, and_true, Option.map_some, Option.map_none, ei, hx]
  exact eq_comm
theorem r_goL2 (hd : 8 ≤ d) (hK : tOk T) {p m nn : Nat} {f : Nat → Int64} (hp : p < 4) (hm : m ≤ 60) (hnn : nn < 2 ^ 31) (ha : allA T f m = true) : ∀ (n i : Nat) (s : xS) (A : As) (o : Option Value), i + n = min nn m → refT s 111 0 T → refS s T A → aOk T A → rowR s p m f →
    ∃ s', x_R (x_ev g_M P d) 315 (6, [some (.ref 110), some (.int (nI p)), some (.int (nI nn)), some (.int (nI i)), o], [], mkH xs s) (some (.int (nI (runF T f i n A).1)), mkH xs s') ∧ offR s s' ∧ refS s' T (runF T f i n A).2 := by
  have hW := hK.1
  intro n
  induction n with
  | zero =>
    intro i s A o hi hT hA hO hr
    refine ⟨s, ?_, offR.rf, hA⟩
    have hx : x_rd (s.1 127) 4 (nI p) = some (nI m) := by rw [x_rd_nI hp (by omega), hr.1]
    have em : (if nI m < nI nn then nI m else nI nn) = nI i := by
      by_cases h1 : m < nn
      · rw [if_pos (nI_lt h1 hnn), show i = m by omega]
      · rw [if_neg (nI_nlt (by omega) (by omega)), show i = nn by omega]
    by_cases hc : nn ≤ i
    · simp only [w_Ref_goBy_0, w_Ref_goBy_4, w_Ref_goBy_11, w_Ref_goBy_16, w_Ref_goBy_18, w_Ref_goBy_21, w_Ref_goBy_27, w_Ref_goBy_36, w_Ref_goBy_39, w_Ref_goBy_41, w_Ref_goBy_47, w_Ref_goBy_53, w_Ref_goBy_58, w_Ref_goBy_60, w_Ref_goBy_6 (l3 := nI i), nI_le hc (show i < 2 ^ 31 by omega), if_true, c_110, f_110_0, p_110_0, f_110_1, f_110_2, f_110_3, f_110_4, f_110_5, p_110_5, f_110_6, f_110_7, p_110_7, f_110_8, p_110_8, f_110_9, p_110_9, f_110_10, p_110_10, f_110_11, p_110_11, f_110_12, p_110_12, f_110_13, p_110_13, f_110_14, f_110_15, f_110_16, p_110_16, f_110_17, f_110_18, p_110_18, f_110_19, p_110_19, f_110_20, f_110_21, p_110_21, f_110_22, p_110_22, f_110_23, f_110_24, f_110_25, p_110_25, f_110_26, f_110_27, f_110_28, f_110_29, f_110_30, f_110_31, p_110_31, f_110_32, p_110_32, f_110_33, p_110_33, f_110_34, p_110_34, f_110_35, f_110_36, f_110_37, f_110_38, e_127, i_127, Option.some.injEq, exists_eq_left', exists_eq_left, Option.toList_some, Option.toList_none, List.cons_append, List.nil_append, true_and, and_true, Option.map_some, Option.map_none, hx, em, runF]
    · have h1 : ¬ nI nn ≤ nI i := nI_ge (by omega) hnn
      have h2 : nI m ≤ nI i := nI_le (by omega) (by omega)
      simp only [w_Ref_goBy_0, w_Ref_goBy_4, w_Ref_goBy_11, w_Ref_goBy_16, w_Ref_goBy_18, w_Ref_goBy_21, w_Ref_goBy_27, w_Ref_goBy_36, w_Ref_goBy_39, w_Ref_goBy_41, w_Ref_goBy_47, w_Ref_goBy_53, w_Ref_goBy_58, w_Ref_goBy_60, w_Ref_goBy_6 (l3 := nI i), h1, h2, if_true, if_false, c_110, f_110_0, p_110_0, f_110_1, f_110_2, f_110_3, f_110_4, f_110_5, p_110_5, f_110_6, f_110_7, p_110_7, f_110_8, p_110_8, f_110_9, p_110_9, f_110_10, p_110_10, f_110_11, p_110_11, f_110_12, p_110_12, f_110_13, p_110_13, f_110_14, f_110_15, f_110_16, p_110_16, f_110_17, f_110_18, p_110_18, f_110_19, p_110_19, f_110_20, f_110_21, p_110_21, f_110_22, p_110_22, f_110_23, f_110_24, f_110_25, p_110_25, f_110_26, f_110_27, f_110_28, f_110_29, f_110_30, f_110_31, p_110_31, f_110_32, p_110_32, f_110_33, p_110_33, f_110_34, p_110_34, f_110_35, f_110_36, f_110_37, f_110_38, e_127, i_127, Option.some.injEq, exists_eq_left', exists_eq_left, Option.toList_some, Option.toList_none, List.cons_append, List.nil_append, true_and, and_true, Option.map_some, Option.map_none, hx, em, runF]
  | succ n ih =>
    intro i s A o hi hT hA hO hr
    have h1 : ¬ nI nn ≤ nI i := nI_ge (by omega) hnn
    have h2 : ¬ nI m ≤ nI i := nI_ge (by omega) (by omega)
    have hx : x_rd (s.1 127) 4 (nI p) = some (nI m) := by rw [x_rd_nI hp (by omega), hr.1]
    have hv := allA_t ha (i := i) (by omega)
    rw [runF]
    cases hB : aTake T A (f i).toInt32 with
    | none =>
      refine ⟨s, ?_, offR.rf, hA⟩
      simp only [w_Ref_goBy_0, w_Ref_goBy_4, w_Ref_goBy_11, w_Ref_goBy_16, w_Ref_goBy_18, w_Ref_goBy_21, w_Ref_goBy_27, w_Ref_goBy_36, w_Ref_goBy_39, w_Ref_goBy_41, w_Ref_goBy_47, w_Ref_goBy_53, w_Ref_goBy_58, w_Ref_goBy_60, w_Ref_goBy_6 (l3 := nI i), h1, h2, if_false, c_110, f_110_0, p_110_0, f_110_1, f_110_2, f_110_3, f_110_4, f_110_5, p_110_5, f_110_6, f_110_7, p_110_7, f_110_8, p_110_8, f_110_9, p_110_9, f_110_10, p_110_10, f_110_11, p_110_11, f_110_12, p_110_12, f_110_13, p_110_13, f_110_14, f_110_15, f_110_16, p_110_16, f_110_17, f_110_18, p_110_18, f_110_19, p_110_19, f_110_20, f_110_21, p_110_21, f_110_22, p_110_22, f_110_23, f_110_24, f_110_25, p_110_25, f_110_26, f_110_27, f_110_28, f_110_29, f_110_30, f_110_31, p_110_31, f_110_32, p_110_32, f_110_33, p_110_33, f_110_34, p_110_34, f_110_35, f_110_36, f_110_37, f_110_38, e_127, i_127, Option.some.injEq, exists_eq_left', exists_eq_left, Option.toList_some, Option.toList_none, List.cons_append, List.nil_append, true_and, and_true, Option.map_some, Option.map_none, hx, r_numberAt (d := d) (by omega) hp (show i < 60 by omega) hr, r_canAct (d := d) (by omega) hT hW hA hO hv, hB, Option.isSome_none, b01, Bool.false_eq_true, not_true_eq_false]
    | some B =>
      obtain ⟨s1, q1, q2, q3⟩ := r_act0 (P := P) (d := d) (xs := xs) (by omega) hT hW hA hO.1 hB
      obtain ⟨s2, z1, z2, z3⟩ := ih (i + 1) s1 B (some (.int (f i).toInt32)) (by omega) (q2.T hT) q3 (aOk_take hK hO hB) (hr.at q2)
      refine ⟨s2, ?_, q2.tr z2, z3⟩
      simp only [w_Ref_goBy_0, w_Ref_goBy_4, w_Ref_goBy_11, w_Ref_goBy_16, w_Ref_goBy_18, w_Ref_goBy_21, w_Ref_goBy_27, w_Ref_goBy_36, w_Ref_goBy_39, w_Ref_goBy_41, w_Ref_goBy_47, w_Ref_goBy_53, w_Ref_goBy_58, w_Ref_goBy_60, w_Ref_goBy_6 (l3 := nI i), h1, h2, if_false, c_110, f_110_0, p_110_0, f_110_1, f_110_2, f_110_3, f_110_4, f_110_5, p_110_5, f_110_6, f_110_7, p_110_7, f_110_8, p_110_8, f_110_9, p_110_9, f_110_10, p_110_10, f_110_11, p_110_11, f_110_12, p_110_12, f_110_13, p_110_13, f_110_14, f_110_15, f_110_16, p_110_16, f_110_17, f_110_18, p_110_18, f_110_19, p_110_19, f_110_20, f_110_21, p_110_21, f_110_22, p_110_22, f_110_23, f_110_24, f_110_25, p_110_25, f_110_26, f_110_27, f_110_28, f_110_29, f_110_30, f_110_31, p_110_31, f_110_32, p_110_32, f_110_33, p_110_33, f_110_34, p_110_34, f_110_35, f_110_36, f_110_37, f_110_38, e_127, i_127, Option.some.injEq, exists_eq_left', exists_eq_left, Option.toList_some, Option.toList_none, List.cons_append, List.nil_append, true_and, and_true, Option.map_some, Option.map_none, hx, r_numberAt (d := d) (by omega) hp (show i < 60 by omega) hr, r_canAct (d := d) (by omega) hT hW hA hO hv, hB, Option.isSome_some, b01, if_true, show ¬ ((1 : Int32) = 0) by decide, not_false_eq_true, x_ev_iff q1, nI_1]
      exact z1
theorem r_goBy (hd : 9 ≤ d) (hK : tOk T) {p m nn : Nat} {f : Nat → Int64} (hp : p < 4) (hm : m ≤ 60) (hnn : nn < 2 ^ 31) (ha : allA T f m = true) (hT : refT s 111 0 T) (hr : rowR s p m f) : ∃ s', x_ev g_M P d 315 [.ref 110, .int (nI p), .int (nI nn)] (mkH xs s) (some (.int (nI (runF T f 0 (min nn m) (aBegin T)).1)), mkH xs s') ∧ offR s s' ∧ refS s' T (runF T f 0 (min nn m) (aBegin T)).2 := by
  obtain ⟨d, rfl⟩ := x_1 (d := d) (by omega)
  obtain ⟨s1, q1, q2, q3⟩ := r_beAtFirst (P := P) (d := d) (xs := xs) (by omega) hT hK.1
  obtain ⟨s2, z1, z2, z3⟩ := r_goL2 (P := P) (d := d) (xs := xs) (by omega) hK hp hm hnn ha (min nn m) 0 s1 (aBegin T) none (by omega) (q2.T hT) q3 (aOk_begin hK) (hr.at q2)
  refine ⟨s2, ?_, q2.tr z2, z3⟩
  rw [x_ev_in rfl (Nat.le_of_ble_eq_true rfl)]
  rw [show x_ent (x_nL g_M 315) [.ref 110, .int (nI p), .int (nI nn)] = [some (.ref 110), some (.int (nI p)), some (.int (nI nn)), none, none] from rfl]
  simp only [w_Ref_goBy_0, w_Ref_goBy_4, w_Ref_goBy_11, w_Ref_goBy_16, w_Ref_goBy_18, w_Ref_goBy_21, w_Ref_goBy_27, w_Ref_goBy_36, w_Ref_goBy_39, w_Ref_goBy_41, w_Ref_goBy_47, w_Ref_goBy_53, w_Ref_goBy_58, w_Ref_goBy_60, c_110, f_110_0, p_110_0, f_110_1, f_110_2, f_110_3, f_110_4, f_110_5, p_110_5, f_110_6, f_110_7, p_110_7, f_110_8, p_110_8, f_110_9, p_110_9, f_110_10, p_110_10, f_110_11, p_110_11, f_110_12, p_110_12, f_110_13, p_110_13, f_110_14, f_110_15, f_110_16, p_110_16, f_110_17, f_110_18, p_110_18, f_110_19, p_110_19, f_110_20, f_110_21, p_110_21, f_110_22, p_110_22, f_110_23, f_110_24, f_110_25, p_110_25, f_110_26, f_110_27, f_110_28, f_110_29, f_110_30, f_110_31, p_110_31, f_110_32, p_110_32, f_110_33, p_110_33, f_110_34, p_110_34, f_110_35, f_110_36, f_110_37, f_110_38, Option.some.injEq, exists_eq_left', exists_eq_left, Option.toList_some, Option.toList_none, List.cons_append, List.nil_append, true_and, and_true, Option.map_some, Option.map_none, x_ev_iff q1]
  exact z1
end MIN
