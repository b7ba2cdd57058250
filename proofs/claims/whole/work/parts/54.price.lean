/-! price, mark (own work) -/
def tSetG (T : Tw) (m k : Nat) (n : Int32) : Tw := (T.1, T.2.1, (fun a b => if a = m ∧ b = k then n else tGa T a b), T.2.2.2)
def tSetD (T : Tw) (m : Nat) (b : Bool) : Tw := (T.1, T.2.1, T.2.2.1, T.2.2.2.1, (fun a => if a = m then b else tDry T a), T.2.2.2.2.2)
def tSetJ (T : Tw) (m : Nat) (b : Bool) : Tw := (T.1, T.2.1, T.2.2.1, T.2.2.2.1, T.2.2.2.2.1, (fun a => if a = m then b else tJug T a), T.2.2.2.2.2.2)
theorem tOk_G {T : Tw} {m k : Nat} {n : Int32} (h : tOk T) (h1 : -99 ≤ n) (h2 : n ≤ 99) : tOk (tSetG T m k n) := by
  obtain ⟨a, b, c, d, e, f, g⟩ := h
  refine ⟨a, b, c, d, e, fun m' hm' k' hk' => ?_, g⟩
  show -99 ≤ (if m' = m ∧ k' = k then n else tGa T m' k') ∧ (if m' = m ∧ k' = k then n else tGa T m' k') ≤ 99
  split
  · exact ⟨h1, h2⟩
  · exact f m' hm' k' hk'
theorem tOk_D {T : Tw} {m : Nat} {b : Bool} (h : tOk T) : tOk (tSetD T m b) := h
theorem tOk_J {T : Tw} {m : Nat} {b : Bool} (h : tOk T) : tOk (tSetJ T m b) := h
theorem tGain_G {T : Tw} (hW : tWf T) {m k p' m' : Nat} {n : Int32} (hm : m < tM T) (hk : k < 2) : tGain (tSetG T m k n) p' m' = if p' = tPa T m k ∧ m' = m then n else tGain T p' m' := by
  have w3 := (hW.2.2.1 m hm).2.2
  show (if tPa T m' 0 = p' then (if m' = m ∧ 0 = k then n else tGa T m' 0) else if tPa T m' 1 = p' then (if m' = m ∧ 1 = k then n else tGa T m' 1) else 0) = _
  unfold tGain
  by_cases h1 : m' = m
  · subst h1
    rcases (show k = 0 ∨ k = 1 by omega) with rfl | rfl
    · by_cases h2 : tPa T m' 0 = p'
      · simp [h2]
      · have h3 : ¬ p' = tPa T m' 0 := fun z => h2 z.symm
        simp [h2, h3]
    · by_cases h2 : tPa T m' 0 = p'
      · subst h2
        simp [w3]
      · by_cases h3 : tPa T m' 1 = p'
        · simp [h2, h3]
        · have h4 : ¬ p' = tPa T m' 1 := fun z => h3 z.symm
          simp [h2, h3, h4]
  · simp [h1]
theorem aRun_nil {T : Tw} {l : List Int32} {A : As} (hl : l.length = 0) (h : aRun T (aBegin T) l = some A) : A = aBegin T := by
  have : l = [] := List.eq_nil_of_length_eq_zero hl
  subst this
  cases h
  rfl
theorem b_wb {x : Int32} {m i : Nat} (hm : m < 32) (hi : i < 32) {v : Nat} (hv : v ≤ 1) : bt ((x &&& (((1 : Int32) <<< (nI m &&& 31)) ^^^ (-1))) ||| (nI v <<< (nI m &&& 31))) i = if i = m then decide (v = 1) else bt x i := by
  rw [b_or, b_and, b_not hi]
  have e1 : bt ((1 : Int32) <<< (nI m &&& 31)) i = decide (i = m) := b_on hm hi
  have e2 : bt (nI v <<< (nI m &&& 31)) i = (decide (i = m) && decide (v = 1)) := by
    rcases (show v = 0 ∨ v = 1 by omega) with rfl | rfl
    · rw [b_shl m hm _ hi, nI_0, b_0]
      simp
    · have : bt (nI 1 <<< (nI m &&& 31)) i = decide (i = m) := b_on hm hi
      rw [this]
      simp
  rw [e1, e2]
  by_cases h : i = m <;> simp [h]
section PRICE
variable {P : Nat → List Value → Option Value} {W : Wd}
set_option maxHeartbeats 4000000 in
theorem k_price (h : wOk W) (x y n : Int32) : do2 P 178 330 [.int x, .int y, .int n] W := by
  have h' := h
  obtain ⟨hK, hl60, hr, hrest⟩ := h; have hW := hK.1; have hO := aOk_run hK _ _ _ (aOk_begin hK) hr; have hAw := hO.1; have w1 := hW.1; have w2 := hW.2.1; have h9 : 9 ∈ g_SP := by decide
  have e0 : y.toInt64 < 0 ↔ y < 0 := w_lt y 0
  have e1 : (1 : Int64) < y.toInt64 ↔ nI 1 < y := w_lt 1 y
  have e2 : n.toInt64 < -99 ↔ n < -99 := w_lt n (-99)
  have e3 : (99 : Int64) < n.toInt64 ↔ 99 < n := w_lt 99 n
  rcases has_cs (n := tM (wT W)) (by omega) x with h0 | ⟨m, hm, rfl, h1⟩
  · refine ask2.do h' ⟨-1000, cAsk0 ?_, rAsk0 ?_⟩
    · intro d xs s hd hC; obtain ⟨⟨hT, hA, hn, hacts⟩, -⟩ := hC
      obtain ⟨d, rfl⟩ := x_1 (d := d) (by omega)
      rw [x_ev_in rfl (Nat.le_of_ble_eq_true rfl)]
      rw [show x_ent (x_nL g_M 178) [.ref 1, .int x, .int y, .int n] = [some (.ref 1), some (.int x), some (.int y), some (.int n), none, none] from rfl]
      simp only [w_Top_price_0, w_Top_price_4, w_Top_price_8, w_Top_price_11, w_Top_price_15, w_Top_price_20, w_Top_price_26, w_Top_price_32, w_Top_price_36, w_Top_price_40, w_Top_price_43, w_Top_price_47, w_Top_price_51, w_Top_price_56, w_Top_price_62, w_Top_price_68, w_Top_price_74, w_Top_price_81, c_1, f_1_0, f_1_1, p_1_1, f_1_2, f_1_3, f_1_4, f_1_5, f_1_6, p_1_6, f_1_7, f_1_8, f_1_9, f_1_10, f_1_11, f_1_12, f_1_13, f_1_14, c_3, f_3_0, p_3_0, f_3_1, p_3_1, f_3_2, p_3_2, f_3_3, p_3_3, f_3_4, p_3_4, f_3_5, p_3_5, f_3_6, p_3_6, f_3_7, p_3_7, f_3_8, p_3_8, f_3_9, f_3_10, f_3_11, f_3_12, f_3_13, c_9, f_9_0, f_9_1, p_9_1, f_9_2, p_9_2, f_9_3, p_9_3, f_9_4, p_9_4, f_9_5, f_9_6, Option.some.injEq, exists_eq_left', exists_eq_left, Option.toList_some, Option.toList_none, List.cons_append, List.nil_append, true_and, and_true, Option.map_some, Option.map_none, t_isTold (d := d) (by omega) hT, t_hasPerson (d := d) (by omega) hT, t_hasMatter (d := d) (by omega) hT, t_hasSet (d := d) (by omega) hT hW, t_bitOf (d := d) (by omega), t_isClosed (d := d) (by omega) hT hW, t_sumOfAll (d := d) (by omega) hT hW, s_openOnes (d := d) (by omega) h9 hT hW hA, s_wishers (d := d) (by omega) h9 hT hW hA hAw, s_allCups (d := d) (by omega) h9 hT hW hA, h0, if_true]
    · intro d xs s hd hC; obtain ⟨hR, -⟩ := hC; have hT := hR.1
      obtain ⟨d, rfl⟩ := x_1 (d := d) (by omega)
      rw [x_ev_in rfl (Nat.le_of_ble_eq_true rfl)]
      rw [show x_ent (x_nL g_M 330) [.ref 110, .int x, .int y, .int n] = [some (.ref 110), some (.int x), some (.int y), some (.int n), none] from rfl]
      simp only [w_Ref_price_0, w_Ref_price_6, w_Ref_price_9, w_Ref_price_16, w_Ref_price_19, w_Ref_price_30, w_Ref_price_33, w_Ref_price_37, w_Ref_price_41, w_Ref_price_44, w_Ref_price_47, w_Ref_price_51, w_Ref_price_59, w_Ref_price_65, w_Ref_price_78, c_110, f_110_0, p_110_0, f_110_1, f_110_2, f_110_3, f_110_4, f_110_5, p_110_5, f_110_6, f_110_7, p_110_7, f_110_8, p_110_8, f_110_9, p_110_9, f_110_10, p_110_10, f_110_11, p_110_11, f_110_12, p_110_12, f_110_13, p_110_13, f_110_14, f_110_15, f_110_16, p_110_16, f_110_17, f_110_18, p_110_18, f_110_19, p_110_19, f_110_20, f_110_21, p_110_21, f_110_22, p_110_22, f_110_23, f_110_24, f_110_25, p_110_25, f_110_26, f_110_27, f_110_28, f_110_29, f_110_30, f_110_31, p_110_31, f_110_32, p_110_32, f_110_33, p_110_33, f_110_34, p_110_34, f_110_35, f_110_36, f_110_37, f_110_38, Option.some.injEq, exists_eq_left', exists_eq_left, Option.toList_some, Option.toList_none, List.cons_append, List.nil_append, true_and, and_true, Option.map_some, Option.map_none, r_isTown (d := d) (by omega) hT, r_isPerson (d := d) (by omega) hT hW, r_isMatterI (d := d) (by omega) hT hW, r_isSet (d := d) (by omega) hT hW, r_allMatters (d := d) (by omega) hT hW, r_isClosed (d := d) (by omega) hT hW, r_sumOfAll (d := d) (by omega) hT hW, r_restsOf (d := d) (by omega) hT hW, r_in (d := d) (by omega), r_bit (d := d) (by omega), r_bits (d := d) (by omega), h0, if_true]
  rcases in_cs (k := 1) (by omega) y with ⟨g0, gn⟩ | ⟨k, hk, rfl, g1⟩
  · refine ask2.do h' ⟨-1000, cAsk0 ?_, rAsk0 ?_⟩
    · intro d xs s hd hC; obtain ⟨⟨hT, hA, hn, hacts⟩, -⟩ := hC
      obtain ⟨d, rfl⟩ := x_1 (d := d) (by omega)
      rw [x_ev_in rfl (Nat.le_of_ble_eq_true rfl)]
      rw [show x_ent (x_nL g_M 178) [.ref 1, .int (nI m), .int y, .int n] = [some (.ref 1), some (.int (nI m)), some (.int y), some (.int n), none, none] from rfl]
      by_cases hy : y < 0
      · simp only [w_Top_price_0, w_Top_price_4, w_Top_price_8, w_Top_price_11, w_Top_price_15, w_Top_price_20, w_Top_price_26, w_Top_price_32, w_Top_price_36, w_Top_price_40, w_Top_price_43, w_Top_price_47, w_Top_price_51, w_Top_price_56, w_Top_price_62, w_Top_price_68, w_Top_price_74, w_Top_price_81, c_1, f_1_0, f_1_1, p_1_1, f_1_2, f_1_3, f_1_4, f_1_5, f_1_6, p_1_6, f_1_7, f_1_8, f_1_9, f_1_10, f_1_11, f_1_12, f_1_13, f_1_14, c_3, f_3_0, p_3_0, f_3_1, p_3_1, f_3_2, p_3_2, f_3_3, p_3_3, f_3_4, p_3_4, f_3_5, p_3_5, f_3_6, p_3_6, f_3_7, p_3_7, f_3_8, p_3_8, f_3_9, f_3_10, f_3_11, f_3_12, f_3_13, c_9, f_9_0, f_9_1, p_9_1, f_9_2, p_9_2, f_9_3, p_9_3, f_9_4, p_9_4, f_9_5, f_9_6, Option.some.injEq, exists_eq_left', exists_eq_left, Option.toList_some, Option.toList_none, List.cons_append, List.nil_append, true_and, and_true, Option.map_some, Option.map_none, t_isTold (d := d) (by omega) hT, t_hasPerson (d := d) (by omega) hT, t_hasMatter (d := d) (by omega) hT, t_hasSet (d := d) (by omega) hT hW, t_bitOf (d := d) (by omega), t_isClosed (d := d) (by omega) hT hW, t_sumOfAll (d := d) (by omega) hT hW, s_openOnes (d := d) (by omega) h9 hT hW hA, s_wishers (d := d) (by omega) h9 hT hW hA hAw, s_allCups (d := d) (by omega) h9 hT hW hA, h1, show ¬ ((1 : Int32) = 0) by decide, if_false, hy, if_true]
      · have hy4 : (1 : Int32) < y := by
          by_cases hz : nI 1 < y
          · exact hz
          · rw [if_neg hy, if_neg hz] at g0
            exact absurd g0 (by decide)
        simp only [w_Top_price_0, w_Top_price_4, w_Top_price_8, w_Top_price_11, w_Top_price_15, w_Top_price_20, w_Top_price_26, w_Top_price_32, w_Top_price_36, w_Top_price_40, w_Top_price_43, w_Top_price_47, w_Top_price_51, w_Top_price_56, w_Top_price_62, w_Top_price_68, w_Top_price_74, w_Top_price_81, c_1, f_1_0, f_1_1, p_1_1, f_1_2, f_1_3, f_1_4, f_1_5, f_1_6, p_1_6, f_1_7, f_1_8, f_1_9, f_1_10, f_1_11, f_1_12, f_1_13, f_1_14, c_3, f_3_0, p_3_0, f_3_1, p_3_1, f_3_2, p_3_2, f_3_3, p_3_3, f_3_4, p_3_4, f_3_5, p_3_5, f_3_6, p_3_6, f_3_7, p_3_7, f_3_8, p_3_8, f_3_9, f_3_10, f_3_11, f_3_12, f_3_13, c_9, f_9_0, f_9_1, p_9_1, f_9_2, p_9_2, f_9_3, p_9_3, f_9_4, p_9_4, f_9_5, f_9_6, Option.some.injEq, exists_eq_left', exists_eq_left, Option.toList_some, Option.toList_none, List.cons_append, List.nil_append, true_and, and_true, Option.map_some, Option.map_none, t_isTold (d := d) (by omega) hT, t_hasPerson (d := d) (by omega) hT, t_hasMatter (d := d) (by omega) hT, t_hasSet (d := d) (by omega) hT hW, t_bitOf (d := d) (by omega), t_isClosed (d := d) (by omega) hT hW, t_sumOfAll (d := d) (by omega) hT hW, s_openOnes (d := d) (by omega) h9 hT hW hA, s_wishers (d := d) (by omega) h9 hT hW hA hAw, s_allCups (d := d) (by omega) h9 hT hW hA, h1, show ¬ ((1 : Int32) = 0) by decide, if_false, hy, hy4, if_true]
    · intro d xs s hd hC; obtain ⟨hR, -⟩ := hC; have hT := hR.1
      obtain ⟨d, rfl⟩ := x_1 (d := d) (by omega)
      rw [x_ev_in rfl (Nat.le_of_ble_eq_true rfl)]
      rw [show x_ent (x_nL g_M 330) [.ref 110, .int (nI m), .int y, .int n] = [some (.ref 110), some (.int (nI m)), some (.int y), some (.int n), none] from rfl]
      simp only [w_Ref_price_0, w_Ref_price_6, w_Ref_price_9, w_Ref_price_16, w_Ref_price_19, w_Ref_price_30, w_Ref_price_33, w_Ref_price_37, w_Ref_price_41, w_Ref_price_44, w_Ref_price_47, w_Ref_price_51, w_Ref_price_59, w_Ref_price_65, w_Ref_price_78, c_110, f_110_0, p_110_0, f_110_1, f_110_2, f_110_3, f_110_4, f_110_5, p_110_5, f_110_6, f_110_7, p_110_7, f_110_8, p_110_8, f_110_9, p_110_9, f_110_10, p_110_10, f_110_11, p_110_11, f_110_12, p_110_12, f_110_13, p_110_13, f_110_14, f_110_15, f_110_16, p_110_16, f_110_17, f_110_18, p_110_18, f_110_19, p_110_19, f_110_20, f_110_21, p_110_21, f_110_22, p_110_22, f_110_23, f_110_24, f_110_25, p_110_25, f_110_26, f_110_27, f_110_28, f_110_29, f_110_30, f_110_31, p_110_31, f_110_32, p_110_32, f_110_33, p_110_33, f_110_34, p_110_34, f_110_35, f_110_36, f_110_37, f_110_38, Option.some.injEq, exists_eq_left', exists_eq_left, Option.toList_some, Option.toList_none, List.cons_append, List.nil_append, true_and, and_true, Option.map_some, Option.map_none, r_isTown (d := d) (by omega) hT, r_isPerson (d := d) (by omega) hT hW, r_isMatterI (d := d) (by omega) hT hW, r_isSet (d := d) (by omega) hT hW, r_allMatters (d := d) (by omega) hT hW, r_isClosed (d := d) (by omega) hT hW, r_sumOfAll (d := d) (by omega) hT hW, r_restsOf (d := d) (by omega) hT hW, r_in (d := d) (by omega), r_bit (d := d) (by omega), r_bits (d := d) (by omega), h1, show ¬ ((1 : Int32) = 0) by decide, if_false, e0, e1, g0, if_true]
  have k1 : ¬ nI k < 0 := nI_pos (by omega)
  have k2 : ¬ (1 : Int32) < nI k := nI_nlt (b := k) (a := 1) (by omega) (by omega)
  by_cases hn1 : n < -99
  · refine ask2.do h' ⟨-1000, cAsk0 ?_, rAsk0 ?_⟩
    · intro d xs s hd hC; obtain ⟨⟨hT, hA, hn, hacts⟩, -⟩ := hC
      obtain ⟨d, rfl⟩ := x_1 (d := d) (by omega)
      rw [x_ev_in rfl (Nat.le_of_ble_eq_true rfl)]
      rw [show x_ent (x_nL g_M 178) [.ref 1, .int (nI m), .int (nI k), .int n] = [some (.ref 1), some (.int (nI m)), some (.int (nI k)), some (.int n), none, none] from rfl]
      simp only [w_Top_price_0, w_Top_price_4, w_Top_price_8, w_Top_price_11, w_Top_price_15, w_Top_price_20, w_Top_price_26, w_Top_price_32, w_Top_price_36, w_Top_price_40, w_Top_price_43, w_Top_price_47, w_Top_price_51, w_Top_price_56, w_Top_price_62, w_Top_price_68, w_Top_price_74, w_Top_price_81, c_1, f_1_0, f_1_1, p_1_1, f_1_2, f_1_3, f_1_4, f_1_5, f_1_6, p_1_6, f_1_7, f_1_8, f_1_9, f_1_10, f_1_11, f_1_12, f_1_13, f_1_14, c_3, f_3_0, p_3_0, f_3_1, p_3_1, f_3_2, p_3_2, f_3_3, p_3_3, f_3_4, p_3_4, f_3_5, p_3_5, f_3_6, p_3_6, f_3_7, p_3_7, f_3_8, p_3_8, f_3_9, f_3_10, f_3_11, f_3_12, f_3_13, c_9, f_9_0, f_9_1, p_9_1, f_9_2, p_9_2, f_9_3, p_9_3, f_9_4, p_9_4, f_9_5, f_9_6, Option.some.injEq, exists_eq_left', exists_eq_left, Option.toList_some, Option.toList_none, List.cons_append, List.nil_append, true_and, and_true, Option.map_some, Option.map_none, t_isTold (d := d) (by omega) hT, t_hasPerson (d := d) (by omega) hT, t_hasMatter (d := d) (by omega) hT, t_hasSet (d := d) (by omega) hT hW, t_bitOf (d := d) (by omega), t_isClosed (d := d) (by omega) hT hW, t_sumOfAll (d := d) (by omega) hT hW, s_openOnes (d := d) (by omega) h9 hT hW hA, s_wishers (d := d) (by omega) h9 hT hW hA hAw, s_allCups (d := d) (by omega) h9 hT hW hA, h1, show ¬ ((1 : Int32) = 0) by decide, if_false, k1, k2, hn1, if_true]
    · intro d xs s hd hC; obtain ⟨hR, -⟩ := hC; have hT := hR.1
      obtain ⟨d, rfl⟩ := x_1 (d := d) (by omega)
      rw [x_ev_in rfl (Nat.le_of_ble_eq_true rfl)]
      rw [show x_ent (x_nL g_M 330) [.ref 110, .int (nI m), .int (nI k), .int n] = [some (.ref 110), some (.int (nI m)), some (.int (nI k)), some (.int n), none] from rfl]
      simp only [w_Ref_price_0, w_Ref_price_6, w_Ref_price_9, w_Ref_price_16, w_Ref_price_19, w_Ref_price_30, w_Ref_price_33, w_Ref_price_37, w_Ref_price_41, w_Ref_price_44, w_Ref_price_47, w_Ref_price_51, w_Ref_price_59, w_Ref_price_65, w_Ref_price_78, c_110, f_110_0, p_110_0, f_110_1, f_110_2, f_110_3, f_110_4, f_110_5, p_110_5, f_110_6, f_110_7, p_110_7, f_110_8, p_110_8, f_110_9, p_110_9, f_110_10, p_110_10, f_110_11, p_110_11, f_110_12, p_110_12, f_110_13, p_110_13, f_110_14, f_110_15, f_110_16, p_110_16, f_110_17, f_110_18, p_110_18, f_110_19, p_110_19, f_110_20, f_110_21, p_110_21, f_110_22, p_110_22, f_110_23, f_110_24, f_110_25, p_110_25, f_110_26, f_110_27, f_110_28, f_110_29, f_110_30, f_110_31, p_110_31, f_110_32, p_110_32, f_110_33, p_110_33, f_110_34, p_110_34, f_110_35, f_110_36, f_110_37, f_110_38, Option.some.injEq, exists_eq_left', exists_eq_left, Option.toList_some, Option.toList_none, List.cons_append, List.nil_append, true_and, and_true, Option.map_some, Option.map_none, r_isTown (d := d) (by omega) hT, r_isPerson (d := d) (by omega) hT hW, r_isMatterI (d := d) (by omega) hT hW, r_isSet (d := d) (by omega) hT hW, r_allMatters (d := d) (by omega) hT hW, r_isClosed (d := d) (by omega) hT hW, r_sumOfAll (d := d) (by omega) hT hW, r_restsOf (d := d) (by omega) hT hW, r_in (d := d) (by omega), r_bit (d := d) (by omega), r_bits (d := d) (by omega), h1, show ¬ ((1 : Int32) = 0) by decide, if_false, e0, e1, e2, e3, g1, hn1, if_true, not_true_eq_false]
  by_cases hn2 : n ≤ 99
  · have hn2' : ¬ 99 < n := Int32.not_lt.mpr hn2
    by_cases hl : (wAc W).length = 0
    · have hA0 : wA W = aBegin (wT W) := aRun_nil hl hr
      have hl0 : nI (wAc W).length ≤ 0 := by rw [hl]; decide
      have hq := hW.2.2.1 m hm
      have hpt : tPa (wT W) m k < tP (wT W) := by
        rcases (show k = 0 ∨ k = 1 by omega) with rfl | rfl
        · exact hq.1
        · exact hq.2.1
      have hgk : tGain (wT W) (tPa (wT W) m k) m = tGa (wT W) m k := by
        unfold tGain
        rcases (show k = 0 ∨ k = 1 by omega) with rfl | rfl
        · rw [if_pos rfl]
        · rw [if_neg hq.2.2, if_pos rfl]
      refine ⟨((tSetG (wT W) m k n, wAc W, wA W), W.2), tGa (wT W) m k, ⟨tOk_G hK (Int32.not_lt.mp hn1) hn2, hl60, ?_, h'.2.2.2⟩, ?_, ?_⟩
      · have : wAc W = [] := List.eq_nil_of_length_eq_zero hl
        rw [this, hA0]
        rfl
      · intro d xs s hd hC
        obtain ⟨⟨hT, hA, hn, hacts⟩, -⟩ := id hC
        have hT' : clsT (s_p s 8 (tPa (wT W) m k * 8 + m) n) 3 (tSetG (wT W) m k n) := by
          obtain ⟨⟨t0, t1, t2, t3, t4, t5⟩, t6, t7, t8, t9, t10, t11, t12, t13⟩ := hT
          refine ⟨⟨t0, t1, t2, t3, t4, t5⟩, t6, t7, t8, t9, t10, t11, t12, fun p' hp' m' hm' => ?_⟩
          rw [tGain_G hW hm (by omega)]
          show (if 3 + 5 = 8 ∧ 8 * p' + m' = tPa (wT W) m k * 8 + m then n else s.1 (3 + 5) (8 * p' + m')) = _
          have hm8 : m' < 8 := Nat.lt_of_lt_of_le hm' w2
          by_cases hc : p' = tPa (wT W) m k ∧ m' = m
          · rw [if_pos hc, if_pos ⟨rfl, by omega⟩]
          · rw [if_neg hc, if_neg (by omega)]
            exact t13 p' hp' m' hm'
        refine ⟨s_p s 8 (tPa (wT W) m k * 8 + m) n, ?_, cW_all hC (fun q hq => by
          funext j
          have : ¬ q = 8 := by omega
          simp [s_p, this]) (by simp [s_p]) rfl hT' (clsS_at (fun q a b => by
          funext j
          have : ¬ q = 8 := by omega
          simp [s_p, this]) hA) ⟨by rw [← hn]; simp [s_p], fun i hi => by rw [← hacts i hi]; simp [s_p]⟩, fun q hq => ⟨by
          funext j
          have : ¬ q = 8 := by omega
          simp [s_p, this], rfl⟩⟩
        have ei : nI (tPa (wT W) m k) * 8 + nI m = nI (tPa (wT W) m k * 8 + m) := by rw [show (8 : Int32) = nI 8 from rfl, pk_mul, nI_add]
        have hx : x_rd (s.1 8) 48 (nI (tPa (wT W) m k * 8 + m)) = some (s.1 8 (tPa (wT W) m k * 8 + m)) := x_rd_nI (by omega) (by omega)
        obtain ⟨d, rfl⟩ := x_1 (d := d) (by omega)
        have sg : x_ev g_M P d 92 [.ref 3, .int (nI (tPa (wT W) m k)), .int (nI m), .int n] (mkH xs s) (none, mkH xs (s_p s 8 (tPa (wT W) m k * 8 + m) n)) := by
          obtain ⟨d, rfl⟩ := x_1 (d := d) (by omega)
          rw [x_ev_in rfl (Nat.le_of_ble_eq_true rfl)]
          rw [show x_ent (x_nL g_M 92) [.ref 3, .int (nI (tPa (wT W) m k)), .int (nI m), .int n] = [some (.ref 3), some (.int (nI (tPa (wT W) m k))), some (.int (nI m)), some (.int n)] from rfl]
          simp only [w_Town_setGain_0, w_Town_setGain_4, w_Town_setGain_12, c_3, f_3_0, p_3_0, f_3_1, p_3_1, f_3_2, p_3_2, f_3_3, p_3_3, f_3_4, p_3_4, f_3_5, p_3_5, f_3_6, p_3_6, f_3_7, p_3_7, f_3_8, p_3_8, f_3_9, f_3_10, f_3_11, f_3_12, f_3_13, e_8, i_8, Option.some.injEq, exists_eq_left', exists_eq_left, Option.toList_some, Option.toList_none, List.cons_append, List.nil_append, true_and, and_true, Option.map_some, Option.map_none, ei, hx, nI_clamp (show tPa (wT W) m k * 8 + m < 2 ^ 31 by omega)]
        rw [x_ev_in rfl (Nat.le_of_ble_eq_true rfl)]
        rw [show x_ent (x_nL g_M 178) [.ref 1, .int (nI m), .int (nI k), .int n] = [some (.ref 1), some (.int (nI m)), some (.int (nI k)), some (.int n), none, none] from rfl]
        simp only [w_Top_price_0, w_Top_price_4, w_Top_price_8, w_Top_price_11, w_Top_price_15, w_Top_price_20, w_Top_price_26, w_Top_price_32, w_Top_price_36, w_Top_price_40, w_Top_price_43, w_Top_price_47, w_Top_price_51, w_Top_price_56, w_Top_price_62, w_Top_price_68, w_Top_price_74, w_Top_price_81, c_1, f_1_0, f_1_1, p_1_1, f_1_2, f_1_3, f_1_4, f_1_5, f_1_6, p_1_6, f_1_7, f_1_8, f_1_9, f_1_10, f_1_11, f_1_12, f_1_13, f_1_14, c_3, f_3_0, p_3_0, f_3_1, p_3_1, f_3_2, p_3_2, f_3_3, p_3_3, f_3_4, p_3_4, f_3_5, p_3_5, f_3_6, p_3_6, f_3_7, p_3_7, f_3_8, p_3_8, f_3_9, f_3_10, f_3_11, f_3_12, f_3_13, c_9, f_9_0, f_9_1, p_9_1, f_9_2, p_9_2, f_9_3, p_9_3, f_9_4, p_9_4, f_9_5, f_9_6, Option.some.injEq, exists_eq_left', exists_eq_left, Option.toList_some, Option.toList_none, List.cons_append, List.nil_append, true_and, and_true, Option.map_some, Option.map_none, t_isTold (d := d) (by omega) hT, t_hasPerson (d := d) (by omega) hT, t_hasMatter (d := d) (by omega) hT, t_hasSet (d := d) (by omega) hT hW, t_bitOf (d := d) (by omega), t_isClosed (d := d) (by omega) hT hW, t_sumOfAll (d := d) (by omega) hT hW, s_openOnes (d := d) (by omega) h9 hT hW hA, s_wishers (d := d) (by omega) h9 hT hW hA hAw, s_allCups (d := d) (by omega) h9 hT hW hA, h1, show ¬ ((1 : Int32) = 0) by decide, if_false, k1, k2, hn1, hn2, if_true, hn, hl0, t_partyOf (d := d) (by omega) hT hW hm (show k < 2 by omega), t_gainOf (d := d) (by omega) hT hW hpt hm, hgk, x_ev_iff sg]
      · intro d xs s hd hC
        obtain ⟨hR, -⟩ := id hC
        have hT := hR.1
        have hR' : refW (s_p s 111 (21 + 7 * m + k) n) (tSetG (wT W) m k n) (wAc W) := by
          obtain ⟨⟨⟨t0, t1, t2, t3, t4, t5⟩, t6, t7⟩, r6, ra, r60⟩ := hR
          have hk0 : ∀ j, j ≠ 21 + 7 * m + k → (s_p s 111 (21 + 7 * m + k) n).1 111 j = s.1 111 j := fun j hj => by simp [s_p, hj]
          refine ⟨⟨⟨?_, ?_, ?_, ?_, ?_, ?_⟩, fun p' hp' => ⟨?_, ?_⟩, fun m' hm' w hw => ?_⟩, ?_, fun i hi => ?_, r60⟩
          · rw [hk0 _ (by omega)]; exact t0
          · rw [hk0 _ (by omega)]; exact t1
          · rw [hk0 _ (by omega)]; exact t2
          · rw [hk0 _ (by omega)]; exact t3
          · rw [hk0 _ (by omega)]; exact t4
          · rw [hk0 _ (by omega)]; exact t5
          · have hp6 : p' < 6 := Nat.lt_of_lt_of_le hp' w1
            rw [hk0 _ (by omega)]; exact (t6 p' hp').1
          · have hp6 : p' < 6 := Nat.lt_of_lt_of_le hp' w1
            rw [hk0 _ (by omega)]; exact (t6 p' hp').2
          · have tw := t7 m' hm' w hw
            by_cases hc : m' = m ∧ w = 2 + k
            · obtain ⟨rfl, rfl⟩ := hc
              have : (s_p s 111 (21 + 7 * m' + k) n).1 111 (0 + (19 + 7 * m' + (2 + k))) = n := by
                have e : 0 + (19 + 7 * m' + (2 + k)) = 21 + 7 * m' + k := by omega
                rw [e]
                simp [s_p]
              rw [this]
              rcases (show k = 0 ∨ k = 1 by omega) with rfl | rfl
              · show n = (if m' = m' ∧ 0 = 0 then n else _)
                rw [if_pos ⟨rfl, rfl⟩]
              · show n = (if m' = m' ∧ 1 = 1 then n else _)
                rw [if_pos ⟨rfl, rfl⟩]
            · rw [hk0 _ (by omega), tw]
              rcases (show w = 0 ∨ w = 1 ∨ w = 2 ∨ w = 3 ∨ w = 4 ∨ w = 5 ∨ w = 6 by omega) with rfl | rfl | rfl | rfl | rfl | rfl | rfl
              · rfl
              · rfl
              · show tGa (wT W) m' 0 = if m' = m ∧ 0 = k then n else tGa (wT W) m' 0
                rw [if_neg (by omega)]
              · show tGa (wT W) m' 1 = if m' = m ∧ 1 = k then n else tGa (wT W) m' 1
                rw [if_neg (by omega)]
              · rfl
              · rfl
              · rfl
          · rw [hk0 _ (by omega)]; exact r6
          · rw [hk0 _ (by omega)]; exact ra i hi
        refine ⟨s_p s 111 (21 + 7 * m + k) n, ?_, rW_all hC (fun q hq => by funext j; simp [s_p, hq]) rfl hR', fun q hq => ⟨by
          funext j
          have : ¬ q = 111 := by omega
          simp [s_p, this], rfl⟩⟩
        have e6 : x_rd (s.1 111) 135 6 = some (nI (wAc W).length) := by rw [show (6 : Int32) = nI 6 from rfl, x_rd_nI (by omega) (by omega), hR.2.1]
        have ei : 19 + 7 * nI m + 2 + nI k = nI (21 + 7 * m + k) := by
          rw [show (7 : Int32) = nI 7 from rfl, pk_mul, show (19 : Int32) = nI 19 from rfl, nI_add, show (2 : Int32) = nI 2 from rfl, nI_add, nI_add]
          congr 1
          omega
        have hx : x_rd (s.1 111) 135 (nI (21 + 7 * m + k)) = some (s.1 111 (21 + 7 * m + k)) := x_rd_nI (by omega) (by omega)
        have e2k : 2 + nI k = nI (2 + k) := nI_add 2 k
        have hof : tOf (wT W) m (2 + k) = tGa (wT W) m k := by
          rcases (show k = 0 ∨ k = 1 by omega) with rfl | rfl <;> rfl
        obtain ⟨d, rfl⟩ := x_1 (d := d) (by omega)
        rw [x_ev_in rfl (Nat.le_of_ble_eq_true rfl)]
        rw [show x_ent (x_nL g_M 330) [.ref 110, .int (nI m), .int (nI k), .int n] = [some (.ref 110), some (.int (nI m)), some (.int (nI k)), some (.int n), none] from rfl]
        simp only [w_Ref_price_0, w_Ref_price_6, w_Ref_price_9, w_Ref_price_16, w_Ref_price_19, w_Ref_price_30, w_Ref_price_33, w_Ref_price_37, w_Ref_price_41, w_Ref_price_44, w_Ref_price_47, w_Ref_price_51, w_Ref_price_59, w_Ref_price_65, w_Ref_price_78, c_110, f_110_0, p_110_0, f_110_1, f_110_2, f_110_3, f_110_4, f_110_5, p_110_5, f_110_6, f_110_7, p_110_7, f_110_8, p_110_8, f_110_9, p_110_9, f_110_10, p_110_10, f_110_11, p_110_11, f_110_12, p_110_12, f_110_13, p_110_13, f_110_14, f_110_15, f_110_16, p_110_16, f_110_17, f_110_18, p_110_18, f_110_19, p_110_19, f_110_20, f_110_21, p_110_21, f_110_22, p_110_22, f_110_23, f_110_24, f_110_25, p_110_25, f_110_26, f_110_27, f_110_28, f_110_29, f_110_30, f_110_31, p_110_31, f_110_32, p_110_32, f_110_33, p_110_33, f_110_34, p_110_34, f_110_35, f_110_36, f_110_37, f_110_38, e_111, i_111, Option.some.injEq, exists_eq_left', exists_eq_left, Option.toList_some, Option.toList_none, List.cons_append, List.nil_append, true_and, and_true, Option.map_some, Option.map_none, r_isTown (d := d) (by omega) hT, r_isPerson (d := d) (by omega) hT hW, r_isMatterI (d := d) (by omega) hT hW, r_isSet (d := d) (by omega) hT hW, r_allMatters (d := d) (by omega) hT hW, r_isClosed (d := d) (by omega) hT hW, r_sumOfAll (d := d) (by omega) hT hW, r_restsOf (d := d) (by omega) hT hW, r_in (d := d) (by omega), r_bit (d := d) (by omega), r_bits (d := d) (by omega), h1, show ¬ ((1 : Int32) = 0) by decide, if_false, e0, e1, e2, e3, g1, hn1, hn2', if_true, not_false_eq_true, e6, hl0, e2k, r_of (d := d) (by omega) hT hW hm (show 2 + k < 7 by omega), hof, ei, hx, nI_clamp (show 21 + 7 * m + k < 2 ^ 31 by omega)]
    · have hl0 : ¬ nI (wAc W).length ≤ 0 := nI_nle (by omega) (by omega)
      refine ask2.do h' ⟨-1005, cAsk0 ?_, rAsk0 ?_⟩
      · intro d xs s hd hC; obtain ⟨⟨hT, hA, hn, hacts⟩, -⟩ := hC
        obtain ⟨d, rfl⟩ := x_1 (d := d) (by omega)
        rw [x_ev_in rfl (Nat.le_of_ble_eq_true rfl)]
        rw [show x_ent (x_nL g_M 178) [.ref 1, .int (nI m), .int (nI k), .int n] = [some (.ref 1), some (.int (nI m)), some (.int (nI k)), some (.int n), none, none] from rfl]
        simp only [w_Top_price_0, w_Top_price_4, w_Top_price_8, w_Top_price_11, w_Top_price_15, w_Top_price_20, w_Top_price_26, w_Top_price_32, w_Top_price_36, w_Top_price_40, w_Top_price_43, w_Top_price_47, w_Top_price_51, w_Top_price_56, w_Top_price_62, w_Top_price_68, w_Top_price_74, w_Top_price_81, c_1, f_1_0, f_1_1, p_1_1, f_1_2, f_1_3, f_1_4, f_1_5, f_1_6, p_1_6, f_1_7, f_1_8, f_1_9, f_1_10, f_1_11, f_1_12, f_1_13, f_1_14, c_3, f_3_0, p_3_0, f_3_1, p_3_1, f_3_2, p_3_2, f_3_3, p_3_3, f_3_4, p_3_4, f_3_5, p_3_5, f_3_6, p_3_6, f_3_7, p_3_7, f_3_8, p_3_8, f_3_9, f_3_10, f_3_11, f_3_12, f_3_13, c_9, f_9_0, f_9_1, p_9_1, f_9_2, p_9_2, f_9_3, p_9_3, f_9_4, p_9_4, f_9_5, f_9_6, Option.some.injEq, exists_eq_left', exists_eq_left, Option.toList_some, Option.toList_none, List.cons_append, List.nil_append, true_and, and_true, Option.map_some, Option.map_none, t_isTold (d := d) (by omega) hT, t_hasPerson (d := d) (by omega) hT, t_hasMatter (d := d) (by omega) hT, t_hasSet (d := d) (by omega) hT hW, t_bitOf (d := d) (by omega), t_isClosed (d := d) (by omega) hT hW, t_sumOfAll (d := d) (by omega) hT hW, s_openOnes (d := d) (by omega) h9 hT hW hA, s_wishers (d := d) (by omega) h9 hT hW hA hAw, s_allCups (d := d) (by omega) h9 hT hW hA, h1, show ¬ ((1 : Int32) = 0) by decide, if_false, k1, k2, hn1, hn2, if_true, hn, hl0]
      · intro d xs s hd hC; obtain ⟨hR, -⟩ := hC; have hT := hR.1
        have e6 : x_rd (s.1 111) 135 6 = some (nI (wAc W).length) := by rw [show (6 : Int32) = nI 6 from rfl, x_rd_nI (by omega) (by omega), hR.2.1]
        obtain ⟨d, rfl⟩ := x_1 (d := d) (by omega)
        rw [x_ev_in rfl (Nat.le_of_ble_eq_true rfl)]
        rw [show x_ent (x_nL g_M 330) [.ref 110, .int (nI m), .int (nI k), .int n] = [some (.ref 110), some (.int (nI m)), some (.int (nI k)), some (.int n), none] from rfl]
        simp only [w_Ref_price_0, w_Ref_price_6, w_Ref_price_9, w_Ref_price_16, w_Ref_price_19, w_Ref_price_30, w_Ref_price_33, w_Ref_price_37, w_Ref_price_41, w_Ref_price_44, w_Ref_price_47, w_Ref_price_51, w_Ref_price_59, w_Ref_price_65, w_Ref_price_78, c_110, f_110_0, p_110_0, f_110_1, f_110_2, f_110_3, f_110_4, f_110_5, p_110_5, f_110_6, f_110_7, p_110_7, f_110_8, p_110_8, f_110_9, p_110_9, f_110_10, p_110_10, f_110_11, p_110_11, f_110_12, p_110_12, f_110_13, p_110_13, f_110_14, f_110_15, f_110_16, p_110_16, f_110_17, f_110_18, p_110_18, f_110_19, p_110_19, f_110_20, f_110_21, p_110_21, f_110_22, p_110_22, f_110_23, f_110_24, f_110_25, p_110_25, f_110_26, f_110_27, f_110_28, f_110_29, f_110_30, f_110_31, p_110_31, f_110_32, p_110_32, f_110_33, p_110_33, f_110_34, p_110_34, f_110_35, f_110_36, f_110_37, f_110_38, e_111, i_111, Option.some.injEq, exists_eq_left', exists_eq_left, Option.toList_some, Option.toList_none, List.cons_append, List.nil_append, true_and, and_true, Option.map_some, Option.map_none, r_isTown (d := d) (by omega) hT, r_isPerson (d := d) (by omega) hT hW, r_isMatterI (d := d) (by omega) hT hW, r_isSet (d := d) (by omega) hT hW, r_allMatters (d := d) (by omega) hT hW, r_isClosed (d := d) (by omega) hT hW, r_sumOfAll (d := d) (by omega) hT hW, r_restsOf (d := d) (by omega) hT hW, r_in (d := d) (by omega), r_bit (d := d) (by omega), r_bits (d := d) (by omega), h1, show ¬ ((1 : Int32) = 0) by decide, if_false, e0, e1, e2, e3, g1, hn1, hn2', if_true, not_false_eq_true, e6, hl0]
  · have hn2' : 99 < n := Int32.not_le.mp hn2
    refine ask2.do h' ⟨-1000, cAsk0 ?_, rAsk0 ?_⟩
    · intro d xs s hd hC; obtain ⟨⟨hT, hA, hn, hacts⟩, -⟩ := hC
      obtain ⟨d, rfl⟩ := x_1 (d := d) (by omega)
      rw [x_ev_in rfl (Nat.le_of_ble_eq_true rfl)]
      rw [show x_ent (x_nL g_M 178) [.ref 1, .int (nI m), .int (nI k), .int n] = [some (.ref 1), some (.int (nI m)), some (.int (nI k)), some (.int n), none, none] from rfl]
      simp only [w_Top_price_0, w_Top_price_4, w_Top_price_8, w_Top_price_11, w_Top_price_15, w_Top_price_20, w_Top_price_26, w_Top_price_32, w_Top_price_36, w_Top_price_40, w_Top_price_43, w_Top_price_47, w_Top_price_51, w_Top_price_56, w_Top_price_62, w_Top_price_68, w_Top_price_74, w_Top_price_81, c_1, f_1_0, f_1_1, p_1_1, f_1_2, f_1_3, f_1_4, f_1_5, f_1_6, p_1_6, f_1_7, f_1_8, f_1_9, f_1_10, f_1_11, f_1_12, f_1_13, f_1_14, c_3, f_3_0, p_3_0, f_3_1, p_3_1, f_3_2, p_3_2, f_3_3, p_3_3, f_3_4, p_3_4, f_3_5, p_3_5, f_3_6, p_3_6, f_3_7, p_3_7, f_3_8, p_3_8, f_3_9, f_3_10, f_3_11, f_3_12, f_3_13, c_9, f_9_0, f_9_1, p_9_1, f_9_2, p_9_2, f_9_3, p_9_3, f_9_4, p_9_4, f_9_5, f_9_6, Option.some.injEq, exists_eq_left', exists_eq_left, Option.toList_some, Option.toList_none, List.cons_append, List.nil_append, true_and, and_true, Option.map_some, Option.map_none, t_isTold (d := d) (by omega) hT, t_hasPerson (d := d) (by omega) hT, t_hasMatter (d := d) (by omega) hT, t_hasSet (d := d) (by omega) hT hW, t_bitOf (d := d) (by omega), t_isClosed (d := d) (by omega) hT hW, t_sumOfAll (d := d) (by omega) hT hW, s_openOnes (d := d) (by omega) h9 hT hW hA, s_wishers (d := d) (by omega) h9 hT hW hA hAw, s_allCups (d := d) (by omega) h9 hT hW hA, h1, show ¬ ((1 : Int32) = 0) by decide, if_false, k1, k2, hn1, hn2]
    · intro d xs s hd hC; obtain ⟨hR, -⟩ := hC; have hT := hR.1
      obtain ⟨d, rfl⟩ := x_1 (d := d) (by omega)
      rw [x_ev_in rfl (Nat.le_of_ble_eq_true rfl)]
      rw [show x_ent (x_nL g_M 330) [.ref 110, .int (nI m), .int (nI k), .int n] = [some (.ref 110), some (.int (nI m)), some (.int (nI k)), some (.int n), none] from rfl]
      simp only [w_Ref_price_0, w_Ref_price_6, w_Ref_price_9, w_Ref_price_16, w_Ref_price_19, w_Ref_price_30, w_Ref_price_33, w_Ref_price_37, w_Ref_price_41, w_Ref_price_44, w_Ref_price_47, w_Ref_price_51, w_Ref_price_59, w_Ref_price_65, w_Ref_price_78, c_110, f_110_0, p_110_0, f_110_1, f_110_2, f_110_3, f_110_4, f_110_5, p_110_5, f_110_6, f_110_7, p_110_7, f_110_8, p_110_8, f_110_9, p_110_9, f_110_10, p_110_10, f_110_11, p_110_11, f_110_12, p_110_12, f_110_13, p_110_13, f_110_14, f_110_15, f_110_16, p_110_16, f_110_17, f_110_18, p_110_18, f_110_19, p_110_19, f_110_20, f_110_21, p_110_21, f_110_22, p_110_22, f_110_23, f_110_24, f_110_25, p_110_25, f_110_26, f_110_27, f_110_28, f_110_29, f_110_30, f_110_31, p_110_31, f_110_32, p_110_32, f_110_33, p_110_33, f_110_34, p_110_34, f_110_35, f_110_36, f_110_37, f_110_38, Option.some.injEq, exists_eq_left', exists_eq_left, Option.toList_some, Option.toList_none, List.cons_append, List.nil_append, true_and, and_true, Option.map_some, Option.map_none, r_isTown (d := d) (by omega) hT, r_isPerson (d := d) (by omega) hT hW, r_isMatterI (d := d) (by omega) hT hW, r_isSet (d := d) (by omega) hT hW, r_allMatters (d := d) (by omega) hT hW, r_isClosed (d := d) (by omega) hT hW, r_sumOfAll (d := d) (by omega) hT hW, r_restsOf (d := d) (by omega) hT hW, r_in (d := d) (by omega), r_bit (d := d) (by omega), r_bits (d := d) (by omega), h1, show ¬ ((1 : Int32) = 0) by decide, if_false, e0, e1, e2, e3, g1, hn1, hn2', if_true, not_true_eq_false]
theorem refW_mark {s : xS} {T T' : Tw} {l : List Int32} (hW : tWf T) {m j : Nat} {v : Int32} (hm : m < tM T) (hj : j < 7) (h5 : 5 ≤ j) (h1 : T'.1 = T.1) (h2 : T'.2.2.2.2.2.2 = T.2.2.2.2.2.2) (ho : ∀ m' w, w < 7 → tOf T' m' w = if m' = m ∧ w = j then v else tOf T m' w) (hR : refW s T l) : refW (s_p s 111 (19 + 7 * m + j) v) T' l := by
  have w1 := hW.1
  have w2 := hW.2.1
  obtain ⟨⟨⟨t0, t1, t2, t3, t4, t5⟩, t6, t7⟩, r6, ra, r60⟩ := hR
  have hk0 : ∀ i, i ≠ 19 + 7 * m + j → (s_p s 111 (19 + 7 * m + j) v).1 111 i = s.1 111 i := fun i hi => by simp [s_p, hi]
  refine ⟨⟨⟨?_, ?_, ?_, ?_, ?_, ?_⟩, fun p' hp' => ⟨?_, ?_⟩, fun m' hm' w hw => ?_⟩, ?_, fun i hi => ?_, r60⟩
  · rw [hk0 _ (by omega), t0]; show _ = (T'.2.2.2.2.2.2).2.2.2.1; rw [h2]
  · rw [hk0 _ (by omega), t1]; show _ = (T'.2.2.2.2.2.2).2.2.2.2.1; rw [h2]
  · rw [hk0 _ (by omega), t2]; show _ = (T'.2.2.2.2.2.2).2.2.2.2.2; rw [h2]
  · rw [hk0 _ (by omega), t3]; show _ = nI T'.1.1; rw [h1]
  · rw [hk0 _ (by omega), t4]; show _ = nI T'.1.2; rw [h1]
  · rw [hk0 _ (by omega), t5]; show _ = (T'.2.2.2.2.2.2).2.2.1; rw [h2]
  · have hp6 : p' < tP T := by rw [show tP T = T.1.1 from rfl, ← h1]; exact hp'
    rw [hk0 _ (by omega), (t6 p' hp6).1]; show _ = (T'.2.2.2.2.2.2).2.1 p'; rw [h2]
  · have hp6 : p' < tP T := by rw [show tP T = T.1.1 from rfl, ← h1]; exact hp'
    rw [hk0 _ (by omega), (t6 p' hp6).2]; show _ = b01 ((T'.2.2.2.2.2.2).1 p'); rw [h2]
  · have hm8 : m' < tM T := by rw [show tM T = T.1.2 from rfl, ← h1]; exact hm'
    rw [ho m' w hw]
    by_cases hc : m' = m ∧ w = j
    · rw [if_pos hc, hc.1, hc.2, Nat.zero_add]
      simp [s_p]
    · rw [if_neg hc, hk0 _ (by omega)]
      exact t7 m' hm8 w hw
  · rw [hk0 _ (by omega)]; exact r6
  · rw [hk0 _ (by omega)]; exact ra i hi
set_option maxHeartbeats 8000000 in
theorem k_mark (h : wOk W) (x y n : Int32) : do2 P 179 331 [.int x, .int y, .int n] W := by
  have h' := h
  obtain ⟨hK, hl60, hr, hrest⟩ := h; have hW := hK.1; have hO := aOk_run hK _ _ _ (aOk_begin hK) hr; have hAw := hO.1; have w1 := hW.1; have w2 := hW.2.1; have h9 : 9 ∈ g_SP := by decide
  have e0 : y.toInt64 < 0 ↔ y < 0 := w_lt y 0
  have e1 : (1 : Int64) < y.toInt64 ↔ nI 1 < y := w_lt 1 y
  have e2 : n.toInt64 < 0 ↔ n < 0 := w_lt n 0
  have e3 : (1 : Int64) < n.toInt64 ↔ nI 1 < n := w_lt 1 n
  rcases has_cs (n := tM (wT W)) (by omega) x with h0 | ⟨m, hm, rfl, h1⟩
  · refine ask2.do h' ⟨-2, cAsk0 ?_, rAsk0 ?_⟩
    · intro d xs s hd hC; obtain ⟨⟨hT, hA, hn, hacts⟩, -⟩ := hC
      obtain ⟨d, rfl⟩ := x_1 (d := d) (by omega)
      rw [x_ev_in rfl (Nat.le_of_ble_eq_true rfl)]
      rw [show x_ent (x_nL g_M 179) [.ref 1, .int x, .int y, .int n] = [some (.ref 1), some (.int x), some (.int y), some (.int n), none] from rfl]
      simp only [w_Top_mark_0, w_Top_mark_4, w_Top_mark_8, w_Top_mark_11, w_Top_mark_15, w_Top_mark_20, w_Top_mark_24, w_Top_mark_29, w_Top_mark_32, w_Top_mark_36, w_Top_mark_39, w_Top_mark_42, w_Top_mark_46, w_Top_mark_50, w_Top_mark_53, w_Top_mark_57, w_Top_mark_63, w_Top_mark_67, w_Top_mark_70, w_Top_mark_75, w_Top_mark_78, w_Top_mark_81, w_Top_mark_85, w_Top_mark_88, w_Top_mark_92, w_Top_mark_98, w_Top_mark_102, w_Top_mark_105, w_Top_mark_110, w_Top_mark_113, c_1, f_1_0, f_1_1, p_1_1, f_1_2, f_1_3, f_1_4, f_1_5, f_1_6, p_1_6, f_1_7, f_1_8, f_1_9, f_1_10, f_1_11, f_1_12, f_1_13, f_1_14, c_3, f_3_0, p_3_0, f_3_1, p_3_1, f_3_2, p_3_2, f_3_3, p_3_3, f_3_4, p_3_4, f_3_5, p_3_5, f_3_6, p_3_6, f_3_7, p_3_7, f_3_8, p_3_8, f_3_9, f_3_10, f_3_11, f_3_12, f_3_13, c_9, f_9_0, f_9_1, p_9_1, f_9_2, p_9_2, f_9_3, p_9_3, f_9_4, p_9_4, f_9_5, f_9_6, Option.some.injEq, exists_eq_left', exists_eq_left, Option.toList_some, Option.toList_none, List.cons_append, List.nil_append, true_and, and_true, Option.map_some, Option.map_none, t_isTold (d := d) (by omega) hT, t_hasPerson (d := d) (by omega) hT, t_hasMatter (d := d) (by omega) hT, t_hasSet (d := d) (by omega) hT hW, t_bitOf (d := d) (by omega), t_isClosed (d := d) (by omega) hT hW, t_sumOfAll (d := d) (by omega) hT hW, s_openOnes (d := d) (by omega) h9 hT hW hA, s_wishers (d := d) (by omega) h9 hT hW hA hAw, s_allCups (d := d) (by omega) h9 hT hW hA, h0, if_true]
    · intro d xs s hd hC; obtain ⟨hR, -⟩ := hC; have hT := hR.1
      obtain ⟨d, rfl⟩ := x_1 (d := d) (by omega)
      rw [x_ev_in rfl (Nat.le_of_ble_eq_true rfl)]
      rw [show x_ent (x_nL g_M 331) [.ref 110, .int x, .int y, .int n] = [some (.ref 110), some (.int x), some (.int y), some (.int n), none] from rfl]
      simp only [w_Ref_mark_0, w_Ref_mark_6, w_Ref_mark_9, w_Ref_mark_16, w_Ref_mark_19, w_Ref_mark_26, w_Ref_mark_29, w_Ref_mark_32, w_Ref_mark_36, w_Ref_mark_39, w_Ref_mark_42, w_Ref_mark_45, w_Ref_mark_53, w_Ref_mark_59, w_Ref_mark_72, c_110, f_110_0, p_110_0, f_110_1, f_110_2, f_110_3, f_110_4, f_110_5, p_110_5, f_110_6, f_110_7, p_110_7, f_110_8, p_110_8, f_110_9, p_110_9, f_110_10, p_110_10, f_110_11, p_110_11, f_110_12, p_110_12, f_110_13, p_110_13, f_110_14, f_110_15, f_110_16, p_110_16, f_110_17, f_110_18, p_110_18, f_110_19, p_110_19, f_110_20, f_110_21, p_110_21, f_110_22, p_110_22, f_110_23, f_110_24, f_110_25, p_110_25, f_110_26, f_110_27, f_110_28, f_110_29, f_110_30, f_110_31, p_110_31, f_110_32, p_110_32, f_110_33, p_110_33, f_110_34, p_110_34, f_110_35, f_110_36, f_110_37, f_110_38, Option.some.injEq, exists_eq_left', exists_eq_left, Option.toList_some, Option.toList_none, List.cons_append, List.nil_append, true_and, and_true, Option.map_some, Option.map_none, r_isTown (d := d) (by omega) hT, r_isPerson (d := d) (by omega) hT hW, r_isMatterI (d := d) (by omega) hT hW, r_isSet (d := d) (by omega) hT hW, r_allMatters (d := d) (by omega) hT hW, r_isClosed (d := d) (by omega) hT hW, r_sumOfAll (d := d) (by omega) hT hW, r_restsOf (d := d) (by omega) hT hW, r_in (d := d) (by omega), r_bit (d := d) (by omega), r_bits (d := d) (by omega), h0, if_true]
  rcases in_cs (k := 1) (by omega) y with ⟨g0, gn⟩ | ⟨k, hk, rfl, g1⟩
  · refine ask2.do h' ⟨-2, cAsk0 ?_, rAsk0 ?_⟩
    · intro d xs s hd hC; obtain ⟨⟨hT, hA, hn, hacts⟩, -⟩ := hC
      obtain ⟨d, rfl⟩ := x_1 (d := d) (by omega)
      rw [x_ev_in rfl (Nat.le_of_ble_eq_true rfl)]
      rw [show x_ent (x_nL g_M 179) [.ref 1, .int (nI m), .int y, .int n] = [some (.ref 1), some (.int (nI m)), some (.int y), some (.int n), none] from rfl]
      by_cases hy : y < 0
      · simp only [w_Top_mark_0, w_Top_mark_4, w_Top_mark_8, w_Top_mark_11, w_Top_mark_15, w_Top_mark_20, w_Top_mark_24, w_Top_mark_29, w_Top_mark_32, w_Top_mark_36, w_Top_mark_39, w_Top_mark_42, w_Top_mark_46, w_Top_mark_50, w_Top_mark_53, w_Top_mark_57, w_Top_mark_63, w_Top_mark_67, w_Top_mark_70, w_Top_mark_75, w_Top_mark_78, w_Top_mark_81, w_Top_mark_85, w_Top_mark_88, w_Top_mark_92, w_Top_mark_98, w_Top_mark_102, w_Top_mark_105, w_Top_mark_110, w_Top_mark_113, c_1, f_1_0, f_1_1, p_1_1, f_1_2, f_1_3, f_1_4, f_1_5, f_1_6, p_1_6, f_1_7, f_1_8, f_1_9, f_1_10, f_1_11, f_1_12, f_1_13, f_1_14, c_3, f_3_0, p_3_0, f_3_1, p_3_1, f_3_2, p_3_2, f_3_3, p_3_3, f_3_4, p_3_4, f_3_5, p_3_5, f_3_6, p_3_6, f_3_7, p_3_7, f_3_8, p_3_8, f_3_9, f_3_10, f_3_11, f_3_12, f_3_13, c_9, f_9_0, f_9_1, p_9_1, f_9_2, p_9_2, f_9_3, p_9_3, f_9_4, p_9_4, f_9_5, f_9_6, Option.some.injEq, exists_eq_left', exists_eq_left, Option.toList_some, Option.toList_none, List.cons_append, List.nil_append, true_and, and_true, Option.map_some, Option.map_none, t_isTold (d := d) (by omega) hT, t_hasPerson (d := d) (by omega) hT, t_hasMatter (d := d) (by omega) hT, t_hasSet (d := d) (by omega) hT hW, t_bitOf (d := d) (by omega), t_isClosed (d := d) (by omega) hT hW, t_sumOfAll (d := d) (by omega) hT hW, s_openOnes (d := d) (by omega) h9 hT hW hA, s_wishers (d := d) (by omega) h9 hT hW hA hAw, s_allCups (d := d) (by omega) h9 hT hW hA, h1, show ¬ ((1 : Int32) = 0) by decide, if_false, hy, if_true]
      · have hy4 : (1 : Int32) < y := by
          by_cases hz : nI 1 < y
          · exact hz
          · rw [if_neg hy, if_neg hz] at g0
            exact absurd g0 (by decide)
        simp only [w_Top_mark_0, w_Top_mark_4, w_Top_mark_8, w_Top_mark_11, w_Top_mark_15, w_Top_mark_20, w_Top_mark_24, w_Top_mark_29, w_Top_mark_32, w_Top_mark_36, w_Top_mark_39, w_Top_mark_42, w_Top_mark_46, w_Top_mark_50, w_Top_mark_53, w_Top_mark_57, w_Top_mark_63, w_Top_mark_67, w_Top_mark_70, w_Top_mark_75, w_Top_mark_78, w_Top_mark_81, w_Top_mark_85, w_Top_mark_88, w_Top_mark_92, w_Top_mark_98, w_Top_mark_102, w_Top_mark_105, w_Top_mark_110, w_Top_mark_113, c_1, f_1_0, f_1_1, p_1_1, f_1_2, f_1_3, f_1_4, f_1_5, f_1_6, p_1_6, f_1_7, f_1_8, f_1_9, f_1_10, f_1_11, f_1_12, f_1_13, f_1_14, c_3, f_3_0, p_3_0, f_3_1, p_3_1, f_3_2, p_3_2, f_3_3, p_3_3, f_3_4, p_3_4, f_3_5, p_3_5, f_3_6, p_3_6, f_3_7, p_3_7, f_3_8, p_3_8, f_3_9, f_3_10, f_3_11, f_3_12, f_3_13, c_9, f_9_0, f_9_1, p_9_1, f_9_2, p_9_2, f_9_3, p_9_3, f_9_4, p_9_4, f_9_5, f_9_6, Option.some.injEq, exists_eq_left', exists_eq_left, Option.toList_some, Option.toList_none, List.cons_append, List.nil_append, true_and, and_true, Option.map_some, Option.map_none, t_isTold (d := d) (by omega) hT, t_hasPerson (d := d) (by omega) hT, t_hasMatter (d := d) (by omega) hT, t_hasSet (d := d) (by omega) hT hW, t_bitOf (d := d) (by omega), t_isClosed (d := d) (by omega) hT hW, t_sumOfAll (d := d) (by omega) hT hW, s_openOnes (d := d) (by omega) h9 hT hW hA, s_wishers (d := d) (by omega) h9 hT hW hA hAw, s_allCups (d := d) (by omega) h9 hT hW hA, h1, show ¬ ((1 : Int32) = 0) by decide, if_false, hy, hy4, if_true]
    · intro d xs s hd hC; obtain ⟨hR, -⟩ := hC; have hT := hR.1
      obtain ⟨d, rfl⟩ := x_1 (d := d) (by omega)
      rw [x_ev_in rfl (Nat.le_of_ble_eq_true rfl)]
      rw [show x_ent (x_nL g_M 331) [.ref 110, .int (nI m), .int y, .int n] = [some (.ref 110), some (.int (nI m)), some (.int y), some (.int n), none] from rfl]
      simp only [w_Ref_mark_0, w_Ref_mark_6, w_Ref_mark_9, w_Ref_mark_16, w_Ref_mark_19, w_Ref_mark_26, w_Ref_mark_29, w_Ref_mark_32, w_Ref_mark_36, w_Ref_mark_39, w_Ref_mark_42, w_Ref_mark_45, w_Ref_mark_53, w_Ref_mark_59, w_Ref_mark_72, c_110, f_110_0, p_110_0, f_110_1, f_110_2, f_110_3, f_110_4, f_110_5, p_110_5, f_110_6, f_110_7, p_110_7, f_110_8, p_110_8, f_110_9, p_110_9, f_110_10, p_110_10, f_110_11, p_110_11, f_110_12, p_110_12, f_110_13, p_110_13, f_110_14, f_110_15, f_110_16, p_110_16, f_110_17, f_110_18, p_110_18, f_110_19, p_110_19, f_110_20, f_110_21, p_110_21, f_110_22, p_110_22, f_110_23, f_110_24, f_110_25, p_110_25, f_110_26, f_110_27, f_110_28, f_110_29, f_110_30, f_110_31, p_110_31, f_110_32, p_110_32, f_110_33, p_110_33, f_110_34, p_110_34, f_110_35, f_110_36, f_110_37, f_110_38, Option.some.injEq, exists_eq_left', exists_eq_left, Option.toList_some, Option.toList_none, List.cons_append, List.nil_append, true_and, and_true, Option.map_some, Option.map_none, r_isTown (d := d) (by omega) hT, r_isPerson (d := d) (by omega) hT hW, r_isMatterI (d := d) (by omega) hT hW, r_isSet (d := d) (by omega) hT hW, r_allMatters (d := d) (by omega) hT hW, r_isClosed (d := d) (by omega) hT hW, r_sumOfAll (d := d) (by omega) hT hW, r_restsOf (d := d) (by omega) hT hW, r_in (d := d) (by omega), r_bit (d := d) (by omega), r_bits (d := d) (by omega), h1, show ¬ ((1 : Int32) = 0) by decide, if_false, e0, e1, g0, if_true]
  have k1 : ¬ nI k < 0 := nI_pos (by omega)
  have k2 : ¬ (1 : Int32) < nI k := nI_nlt (b := k) (a := 1) (by omega) (by omega)
  rcases in_cs (k := 1) (by omega) n with ⟨f0, fn⟩ | ⟨v, hv, rfl, f1⟩
  · refine ask2.do h' ⟨-2, cAsk0 ?_, rAsk0 ?_⟩
    · intro d xs s hd hC; obtain ⟨⟨hT, hA, hn, hacts⟩, -⟩ := hC
      obtain ⟨d, rfl⟩ := x_1 (d := d) (by omega)
      rw [x_ev_in rfl (Nat.le_of_ble_eq_true rfl)]
      rw [show x_ent (x_nL g_M 179) [.ref 1, .int (nI m), .int (nI k), .int n] = [some (.ref 1), some (.int (nI m)), some (.int (nI k)), some (.int n), none] from rfl]
      by_cases hy : n < 0
      · simp only [w_Top_mark_0, w_Top_mark_4, w_Top_mark_8, w_Top_mark_11, w_Top_mark_15, w_Top_mark_20, w_Top_mark_24, w_Top_mark_29, w_Top_mark_32, w_Top_mark_36, w_Top_mark_39, w_Top_mark_42, w_Top_mark_46, w_Top_mark_50, w_Top_mark_53, w_Top_mark_57, w_Top_mark_63, w_Top_mark_67, w_Top_mark_70, w_Top_mark_75, w_Top_mark_78, w_Top_mark_81, w_Top_mark_85, w_Top_mark_88, w_Top_mark_92, w_Top_mark_98, w_Top_mark_102, w_Top_mark_105, w_Top_mark_110, w_Top_mark_113, c_1, f_1_0, f_1_1, p_1_1, f_1_2, f_1_3, f_1_4, f_1_5, f_1_6, p_1_6, f_1_7, f_1_8, f_1_9, f_1_10, f_1_11, f_1_12, f_1_13, f_1_14, c_3, f_3_0, p_3_0, f_3_1, p_3_1, f_3_2, p_3_2, f_3_3, p_3_3, f_3_4, p_3_4, f_3_5, p_3_5, f_3_6, p_3_6, f_3_7, p_3_7, f_3_8, p_3_8, f_3_9, f_3_10, f_3_11, f_3_12, f_3_13, c_9, f_9_0, f_9_1, p_9_1, f_9_2, p_9_2, f_9_3, p_9_3, f_9_4, p_9_4, f_9_5, f_9_6, Option.some.injEq, exists_eq_left', exists_eq_left, Option.toList_some, Option.toList_none, List.cons_append, List.nil_append, true_and, and_true, Option.map_some, Option.map_none, t_isTold (d := d) (by omega) hT, t_hasPerson (d := d) (by omega) hT, t_hasMatter (d := d) (by omega) hT, t_hasSet (d := d) (by omega) hT hW, t_bitOf (d := d) (by omega), t_isClosed (d := d) (by omega) hT hW, t_sumOfAll (d := d) (by omega) hT hW, s_openOnes (d := d) (by omega) h9 hT hW hA, s_wishers (d := d) (by omega) h9 hT hW hA hAw, s_allCups (d := d) (by omega) h9 hT hW hA, h1, show ¬ ((1 : Int32) = 0) by decide, if_false, k1, k2, hy, if_true]
      · have hy4 : ¬ n ≤ 1 := by
          by_cases hz : nI 1 < n
          · exact Int32.not_le.mpr hz
          · rw [if_neg hy, if_neg hz] at f0
            exact absurd f0 (by decide)
        simp only [w_Top_mark_0, w_Top_mark_4, w_Top_mark_8, w_Top_mark_11, w_Top_mark_15, w_Top_mark_20, w_Top_mark_24, w_Top_mark_29, w_Top_mark_32, w_Top_mark_36, w_Top_mark_39, w_Top_mark_42, w_Top_mark_46, w_Top_mark_50, w_Top_mark_53, w_Top_mark_57, w_Top_mark_63, w_Top_mark_67, w_Top_mark_70, w_Top_mark_75, w_Top_mark_78, w_Top_mark_81, w_Top_mark_85, w_Top_mark_88, w_Top_mark_92, w_Top_mark_98, w_Top_mark_102, w_Top_mark_105, w_Top_mark_110, w_Top_mark_113, c_1, f_1_0, f_1_1, p_1_1, f_1_2, f_1_3, f_1_4, f_1_5, f_1_6, p_1_6, f_1_7, f_1_8, f_1_9, f_1_10, f_1_11, f_1_12, f_1_13, f_1_14, c_3, f_3_0, p_3_0, f_3_1, p_3_1, f_3_2, p_3_2, f_3_3, p_3_3, f_3_4, p_3_4, f_3_5, p_3_5, f_3_6, p_3_6, f_3_7, p_3_7, f_3_8, p_3_8, f_3_9, f_3_10, f_3_11, f_3_12, f_3_13, c_9, f_9_0, f_9_1, p_9_1, f_9_2, p_9_2, f_9_3, p_9_3, f_9_4, p_9_4, f_9_5, f_9_6, Option.some.injEq, exists_eq_left', exists_eq_left, Option.toList_some, Option.toList_none, List.cons_append, List.nil_append, true_and, and_true, Option.map_some, Option.map_none, t_isTold (d := d) (by omega) hT, t_hasPerson (d := d) (by omega) hT, t_hasMatter (d := d) (by omega) hT, t_hasSet (d := d) (by omega) hT hW, t_bitOf (d := d) (by omega), t_isClosed (d := d) (by omega) hT hW, t_sumOfAll (d := d) (by omega) hT hW, s_openOnes (d := d) (by omega) h9 hT hW hA, s_wishers (d := d) (by omega) h9 hT hW hA hAw, s_allCups (d := d) (by omega) h9 hT hW hA, h1, show ¬ ((1 : Int32) = 0) by decide, if_false, k1, k2, hy, hy4]
    · intro d xs s hd hC; obtain ⟨hR, -⟩ := hC; have hT := hR.1
      obtain ⟨d, rfl⟩ := x_1 (d := d) (by omega)
      rw [x_ev_in rfl (Nat.le_of_ble_eq_true rfl)]
      rw [show x_ent (x_nL g_M 331) [.ref 110, .int (nI m), .int (nI k), .int n] = [some (.ref 110), some (.int (nI m)), some (.int (nI k)), some (.int n), none] from rfl]
      simp only [w_Ref_mark_0, w_Ref_mark_6, w_Ref_mark_9, w_Ref_mark_16, w_Ref_mark_19, w_Ref_mark_26, w_Ref_mark_29, w_Ref_mark_32, w_Ref_mark_36, w_Ref_mark_39, w_Ref_mark_42, w_Ref_mark_45, w_Ref_mark_53, w_Ref_mark_59, w_Ref_mark_72, c_110, f_110_0, p_110_0, f_110_1, f_110_2, f_110_3, f_110_4, f_110_5, p_110_5, f_110_6, f_110_7, p_110_7, f_110_8, p_110_8, f_110_9, p_110_9, f_110_10, p_110_10, f_110_11, p_110_11, f_110_12, p_110_12, f_110_13, p_110_13, f_110_14, f_110_15, f_110_16, p_110_16, f_110_17, f_110_18, p_110_18, f_110_19, p_110_19, f_110_20, f_110_21, p_110_21, f_110_22, p_110_22, f_110_23, f_110_24, f_110_25, p_110_25, f_110_26, f_110_27, f_110_28, f_110_29, f_110_30, f_110_31, p_110_31, f_110_32, p_110_32, f_110_33, p_110_33, f_110_34, p_110_34, f_110_35, f_110_36, f_110_37, f_110_38, Option.some.injEq, exists_eq_left', exists_eq_left, Option.toList_some, Option.toList_none, List.cons_append, List.nil_append, true_and, and_true, Option.map_some, Option.map_none, r_isTown (d := d) (by omega) hT, r_isPerson (d := d) (by omega) hT hW, r_isMatterI (d := d) (by omega) hT hW, r_isSet (d := d) (by omega) hT hW, r_allMatters (d := d) (by omega) hT hW, r_isClosed (d := d) (by omega) hT hW, r_sumOfAll (d := d) (by omega) hT hW, r_restsOf (d := d) (by omega) hT hW, r_in (d := d) (by omega), r_bit (d := d) (by omega), r_bits (d := d) (by omega), h1, show ¬ ((1 : Int32) = 0) by decide, if_false, e0, e1, e2, e3, g1, f0, if_true, not_true_eq_false]
  have v1 : ¬ nI v < 0 := nI_pos (by omega)
  have v2 : nI v ≤ 1 := nI_le (b := 1) hv (by omega)
  by_cases hl : (wAc W).length = 0
  · have hA0 : wA W = aBegin (wT W) := aRun_nil hl hr
    have hl0 : nI (wAc W).length ≤ 0 := by rw [hl]; decide
    have hnil : wAc W = [] := List.eq_nil_of_length_eq_zero hl
    have hvb : nI v = b01 (decide (v = 1)) := by
      rcases (show v = 0 ∨ v = 1 by omega) with rfl | rfl <;> decide
    have w32 : m < 32 := by omega
    have ec : ∀ (s : xS) (j : Nat) (u : Int32), j = 7 ∨ j = 8 → cW s W → ∀ T', tP T' = tP (wT W) → clsT (s_p s 3 j u) 3 T' → cW (s_p s 3 j u) ((T', wAc W, wA W), W.2) := by
      intro s j u hj hC T' hP hT'
      obtain ⟨⟨hT, hA, hn, hacts⟩, -⟩ := id hC
      have hA' : clsS (s_p s 3 j u) 9 T' (wA W) := by
        have := clsS_at (s' := s_p s 3 j u) (fun q a b => by
          funext i
          have : ¬ q = 3 := by omega
          simp [s_p, this]) hA
        unfold clsS at this ⊢
        rw [hP]
        exact this
      exact cW_all hC (fun q hq => by
          funext i
          have : ¬ q = 3 := by omega
          simp [s_p, this]) (by simp [s_p]) rfl hT' hA' ⟨by rw [← hn]; simp [s_p], fun i hi => by rw [← hacts i hi]; simp [s_p]⟩
    have ei : 19 + 7 * nI m + 5 + nI k = nI (19 + 7 * m + (5 + k)) := by
      rw [show (7 : Int32) = nI 7 from rfl, pk_mul, show (19 : Int32) = nI 19 from rfl, nI_add, show (5 : Int32) = nI 5 from rfl, nI_add, nI_add]
      congr 1
      omega
    have e5k : 5 + nI k = nI (5 + k) := nI_add 5 k
    have hrr : ∀ (T' : Tw) (was : Int32), T'.1 = (wT W).1 → T'.2.2.2.2.2.2 = (wT W).2.2.2.2.2.2 → (∀ m' w, w < 7 → tOf T' m' w = if m' = m ∧ w = 5 + k then nI v else tOf (wT W) m' w) → tOf (wT W) m (5 + k) = was → rCall P 331 [.int (nI m), .int (nI k), .int (nI v)] W ((T', wAc W, wA W), W.2) was := by
      intro T' was hT1 hT2 ho hwas d xs s hd hC
      obtain ⟨hR, -⟩ := id hC
      have hT := hR.1
      refine ⟨s_p s 111 (19 + 7 * m + (5 + k)) (nI v), ?_, rW_all hC (fun q hq => by funext j; simp [s_p, hq]) rfl (refW_mark hW hm (by omega) (by omega) hT1 hT2 ho hR), fun q hq => ⟨by
          funext j
          have : ¬ q = 111 := by omega
          simp [s_p, this], rfl⟩⟩
      have e6 : x_rd (s.1 111) 135 6 = some (nI (wAc W).length) := by rw [show (6 : Int32) = nI 6 from rfl, x_rd_nI (by omega) (by omega), hR.2.1]
      have hx : x_rd (s.1 111) 135 (nI (19 + 7 * m + (5 + k))) = some (s.1 111 (19 + 7 * m + (5 + k))) := x_rd_nI (by omega) (by omega)
      obtain ⟨d, rfl⟩ := x_1 (d := d) (by omega)
      rw [x_ev_in rfl (Nat.le_of_ble_eq_true rfl)]
      rw [show x_ent (x_nL g_M 331) [.ref 110, .int (nI m), .int (nI k), .int (nI v)] = [some (.ref 110), some (.int (nI m)), some (.int (nI k)), some (.int (nI v)), none] from rfl]
      simp only [w_Ref_mark_0, w_Ref_mark_6, w_Ref_mark_9, w_Ref_mark_16, w_Ref_mark_19, w_Ref_mark_26, w_Ref_mark_29, w_Ref_mark_32, w_Ref_mark_36, w_Ref_mark_39, w_Ref_mark_42, w_Ref_mark_45, w_Ref_mark_53, w_Ref_mark_59, w_Ref_mark_72, c_110, f_110_0, p_110_0, f_110_1, f_110_2, f_110_3, f_110_4, f_110_5, p_110_5, f_110_6, f_110_7, p_110_7, f_110_8, p_110_8, f_110_9, p_110_9, f_110_10, p_110_10, f_110_11, p_110_11, f_110_12, p_110_12, f_110_13, p_110_13, f_110_14, f_110_15, f_110_16, p_110_16, f_110_17, f_110_18, p_110_18, f_110_19, p_110_19, f_110_20, f_110_21, p_110_21, f_110_22, p_110_22, f_110_23, f_110_24, f_110_25, p_110_25, f_110_26, f_110_27, f_110_28, f_110_29, f_110_30, f_110_31, p_110_31, f_110_32, p_110_32, f_110_33, p_110_33, f_110_34, p_110_34, f_110_35, f_110_36, f_110_37, f_110_38, e_111, i_111, Option.some.injEq, exists_eq_left', exists_eq_left, Option.toList_some, Option.toList_none, List.cons_append, List.nil_append, true_and, and_true, Option.map_some, Option.map_none, r_isTown (d := d) (by omega) hT, r_isPerson (d := d) (by omega) hT hW, r_isMatterI (d := d) (by omega) hT hW, r_isSet (d := d) (by omega) hT hW, r_allMatters (d := d) (by omega) hT hW, r_isClosed (d := d) (by omega) hT hW, r_sumOfAll (d := d) (by omega) hT hW, r_restsOf (d := d) (by omega) hT hW, r_in (d := d) (by omega), r_bit (d := d) (by omega), r_bits (d := d) (by omega), h1, show ¬ ((1 : Int32) = 0) by decide, if_false, e0, e1, e2, e3, g1, f1, if_true, not_false_eq_true, e6, hl0, ei, e5k, r_of (d := d) (by omega) hT hW hm (show 5 + k < 7 by omega), hwas, hx, nI_clamp (show 19 + 7 * m + (5 + k) < 2 ^ 31 by omega)]
    have hwb : ∀ (d : Nat) (xs : List Int32) (s : xS) (u : Int32), 1 ≤ d → x_ev g_M P d 180 [.int u, .int (nI m), .int (nI v)] (mkH xs s) (some (.int ((u &&& (((1 : Int32) <<< (nI m &&& 31)) ^^^ (-1))) ||| (nI v <<< (nI m &&& 31)))), mkH xs s) := by
      intro d xs s u hd
      obtain ⟨d, rfl⟩ := x_1 (d := d) (by omega)
      rw [x_ev_in rfl (Nat.le_of_ble_eq_true rfl)]
      rw [show x_ent (x_nL g_M 180) [.int u, .int (nI m), .int (nI v)] = [some (.int u), some (.int (nI m)), some (.int (nI v))] from rfl]
      simp only [w_Top_withBit_0]
    rcases (show k = 0 ∨ k = 1 by omega) with rfl | rfl
    · refine ⟨((tSetD (wT W) m (decide (v = 1)), wAc W, wA W), W.2), b01 (tDry (wT W) m), ⟨tOk_D hK, hl60, ?_, h'.2.2.2⟩, ?_, hrr _ _ rfl rfl (fun m' w hw => ?_) rfl⟩
      · rw [hnil, hA0]
        rfl
      · intro d xs s hd hC
        obtain ⟨⟨hT, hA, hn, hacts⟩, -⟩ := id hC
        refine ⟨s_p s 3 7 ((s.1 3 7 &&& (((1 : Int32) <<< (nI m &&& 31)) ^^^ (-1))) ||| (nI v <<< (nI m &&& 31))), ?_, ec s 7 _ (Or.inl rfl) hC _ rfl ?_, fun q hq => ⟨by
          funext j
          have : ¬ q = 3 := by omega
          simp [s_p, this], rfl⟩⟩
        · have t7 := hT.2.2.1 m hm
          obtain ⟨d, rfl⟩ := x_1 (d := d) (by omega)
          have wb := hwb d xs s (s.1 3 7) (by omega)
          rw [x_ev_in rfl (Nat.le_of_ble_eq_true rfl)]
          rw [show x_ent (x_nL g_M 179) [.ref 1, .int (nI m), .int (nI 0), .int (nI v)] = [some (.ref 1), some (.int (nI m)), some (.int (nI 0)), some (.int (nI v)), none] from rfl]
          simp only [w_Top_mark_0, w_Top_mark_4, w_Top_mark_8, w_Top_mark_11, w_Top_mark_15, w_Top_mark_20, w_Top_mark_24, w_Top_mark_29, w_Top_mark_32, w_Top_mark_36, w_Top_mark_39, w_Top_mark_42, w_Top_mark_46, w_Top_mark_50, w_Top_mark_53, w_Top_mark_57, w_Top_mark_63, w_Top_mark_67, w_Top_mark_70, w_Top_mark_75, w_Top_mark_78, w_Top_mark_81, w_Top_mark_85, w_Top_mark_88, w_Top_mark_92, w_Top_mark_98, w_Top_mark_102, w_Top_mark_105, w_Top_mark_110, w_Top_mark_113, c_1, f_1_0, f_1_1, p_1_1, f_1_2, f_1_3, f_1_4, f_1_5, f_1_6, p_1_6, f_1_7, f_1_8, f_1_9, f_1_10, f_1_11, f_1_12, f_1_13, f_1_14, c_3, f_3_0, p_3_0, f_3_1, p_3_1, f_3_2, p_3_2, f_3_3, p_3_3, f_3_4, p_3_4, f_3_5, p_3_5, f_3_6, p_3_6, f_3_7, p_3_7, f_3_8, p_3_8, f_3_9, f_3_10, f_3_11, f_3_12, f_3_13, c_9, f_9_0, f_9_1, p_9_1, f_9_2, p_9_2, f_9_3, p_9_3, f_9_4, p_9_4, f_9_5, f_9_6, Option.some.injEq, exists_eq_left', exists_eq_left, Option.toList_some, Option.toList_none, List.cons_append, List.nil_append, true_and, and_true, Option.map_some, Option.map_none, t_isTold (d := d) (by omega) hT, t_hasPerson (d := d) (by omega) hT, t_hasMatter (d := d) (by omega) hT, t_hasSet (d := d) (by omega) hT hW, t_bitOf (d := d) (by omega), t_isClosed (d := d) (by omega) hT hW, t_sumOfAll (d := d) (by omega) hT hW, s_openOnes (d := d) (by omega) h9 hT hW hA, s_wishers (d := d) (by omega) h9 hT hW hA hAw, s_allCups (d := d) (by omega) h9 hT hW hA, h1, show ¬ ((1 : Int32) = 0) by decide, if_false, k1, k2, v1, v2, if_true, hn, hl0, show nI 0 = 0 by decide, not_true_eq_false, bit_i w32, t7, x_ev_iff wb]
          rfl
        · obtain ⟨⟨t0, t1, t2, t3, t4, t5⟩, t6, t7, t8, t9, t10, t11, t12, t13⟩ := hT
          refine ⟨⟨t0, t1, t2, t3, t4, t5⟩, t6, fun m' hm' => ?_, t8, t9, t10, t11, t12, t13⟩
          have hm8 : m' < 8 := Nat.lt_of_lt_of_le hm' w2
          show bt ((s.1 3 7 &&& (((1 : Int32) <<< (nI m &&& 31)) ^^^ (-1))) ||| (nI v <<< (nI m &&& 31))) m' = if m' = m then decide (v = 1) else tDry (wT W) m'
          rw [b_wb w32 (by omega) hv]
          by_cases hc : m' = m
          · rw [if_pos hc, if_pos hc]
          · rw [if_neg hc, if_neg hc]
            exact t7 m' hm'
      · rcases (show w = 0 ∨ w = 1 ∨ w = 2 ∨ w = 3 ∨ w = 4 ∨ w = 5 ∨ w = 6 by omega) with rfl | rfl | rfl | rfl | rfl | rfl | rfl
        · rw [if_neg (by omega)]; rfl
        · rw [if_neg (by omega)]; rfl
        · rw [if_neg (by omega)]; rfl
        · rw [if_neg (by omega)]; rfl
        · rw [if_neg (by omega)]; rfl
        · show b01 (if m' = m then decide (v = 1) else tDry (wT W) m') = _
          by_cases hc : m' = m
          · rw [if_pos hc, if_pos ⟨hc, rfl⟩, hvb]
          · rw [if_neg hc, if_neg (fun z => hc z.1)]
            rfl
        · rw [if_neg (by omega)]; rfl
    · refine ⟨((tSetJ (wT W) m (decide (v = 1)), wAc W, wA W), W.2), b01 (tJug (wT W) m), ⟨tOk_J hK, hl60, ?_, h'.2.2.2⟩, ?_, hrr _ _ rfl rfl (fun m' w hw => ?_) rfl⟩
      · rw [hnil, hA0]
        rfl
      · intro d xs s hd hC
        obtain ⟨⟨hT, hA, hn, hacts⟩, -⟩ := id hC
        refine ⟨s_p s 3 8 ((s.1 3 8 &&& (((1 : Int32) <<< (nI m &&& 31)) ^^^ (-1))) ||| (nI v <<< (nI m &&& 31))), ?_, ec s 8 _ (Or.inr rfl) hC _ rfl ?_, fun q hq => ⟨by
          funext j
          have : ¬ q = 3 := by omega
          simp [s_p, this], rfl⟩⟩
        · have t8 := hT.2.2.2.1 m hm
          obtain ⟨d, rfl⟩ := x_1 (d := d) (by omega)
          have wb := hwb d xs s (s.1 3 8) (by omega)
          rw [x_ev_in rfl (Nat.le_of_ble_eq_true rfl)]
          rw [show x_ent (x_nL g_M 179) [.ref 1, .int (nI m), .int (nI 1), .int (nI v)] = [some (.ref 1), some (.int (nI m)), some (.int (nI 1)), some (.int (nI v)), none] from rfl]
          simp only [w_Top_mark_0, w_Top_mark_4, w_Top_mark_8, w_Top_mark_11, w_Top_mark_15, w_Top_mark_20, w_Top_mark_24, w_Top_mark_29, w_Top_mark_32, w_Top_mark_36, w_Top_mark_39, w_Top_mark_42, w_Top_mark_46, w_Top_mark_50, w_Top_mark_53, w_Top_mark_57, w_Top_mark_63, w_Top_mark_67, w_Top_mark_70, w_Top_mark_75, w_Top_mark_78, w_Top_mark_81, w_Top_mark_85, w_Top_mark_88, w_Top_mark_92, w_Top_mark_98, w_Top_mark_102, w_Top_mark_105, w_Top_mark_110, w_Top_mark_113, c_1, f_1_0, f_1_1, p_1_1, f_1_2, f_1_3, f_1_4, f_1_5, f_1_6, p_1_6, f_1_7, f_1_8, f_1_9, f_1_10, f_1_11, f_1_12, f_1_13, f_1_14, c_3, f_3_0, p_3_0, f_3_1, p_3_1, f_3_2, p_3_2, f_3_3, p_3_3, f_3_4, p_3_4, f_3_5, p_3_5, f_3_6, p_3_6, f_3_7, p_3_7, f_3_8, p_3_8, f_3_9, f_3_10, f_3_11, f_3_12, f_3_13, c_9, f_9_0, f_9_1, p_9_1, f_9_2, p_9_2, f_9_3, p_9_3, f_9_4, p_9_4, f_9_5, f_9_6, Option.some.injEq, exists_eq_left', exists_eq_left, Option.toList_some, Option.toList_none, List.cons_append, List.nil_append, true_and, and_true, Option.map_some, Option.map_none, t_isTold (d := d) (by omega) hT, t_hasPerson (d := d) (by omega) hT, t_hasMatter (d := d) (by omega) hT, t_hasSet (d := d) (by omega) hT hW, t_bitOf (d := d) (by omega), t_isClosed (d := d) (by omega) hT hW, t_sumOfAll (d := d) (by omega) hT hW, s_openOnes (d := d) (by omega) h9 hT hW hA, s_wishers (d := d) (by omega) h9 hT hW hA hAw, s_allCups (d := d) (by omega) h9 hT hW hA, h1, show ¬ ((1 : Int32) = 0) by decide, if_false, k1, k2, v1, v2, if_true, hn, hl0, show ¬ (nI 1 = 0) by decide, not_false_eq_true, bit_i w32, t8, x_ev_iff wb]
          rfl
        · obtain ⟨⟨t0, t1, t2, t3, t4, t5⟩, t6, t7, t8, t9, t10, t11, t12, t13⟩ := hT
          refine ⟨⟨t0, t1, t2, t3, t4, t5⟩, t6, t7, fun m' hm' => ?_, t9, t10, t11, t12, t13⟩
          have hm8 : m' < 8 := Nat.lt_of_lt_of_le hm' w2
          show bt ((s.1 3 8 &&& (((1 : Int32) <<< (nI m &&& 31)) ^^^ (-1))) ||| (nI v <<< (nI m &&& 31))) m' = if m' = m then decide (v = 1) else tJug (wT W) m'
          rw [b_wb w32 (by omega) hv]
          by_cases hc : m' = m
          · rw [if_pos hc, if_pos hc]
          · rw [if_neg hc, if_neg hc]
            exact t8 m' hm'
      · rcases (show w = 0 ∨ w = 1 ∨ w = 2 ∨ w = 3 ∨ w = 4 ∨ w = 5 ∨ w = 6 by omega) with rfl | rfl | rfl | rfl | rfl | rfl | rfl
        · rw [if_neg (by omega)]; rfl
        · rw [if_neg (by omega)]; rfl
        · rw [if_neg (by omega)]; rfl
        · rw [if_neg (by omega)]; rfl
        · rw [if_neg (by omega)]; rfl
        · rw [if_neg (by omega)]; rfl
        · show b01 (if m' = m then decide (v = 1) else tJug (wT W) m') = _
          by_cases hc : m' = m
          · rw [if_pos hc, if_pos ⟨hc, rfl⟩, hvb]
          · rw [if_neg hc, if_neg (fun z => hc z.1)]
            rfl
  · have hl0 : ¬ nI (wAc W).length ≤ 0 := nI_nle (by omega) (by omega)
    refine ask2.do h' ⟨-5, cAsk0 ?_, rAsk0 ?_⟩
    · intro d xs s hd hC; obtain ⟨⟨hT, hA, hn, hacts⟩, -⟩ := hC
      obtain ⟨d, rfl⟩ := x_1 (d := d) (by omega)
      rw [x_ev_in rfl (Nat.le_of_ble_eq_true rfl)]
      rw [show x_ent (x_nL g_M 179) [.ref 1, .int (nI m), .int (nI k), .int (nI v)] = [some (.ref 1), some (.int (nI m)), some (.int (nI k)), some (.int (nI v)), none] from rfl]
      simp only [w_Top_mark_0, w_Top_mark_4, w_Top_mark_8, w_Top_mark_11, w_Top_mark_15, w_Top_mark_20, w_Top_mark_24, w_Top_mark_29, w_Top_mark_32, w_Top_mark_36, w_Top_mark_39, w_Top_mark_42, w_Top_mark_46, w_Top_mark_50, w_Top_mark_53, w_Top_mark_57, w_Top_mark_63, w_Top_mark_67, w_Top_mark_70, w_Top_mark_75, w_Top_mark_78, w_Top_mark_81, w_Top_mark_85, w_Top_mark_88, w_Top_mark_92, w_Top_mark_98, w_Top_mark_102, w_Top_mark_105, w_Top_mark_110, w_Top_mark_113, c_1, f_1_0, f_1_1, p_1_1, f_1_2, f_1_3, f_1_4, f_1_5, f_1_6, p_1_6, f_1_7, f_1_8, f_1_9, f_1_10, f_1_11, f_1_12, f_1_13, f_1_14, c_3, f_3_0, p_3_0, f_3_1, p_3_1, f_3_2, p_3_2, f_3_3, p_3_3, f_3_4, p_3_4, f_3_5, p_3_5, f_3_6, p_3_6, f_3_7, p_3_7, f_3_8, p_3_8, f_3_9, f_3_10, f_3_11, f_3_12, f_3_13, c_9, f_9_0, f_9_1, p_9_1, f_9_2, p_9_2, f_9_3, p_9_3, f_9_4, p_9_4, f_9_5, f_9_6, Option.some.injEq, exists_eq_left', exists_eq_left, Option.toList_some, Option.toList_none, List.cons_append, List.nil_append, true_and, and_true, Option.map_some, Option.map_none, t_isTold (d := d) (by omega) hT, t_hasPerson (d := d) (by omega) hT, t_hasMatter (d := d) (by omega) hT, t_hasSet (d := d) (by omega) hT hW, t_bitOf (d := d) (by omega), t_isClosed (d := d) (by omega) hT hW, t_sumOfAll (d := d) (by omega) hT hW, s_openOnes (d := d) (by omega) h9 hT hW hA, s_wishers (d := d) (by omega) h9 hT hW hA hAw, s_allCups (d := d) (by omega) h9 hT hW hA, h1, show ¬ ((1 : Int32) = 0) by decide, if_false, k1, k2, v1, v2, if_true, hn, hl0]
    · intro d xs s hd hC; obtain ⟨hR, -⟩ := hC; have hT := hR.1
      have e6 : x_rd (s.1 111) 135 6 = some (nI (wAc W).length) := by rw [show (6 : Int32) = nI 6 from rfl, x_rd_nI (by omega) (by omega), hR.2.1]
      obtain ⟨d, rfl⟩ := x_1 (d := d) (by omega)
      rw [x_ev_in rfl (Nat.le_of_ble_eq_true rfl)]
      rw [show x_ent (x_nL g_M 331) [.ref 110, .int (nI m), .int (nI k), .int (nI v)] = [some (.ref 110), some (.int (nI m)), some (.int (nI k)), some (.int (nI v)), none] from rfl]
      simp only [w_Ref_mark_0, w_Ref_mark_6, w_Ref_mark_9, w_Ref_mark_16, w_Ref_mark_19, w_Ref_mark_26, w_Ref_mark_29, w_Ref_mark_32, w_Ref_mark_36, w_Ref_mark_39, w_Ref_mark_42, w_Ref_mark_45, w_Ref_mark_53, w_Ref_mark_59, w_Ref_mark_72, c_110, f_110_0, p_110_0, f_110_1, f_110_2, f_110_3, f_110_4, f_110_5, p_110_5, f_110_6, f_110_7, p_110_7, f_110_8, p_110_8, f_110_9, p_110_9, f_110_10, p_110_10, f_110_11, p_110_11, f_110_12, p_110_12, f_110_13, p_110_13, f_110_14, f_110_15, f_110_16, p_110_16, f_110_17, f_110_18, p_110_18, f_110_19, p_110_19, f_110_20, f_110_21, p_110_21, f_110_22, p_110_22, f_110_23, f_110_24, f_110_25, p_110_25, f_110_26, f_110_27, f_110_28, f_110_29, f_110_30, f_110_31, p_110_31, f_110_32, p_110_32, f_110_33, p_110_33, f_110_34, p_110_34, f_110_35, f_110_36, f_110_37, f_110_38, e_111, i_111, Option.some.injEq, exists_eq_left', exists_eq_left, Option.toList_some, Option.toList_none, List.cons_append, List.nil_append, true_and, and_true, Option.map_some, Option.map_none, r_isTown (d := d) (by omega) hT, r_isPerson (d := d) (by omega) hT hW, r_isMatterI (d := d) (by omega) hT hW, r_isSet (d := d) (by omega) hT hW, r_allMatters (d := d) (by omega) hT hW, r_isClosed (d := d) (by omega) hT hW, r_sumOfAll (d := d) (by omega) hT hW, r_restsOf (d := d) (by omega) hT hW, r_in (d := d) (by omega), r_bit (d := d) (by omega), r_bits (d := d) (by omega), h1, show ¬ ((1 : Int32) = 0) by decide, if_false, e0, e1, e2, e3, g1, f1, if_true, not_false_eq_true, e6, hl0]
end PRICE
