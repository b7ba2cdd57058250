/-! firm, firms, firmest, weak (own work) -/
def fL (T : Tw) : Nat → List Nat
  | 0 => []
  | n + 1 => if tFirm T (nI n) = true then fL T n ++ [n] else fL T n
theorem fL_len (T : Tw) : ∀ n, (fL T n).length ≤ n := by
  intro n
  induction n with
  | zero => exact Nat.le_refl _
  | succ n ih =>
    rw [fL]
    split
    · rw [List.length_append, List.length_singleton]; omega
    · omega
theorem fL_sm (T : Tw) : ∀ n, sm (fun n => if tFirm T (nI n) = true then 1 else 0) n = nI (fL T n).length := by
  intro n
  induction n with
  | zero => rfl
  | succ n ih =>
    rw [sm, ih, fL]
    split
    · rw [List.length_append, List.length_singleton, nI_1]
    · rw [Int32.add_zero]
theorem fL_lt (T : Tw) : ∀ n x, x ∈ fL T n → x < n := by
  intro n
  induction n with
  | zero => intro x h; cases h
  | succ n ih =>
    intro x h
    rw [fL] at h
    split at h
    · rcases List.mem_append.mp h with h | h
      · have := ih x h; omega
      · rw [List.mem_singleton.mp h]; omega
    · have := ih x h; omega
theorem lo_mem {L : List Nat} {i : Nat} (hi : i < L.length) : lo L i ∈ L := by
  unfold lo
  rw [List.getD_eq_getElem?_getD, List.getElem?_eq_getElem hi]
  exact List.getElem_mem _
theorem lo_ap {L : List Nat} {m i : Nat} (h : i < L.length) : lo (L ++ [m]) i = lo L i := by rw [lo_app L m (by rw [List.length_append]; omega), if_pos h]
/-- the first of the best among some -/
def bLn (T : Tw) (L : List Nat) : Nat → Nat
  | 0 => 0
  | i + 1 => if tAll T (nI (bLn T L i)) < tAll T (nI (lo L i)) then lo L i else bLn T L i
def bF (T : Tw) : Nat → Nat
  | 0 => 0
  | n + 1 => if tFirm T (nI n) = true ∧ tAll T (nI (bF T n)) < tAll T (nI n) then n else bF T n
theorem bLn_ap (T : Tw) (L : List Nat) (m : Nat) : ∀ i, i ≤ L.length → bLn T (L ++ [m]) i = bLn T L i := by
  intro i
  induction i with
  | zero => intro _; rfl
  | succ i ih => intro h; rw [bLn, bLn, ih (by omega), lo_ap (by omega)]
theorem bLn_bF (T : Tw) : ∀ n, bLn T (fL T n) (fL T n).length = bF T n := by
  intro n
  induction n with
  | zero => rfl
  | succ n ih =>
    rw [fL, bF]
    by_cases hf : tFirm T (nI n) = true
    · have e : lo (fL T n ++ [n]) (fL T n).length = n := by rw [lo_app _ n (by simp), if_neg (Nat.lt_irrefl _)]
      rw [if_pos hf, List.length_append, List.length_singleton, bLn, bLn_ap T _ n _ (Nat.le_refl _), ih, e]
      simp only [hf, true_and]
    · rw [if_neg hf, ih, if_neg (fun z => hf z.1)]
theorem tAll_0 (T : Tw) : tAll T (nI 0) = 0 := by
  unfold tAll
  rw [sm_eq (g := fun _ => 0) (fun i _ => by rw [show nI 0 = 0 from rfl, b_0]; rfl), sm_0]
def ffS (T : Tw) (s : xS) : Nat → xS := fo (fun m s' => if tFirm T (nI m) = true then s_p (s_p s' 28 (fL T m).length (nI m)) 25 7 (nI ((fL T m).length + 1)) else s') (s_p s 25 7 0)
theorem ffS_f (T : Tw) (s : xS) : ∀ n, (ffS T s n).1 25 7 = nI (fL T n).length ∧ (∀ i, i < (fL T n).length → (ffS T s n).1 28 i = nI (lo (fL T n) i)) ∧ (∀ q, q ≠ 25 → q ≠ 28 → (ffS T s n).1 q = s.1 q) ∧ (ffS T s n).2 = s.2 := by
  intro n
  induction n with
  | zero => exact ⟨by simp [ffS, fo, s_p, fL]; rfl, fun i hi => absurd hi (Nat.not_lt_zero _), fun q h1 _ => (by funext k; simp [ffS, fo, s_p, h1]), rfl⟩
  | succ n ih =>
    obtain ⟨i1, i2, i3, i4⟩ := ih
    have e : ffS T s (n + 1) = if tFirm T (nI n) = true then s_p (s_p (ffS T s n) 28 (fL T n).length (nI n)) 25 7 (nI ((fL T n).length + 1)) else ffS T s n := rfl
    rw [e, fL]
    by_cases hf : tFirm T (nI n) = true
    · rw [if_pos hf, if_pos hf]
      refine ⟨by simp [s_p], fun i hi => ?_, fun q h1 h2 => ?_, i4⟩
      · rw [lo_app _ _ hi]
        by_cases h1 : i < (fL T n).length
        · have h2 : ¬ i = (fL T n).length := by omega
          rw [if_pos h1, ← i2 i h1]
          simp [s_p, h2]
        · have h2 : i = (fL T n).length := by simp at hi; omega
          rw [if_neg h1]
          simp [s_p, h2]
      · rw [← i3 q h1 h2]
        funext k
        simp [s_p, h1, h2]
    · rw [if_neg hf, if_neg hf]
      exact ⟨i1, i2, i3, i4⟩
section FIRM3
variable {P : Nat → List Value → Option Value} {d : Nat} {xs : List Int32} {s : xS} {T : Tw}
theorem s_findFirm (hd : 7 ≤ d) (hT : clsT s 3 T) (hW : tWf T) : x_ev g_M P d 49 [.ref 25] (mkH xs s) (some (.int (nI (fL T (2 ^ tM T)).length)), mkH xs (ffS T s (2 ^ tM T))) := by
  have hp := p2_le (tM T) (by have := hW.2.1; omega)
  have hTm : ∀ m, clsT (ffS T s m) 3 T := fun m => clsT_off (fun q a b => (ffS_f T s m).2.2.1 q (by omega) (by omega)) hT
  obtain ⟨d, rfl⟩ := x_1 (d := d) (by omega)
  rw [x_ev_in rfl (Nat.le_of_ble_eq_true rfl)]
  rw [show x_ent (x_nL g_M 49) [.ref 25] = [some (.ref 25), none] from rfl]
  simp only [w_Sets_findFirm_0, w_Sets_findFirm_5, c_25, f_25_0, f_25_1, f_25_2, f_25_3, f_25_4, f_25_5, f_25_6, f_25_7, p_25_7, Option.some.injEq, exists_eq_left', exists_eq_left, Option.toList_some, Option.toList_none, List.cons_append, List.nil_append, true_and, and_true, Option.map_some, Option.map_none]
  have key := x_up (C := x_ev g_M P d) (k := 49) (r := (some (.int (nI (fL T (2 ^ tM T)).length)), mkH xs (ffS T s (2 ^ tM T)))) (N := 2 ^ tM T) (F := fun m => (7, [some (.ref 25), some (.int (nI m))], [], mkH xs (ffS T s m))) (fun m hm => by
    have hc : ¬ nI (2 ^ tM T) ≤ nI m := nI_ge hm (by omega)
    have e7 := (ffS_f T s m).1
    have hl := fL_len T m
    have hx : x_rd ((ffS T s m).1 28) 256 (nI (fL T m).length) = some ((ffS T s m).1 28 (fL T m).length) := x_rd_nI (by omega) (by omega)
    have e : ffS T s (m + 1) = if tFirm T (nI m) = true then s_p (s_p (ffS T s m) 28 (fL T m).length (nI m)) 25 7 (nI ((fL T m).length + 1)) else ffS T s m := rfl
    have e8 : (s_p (ffS T s m) 28 (fL T m).length (nI m)).1 25 7 = nI (fL T m).length := by simp [s_p, e7]
    simp only [w_Sets_findFirm_0, w_Sets_findFirm_5, w_Sets_findFirm_12, w_Sets_findFirm_15, w_Sets_findFirm_20, w_Sets_findFirm_23, w_Sets_findFirm_27, w_Sets_findFirm_31, w_Sets_findFirm_33, w_Sets_findFirm_38, w_Sets_findFirm_43, w_Sets_findFirm_49, w_Sets_findFirm_53, w_Sets_findFirm_7 (l1 := nI m), c_25, f_25_0, f_25_1, f_25_2, f_25_3, f_25_4, f_25_5, f_25_6, f_25_7, p_25_7, e_28, i_28, Option.some.injEq, exists_eq_left', exists_eq_left, Option.toList_some, Option.toList_none, List.cons_append, List.nil_append, true_and, and_true, Option.map_some, Option.map_none, s_allSets (d := d) (by omega) (hTm m) hW, hc, if_false, s_isFirm (d := d) (by omega) (hTm m) hW, e, e7, hx, nI_clamp (show (fL T m).length < 2 ^ 31 by omega), e8, nI_1]
    by_cases hf : tFirm T (nI m) = true
    · simp only [hf, b01, if_true, show ¬ ((1 : Int32) = 0) by decide, if_false]
    · simp only [hf, b01, Bool.false_eq_true, if_false, if_true]) 0 (Nat.zero_le _)
  refine key.mpr ?_
  simp only [w_Sets_findFirm_0, w_Sets_findFirm_5, w_Sets_findFirm_12, w_Sets_findFirm_15, w_Sets_findFirm_20, w_Sets_findFirm_23, w_Sets_findFirm_27, w_Sets_findFirm_31, w_Sets_findFirm_33, w_Sets_findFirm_38, w_Sets_findFirm_43, w_Sets_findFirm_49, w_Sets_findFirm_53, w_Sets_findFirm_7 (l1 := nI (2 ^ tM T)), c_25, f_25_0, f_25_1, f_25_2, f_25_3, f_25_4, f_25_5, f_25_6, f_25_7, p_25_7, e_28, i_28, Option.some.injEq, exists_eq_left', exists_eq_left, Option.toList_some, Option.toList_none, List.cons_append, List.nil_append, true_and, and_true, Option.map_some, Option.map_none, s_allSets (d := d) (by omega) (hTm _) hW, show nI (2 ^ tM T) ≤ nI (2 ^ tM T) from Int32.le_refl _, if_true, (ffS_f T s (2 ^ tM T)).1]
theorem s_bestFirm (hd : 8 ≤ d) (hT : clsT s 3 T) (hW : tWf T) : x_ev g_M P d 50 [.ref 25] (mkH xs s) (some (.int (nI (bF T (2 ^ tM T)))), mkH xs (ffS T s (2 ^ tM T))) := by
  have hp := p2_le (tM T) (by have := hW.2.1; omega)
  have hl := fL_len T (2 ^ tM T)
  obtain ⟨f1, f2, f3, f4⟩ := ffS_f T s (2 ^ tM T)
  obtain ⟨d, rfl⟩ := x_1 (d := d) (by omega)
  have q1 := s_findFirm (P := P) (d := d) (xs := xs) (by omega) hT hW
  generalize hs' : ffS T s (2 ^ tM T) = s' at *
  have hT' : clsT s' 3 T := clsT_off (fun q a b => f3 q (by omega) (by omega)) hT
  rw [← bLn_bF]
  generalize hL : fL T (2 ^ tM T) = L at *
  rw [x_ev_in rfl (Nat.le_of_ble_eq_true rfl)]
  rw [show x_ent (x_nL g_M 50) [.ref 25] = [some (.ref 25), none, none, none, none] from rfl]
  simp only [w_Sets_bestFirm_0, w_Sets_bestFirm_4, c_25, f_25_0, f_25_1, f_25_2, f_25_3, f_25_4, f_25_5, f_25_6, f_25_7, p_25_7, Option.some.injEq, exists_eq_left', exists_eq_left, Option.toList_some, Option.toList_none, List.cons_append, List.nil_append, true_and, and_true, Option.map_some, Option.map_none, x_ev_iff q1]
  have e0 : (0 : Int32) = tAll T (nI (bLn T L 0)) := (tAll_0 T).symm
  have key := x_upO (C := x_ev g_M P d) (k := 50) (r := (some (.int (nI (bLn T L L.length))), mkH xs s')) (N := L.length) (E := True) (F := fun m o => (11, [some (.ref 25), some (.int (nI (bLn T L m))), some (.int (tAll T (nI (bLn T L m)))), some (.int (nI m)), o], [], mkH xs s')) (fun m o hm => ⟨some (.int (tAll T (nI (lo L m)))), by
    have hc : ¬ nI L.length ≤ nI m := nI_ge hm (by omega)
    have hx : x_rd (s'.1 28) 256 (nI m) = some (nI (lo L m)) := by rw [x_rd_nI (by omega) (by omega), f2 m hm]
    have hle : tAll T (nI (lo L m)) ≤ tAll T (nI (bLn T L m)) ↔ ¬ tAll T (nI (bLn T L m)) < tAll T (nI (lo L m)) := Int32.not_lt.symm
    simp only [w_Sets_bestFirm_0, w_Sets_bestFirm_4, w_Sets_bestFirm_16, w_Sets_bestFirm_19, w_Sets_bestFirm_23, w_Sets_bestFirm_27, w_Sets_bestFirm_29, w_Sets_bestFirm_32, w_Sets_bestFirm_40, w_Sets_bestFirm_44, w_Sets_bestFirm_46, w_Sets_bestFirm_50, w_Sets_bestFirm_56, w_Sets_bestFirm_11 (l3 := nI m), c_3, f_3_0, p_3_0, f_3_1, p_3_1, f_3_2, p_3_2, f_3_3, p_3_3, f_3_4, p_3_4, f_3_5, p_3_5, f_3_6, p_3_6, f_3_7, p_3_7, f_3_8, p_3_8, f_3_9, f_3_10, f_3_11, f_3_12, f_3_13, c_25, f_25_0, f_25_1, f_25_2, f_25_3, f_25_4, f_25_5, f_25_6, f_25_7, p_25_7, e_28, i_28, Option.some.injEq, exists_eq_left', exists_eq_left, Option.toList_some, Option.toList_none, List.cons_append, List.nil_append, true_and, and_true, Option.map_some, Option.map_none, f1, hc, if_false, hx, t_sumOfAll (d := d) (by omega) hT' hW, hle, nI_1, bLn]
    by_cases h1 : tAll T (nI (bLn T L m)) < tAll T (nI (lo L m))
    · simp only [h1, not_true_eq_false, if_false, if_true]
    · simp only [h1, not_false_eq_true, if_true, if_false]⟩) (fun o => by
    simp only [w_Sets_bestFirm_0, w_Sets_bestFirm_4, w_Sets_bestFirm_16, w_Sets_bestFirm_19, w_Sets_bestFirm_23, w_Sets_bestFirm_27, w_Sets_bestFirm_29, w_Sets_bestFirm_32, w_Sets_bestFirm_40, w_Sets_bestFirm_44, w_Sets_bestFirm_46, w_Sets_bestFirm_50, w_Sets_bestFirm_56, w_Sets_bestFirm_11 (l3 := nI L.length), c_3, f_3_0, p_3_0, f_3_1, p_3_1, f_3_2, p_3_2, f_3_3, p_3_3, f_3_4, p_3_4, f_3_5, p_3_5, f_3_6, p_3_6, f_3_7, p_3_7, f_3_8, p_3_8, f_3_9, f_3_10, f_3_11, f_3_12, f_3_13, c_25, f_25_0, f_25_1, f_25_2, f_25_3, f_25_4, f_25_5, f_25_6, f_25_7, p_25_7, e_28, i_28, Option.some.injEq, exists_eq_left', exists_eq_left, Option.toList_some, Option.toList_none, List.cons_append, List.nil_append, true_and, and_true, Option.map_some, Option.map_none, f1, show nI L.length ≤ nI L.length from Int32.le_refl _, if_true]) L.length 0 none (by omega)
  simp only [← e0] at key
  exact key.mpr trivial
end FIRM3
section FIRM4
variable {P : Nat → List Value → Option Value} {W : Wd}
theorem ffS_ke (T : Tw) (s : xS) (n : Nat) : keC s (ffS T s n) := fun q hq => ⟨(ffS_f T s n).2.2.1 q (by omega) (by omega), by rw [(ffS_f T s n).2.2.2]⟩
set_option maxHeartbeats 4000000 in
theorem k_firms (h : wOk W) : ask2 P 153 292 [] W := by
  obtain ⟨hK, hl60, hr, hrest⟩ := h; have hW := hK.1; have hO := aOk_run hK _ _ _ (aOk_begin hK) hr; have hAw := hO.1; have w1 := hW.1; have w2 := hW.2.1; have h9 : 9 ∈ g_SP := by decide
  have hp2 := p2_le (tM (wT W)) (by omega)
  by_cases h1 : tLi (wT W) ≤ 0
  · refine ⟨-2, cAsk0 ?_, rAsk0 ?_⟩
    · intro d xs s hd hC; obtain ⟨⟨hT, hA, hn, hacts⟩, -⟩ := hC
      obtain ⟨d, rfl⟩ := x_1 (d := d) (by omega)
      rw [x_ev_in rfl (Nat.le_of_ble_eq_true rfl)]
      rw [show x_ent (x_nL g_M 153) [.ref 1] = [some (.ref 1)] from rfl]
      simp only [w_Top_firms_0, w_Top_firms_4, w_Top_firms_7, w_Top_firms_10, w_Top_firms_14, w_Top_firms_17, w_Top_firms_20, w_Top_firms_22, c_1, f_1_0, f_1_1, p_1_1, f_1_2, f_1_3, f_1_4, f_1_5, f_1_6, p_1_6, f_1_7, f_1_8, f_1_9, f_1_10, f_1_11, f_1_12, f_1_13, f_1_14, c_3, f_3_0, p_3_0, f_3_1, p_3_1, f_3_2, p_3_2, f_3_3, p_3_3, f_3_4, p_3_4, f_3_5, p_3_5, f_3_6, p_3_6, f_3_7, p_3_7, f_3_8, p_3_8, f_3_9, f_3_10, f_3_11, f_3_12, f_3_13, c_9, f_9_0, f_9_1, p_9_1, f_9_2, p_9_2, f_9_3, p_9_3, f_9_4, p_9_4, f_9_5, f_9_6, Option.some.injEq, exists_eq_left', exists_eq_left, Option.toList_some, Option.toList_none, List.cons_append, List.nil_append, true_and, and_true, Option.map_some, Option.map_none, t_isTold (d := d) (by omega) hT, t_hasPerson (d := d) (by omega) hT, t_hasMatter (d := d) (by omega) hT, t_hasSet (d := d) (by omega) hT hW, t_bitOf (d := d) (by omega), t_isClosed (d := d) (by omega) hT hW, t_sumOfAll (d := d) (by omega) hT hW, s_openOnes (d := d) (by omega) h9 hT hW hA, s_wishers (d := d) (by omega) h9 hT hW hA hAw, s_allCups (d := d) (by omega) h9 hT hW hA, h1, show ¬ ((1 : Int32) = 0) by decide, not_true_eq_false, not_false_eq_true, if_true, if_false]
    · intro d xs s hd hC; obtain ⟨hR, -⟩ := hC; have hT := hR.1
      obtain ⟨d, rfl⟩ := x_1 (d := d) (by omega)
      rw [x_ev_in rfl (Nat.le_of_ble_eq_true rfl)]
      rw [show x_ent (x_nL g_M 292) [.ref 110] = [some (.ref 110), none, none] from rfl]
      simp only [w_Ref_firms_0, w_Ref_firms_4, w_Ref_firms_7, w_Ref_firms_10, w_Ref_firms_19, w_Ref_firms_22, w_Ref_firms_28, w_Ref_firms_31, w_Ref_firms_35, w_Ref_firms_36, w_Ref_firms_44, c_110, f_110_0, p_110_0, f_110_1, f_110_2, f_110_3, f_110_4, f_110_5, p_110_5, f_110_6, f_110_7, p_110_7, f_110_8, p_110_8, f_110_9, p_110_9, f_110_10, p_110_10, f_110_11, p_110_11, f_110_12, p_110_12, f_110_13, p_110_13, f_110_14, f_110_15, f_110_16, p_110_16, f_110_17, f_110_18, p_110_18, f_110_19, p_110_19, f_110_20, f_110_21, p_110_21, f_110_22, p_110_22, f_110_23, f_110_24, f_110_25, p_110_25, f_110_26, f_110_27, f_110_28, f_110_29, f_110_30, f_110_31, p_110_31, f_110_32, p_110_32, f_110_33, p_110_33, f_110_34, p_110_34, f_110_35, f_110_36, f_110_37, f_110_38, Option.some.injEq, exists_eq_left', exists_eq_left, Option.toList_some, Option.toList_none, List.cons_append, List.nil_append, true_and, and_true, Option.map_some, Option.map_none, r_isTown (d := d) (by omega) hT, r_isPerson (d := d) (by omega) hT hW, r_isMatterI (d := d) (by omega) hT hW, r_isSet (d := d) (by omega) hT hW, r_allMatters (d := d) (by omega) hT hW, r_isClosed (d := d) (by omega) hT hW, r_sumOfAll (d := d) (by omega) hT hW, r_restsOf (d := d) (by omega) hT hW, r_in (d := d) (by omega), r_bit (d := d) (by omega), r_bits (d := d) (by omega), h1, show ¬ ((1 : Int32) = 0) by decide, not_true_eq_false, not_false_eq_true, if_true, if_false]
  · refine ⟨nI (fL (wT W) (2 ^ tM (wT W))).length, cAsk ?_, rAsk ?_⟩
    · intro d xs s hd hC; obtain ⟨⟨hT, hA, hn, hacts⟩, -⟩ := hC
      obtain ⟨d, rfl⟩ := x_1 (d := d) (by omega)
      refine ⟨_, ?_, ffS_ke (wT W) s (2 ^ tM (wT W))⟩
      rw [x_ev_in rfl (Nat.le_of_ble_eq_true rfl)]
      rw [show x_ent (x_nL g_M 153) [.ref 1] = [some (.ref 1)] from rfl]
      simp only [w_Top_firms_0, w_Top_firms_4, w_Top_firms_7, w_Top_firms_10, w_Top_firms_14, w_Top_firms_17, w_Top_firms_20, w_Top_firms_22, c_1, f_1_0, f_1_1, p_1_1, f_1_2, f_1_3, f_1_4, f_1_5, f_1_6, p_1_6, f_1_7, f_1_8, f_1_9, f_1_10, f_1_11, f_1_12, f_1_13, f_1_14, c_3, f_3_0, p_3_0, f_3_1, p_3_1, f_3_2, p_3_2, f_3_3, p_3_3, f_3_4, p_3_4, f_3_5, p_3_5, f_3_6, p_3_6, f_3_7, p_3_7, f_3_8, p_3_8, f_3_9, f_3_10, f_3_11, f_3_12, f_3_13, c_9, f_9_0, f_9_1, p_9_1, f_9_2, p_9_2, f_9_3, p_9_3, f_9_4, p_9_4, f_9_5, f_9_6, c_25, f_25_0, f_25_1, f_25_2, f_25_3, f_25_4, f_25_5, f_25_6, f_25_7, p_25_7, Option.some.injEq, exists_eq_left', exists_eq_left, Option.toList_some, Option.toList_none, List.cons_append, List.nil_append, true_and, and_true, Option.map_some, Option.map_none, t_isTold (d := d) (by omega) hT, t_hasPerson (d := d) (by omega) hT, t_hasMatter (d := d) (by omega) hT, t_hasSet (d := d) (by omega) hT hW, t_bitOf (d := d) (by omega), t_isClosed (d := d) (by omega) hT hW, t_sumOfAll (d := d) (by omega) hT hW, s_openOnes (d := d) (by omega) h9 hT hW hA, s_wishers (d := d) (by omega) h9 hT hW hA hAw, s_allCups (d := d) (by omega) h9 hT hW hA, x_ev_iff (s_findFirm (P := P) (d := d) (xs := xs) (by omega) hT hW), h1, show ¬ ((1 : Int32) = 0) by decide, not_false_eq_true, if_true, if_false]
    · intro d xs s hd hC; obtain ⟨hR, -⟩ := hC; have hT := hR.1
      obtain ⟨d, rfl⟩ := x_1 (d := d) (by omega)
      obtain ⟨⟨s', ho⟩, e⟩ := x_upX (C := x_ev g_M P d) (k := 292) (N := 2 ^ tM (wT W)) (β := {z : xS // off25 s z}) (G := fun o => (some (.int (nI (fL (wT W) (2 ^ tM (wT W))).length)), mkH xs o.1)) (F := fun m o => (14, [some (.ref 110), some (.int (sm (fun n => if tFirm (wT W) (nI n) = true then 1 else 0) m)), some (.int (nI m))], [], mkH xs o.1)) (fun m o hm => by
        have hc : ¬ nI (2 ^ tM (wT W)) ≤ nI m := nI_ge hm (by omega)
        have hT1 := o.2.T hT
        obtain ⟨s2, q1, q2⟩ := r_isFirm (P := P) (d := d) (xs := xs) (by omega) hT1 hW (nI m)
        refine ⟨⟨s2, o.2.tr q2⟩, fun r => ?_⟩
        simp only [w_Ref_firms_0, w_Ref_firms_4, w_Ref_firms_7, w_Ref_firms_10, w_Ref_firms_19, w_Ref_firms_22, w_Ref_firms_28, w_Ref_firms_31, w_Ref_firms_35, w_Ref_firms_36, w_Ref_firms_44, w_Ref_firms_14 (l2 := nI m), c_110, f_110_0, p_110_0, f_110_1, f_110_2, f_110_3, f_110_4, f_110_5, p_110_5, f_110_6, f_110_7, p_110_7, f_110_8, p_110_8, f_110_9, p_110_9, f_110_10, p_110_10, f_110_11, p_110_11, f_110_12, p_110_12, f_110_13, p_110_13, f_110_14, f_110_15, f_110_16, p_110_16, f_110_17, f_110_18, p_110_18, f_110_19, p_110_19, f_110_20, f_110_21, p_110_21, f_110_22, p_110_22, f_110_23, f_110_24, f_110_25, p_110_25, f_110_26, f_110_27, f_110_28, f_110_29, f_110_30, f_110_31, p_110_31, f_110_32, p_110_32, f_110_33, p_110_33, f_110_34, p_110_34, f_110_35, f_110_36, f_110_37, f_110_38, e_111, i_111, Option.some.injEq, exists_eq_left', exists_eq_left, Option.toList_some, Option.toList_none, List.cons_append, List.nil_append, true_and, and_true, Option.map_some, Option.map_none, r_allMatters (d := d) (by omega) hT1 hW, full_lt hW, hc, if_false, x_ev_iff q1, nI_1, sm]
        by_cases hb : tFirm (wT W) (nI m) = true
        · simp only [hb, b01, if_true, show ¬ ((1 : Int32) = 0) by decide, if_false]
        · simp only [hb, b01, if_false, if_true, Bool.false_eq_true]) (fun o => by
        simp only [w_Ref_firms_0, w_Ref_firms_4, w_Ref_firms_7, w_Ref_firms_10, w_Ref_firms_19, w_Ref_firms_22, w_Ref_firms_28, w_Ref_firms_31, w_Ref_firms_35, w_Ref_firms_36, w_Ref_firms_44, w_Ref_firms_14 (l2 := nI (2 ^ tM (wT W))), c_110, f_110_0, p_110_0, f_110_1, f_110_2, f_110_3, f_110_4, f_110_5, p_110_5, f_110_6, f_110_7, p_110_7, f_110_8, p_110_8, f_110_9, p_110_9, f_110_10, p_110_10, f_110_11, p_110_11, f_110_12, p_110_12, f_110_13, p_110_13, f_110_14, f_110_15, f_110_16, p_110_16, f_110_17, f_110_18, p_110_18, f_110_19, p_110_19, f_110_20, f_110_21, p_110_21, f_110_22, p_110_22, f_110_23, f_110_24, f_110_25, p_110_25, f_110_26, f_110_27, f_110_28, f_110_29, f_110_30, f_110_31, p_110_31, f_110_32, p_110_32, f_110_33, p_110_33, f_110_34, p_110_34, f_110_35, f_110_36, f_110_37, f_110_38, e_111, i_111, Option.some.injEq, exists_eq_left', exists_eq_left, Option.toList_some, Option.toList_none, List.cons_append, List.nil_append, true_and, and_true, Option.map_some, Option.map_none, r_allMatters (d := d) (by omega) (o.2.T hT) hW, full_lt hW, show nI (2 ^ tM (wT W)) ≤ nI (2 ^ tM (wT W)) from Int32.le_refl _, if_true, fL_sm]) (2 ^ tM (wT W)) 0 ⟨s, off25.rf⟩ (by omega)
      refine ⟨s', ?_, ho.ke⟩
      rw [x_ev_in rfl (Nat.le_of_ble_eq_true rfl)]
      rw [show x_ent (x_nL g_M 292) [.ref 110] = [some (.ref 110), none, none] from rfl]
      simp only [w_Ref_firms_0, w_Ref_firms_4, w_Ref_firms_7, w_Ref_firms_10, w_Ref_firms_19, w_Ref_firms_22, w_Ref_firms_28, w_Ref_firms_31, w_Ref_firms_35, w_Ref_firms_36, w_Ref_firms_44, c_110, f_110_0, p_110_0, f_110_1, f_110_2, f_110_3, f_110_4, f_110_5, p_110_5, f_110_6, f_110_7, p_110_7, f_110_8, p_110_8, f_110_9, p_110_9, f_110_10, p_110_10, f_110_11, p_110_11, f_110_12, p_110_12, f_110_13, p_110_13, f_110_14, f_110_15, f_110_16, p_110_16, f_110_17, f_110_18, p_110_18, f_110_19, p_110_19, f_110_20, f_110_21, p_110_21, f_110_22, p_110_22, f_110_23, f_110_24, f_110_25, p_110_25, f_110_26, f_110_27, f_110_28, f_110_29, f_110_30, f_110_31, p_110_31, f_110_32, p_110_32, f_110_33, p_110_33, f_110_34, p_110_34, f_110_35, f_110_36, f_110_37, f_110_38, Option.some.injEq, exists_eq_left', exists_eq_left, Option.toList_some, Option.toList_none, List.cons_append, List.nil_append, true_and, and_true, Option.map_some, Option.map_none, r_isTown (d := d) (by omega) hT, r_isPerson (d := d) (by omega) hT hW, r_isMatterI (d := d) (by omega) hT hW, r_isSet (d := d) (by omega) hT hW, r_allMatters (d := d) (by omega) hT hW, r_isClosed (d := d) (by omega) hT hW, r_sumOfAll (d := d) (by omega) hT hW, r_restsOf (d := d) (by omega) hT hW, r_in (d := d) (by omega), r_bit (d := d) (by omega), r_bits (d := d) (by omega), h1, show ¬ ((1 : Int32) = 0) by decide, not_false_eq_true, if_true, if_false]
      exact e
set_option maxHeartbeats 4000000 in
theorem k_firmest (h : wOk W) : ask2 P 154 293 [] W := by
  obtain ⟨hK, hl60, hr, hrest⟩ := h; have hW := hK.1; have hO := aOk_run hK _ _ _ (aOk_begin hK) hr; have hAw := hO.1; have w1 := hW.1; have w2 := hW.2.1; have h9 : 9 ∈ g_SP := by decide
  have hp2 := p2_le (tM (wT W)) (by omega)
  by_cases h1 : tLi (wT W) ≤ 0
  · refine ⟨-2, cAsk0 ?_, rAsk0 ?_⟩
    · intro d xs s hd hC; obtain ⟨⟨hT, hA, hn, hacts⟩, -⟩ := hC
      obtain ⟨d, rfl⟩ := x_1 (d := d) (by omega)
      rw [x_ev_in rfl (Nat.le_of_ble_eq_true rfl)]
      rw [show x_ent (x_nL g_M 154) [.ref 1] = [some (.ref 1)] from rfl]
      simp only [w_Top_firmest_0, w_Top_firmest_4, w_Top_firmest_7, w_Top_firmest_10, w_Top_firmest_14, w_Top_firmest_17, w_Top_firmest_20, w_Top_firmest_22, c_1, f_1_0, f_1_1, p_1_1, f_1_2, f_1_3, f_1_4, f_1_5, f_1_6, p_1_6, f_1_7, f_1_8, f_1_9, f_1_10, f_1_11, f_1_12, f_1_13, f_1_14, c_3, f_3_0, p_3_0, f_3_1, p_3_1, f_3_2, p_3_2, f_3_3, p_3_3, f_3_4, p_3_4, f_3_5, p_3_5, f_3_6, p_3_6, f_3_7, p_3_7, f_3_8, p_3_8, f_3_9, f_3_10, f_3_11, f_3_12, f_3_13, c_9, f_9_0, f_9_1, p_9_1, f_9_2, p_9_2, f_9_3, p_9_3, f_9_4, p_9_4, f_9_5, f_9_6, Option.some.injEq, exists_eq_left', exists_eq_left, Option.toList_some, Option.toList_none, List.cons_append, List.nil_append, true_and, and_true, Option.map_some, Option.map_none, t_isTold (d := d) (by omega) hT, t_hasPerson (d := d) (by omega) hT, t_hasMatter (d := d) (by omega) hT, t_hasSet (d := d) (by omega) hT hW, t_bitOf (d := d) (by omega), t_isClosed (d := d) (by omega) hT hW, t_sumOfAll (d := d) (by omega) hT hW, s_openOnes (d := d) (by omega) h9 hT hW hA, s_wishers (d := d) (by omega) h9 hT hW hA hAw, s_allCups (d := d) (by omega) h9 hT hW hA, h1, show ¬ ((1 : Int32) = 0) by decide, not_true_eq_false, not_false_eq_true, if_true, if_false]
    · intro d xs s hd hC; obtain ⟨hR, -⟩ := hC; have hT := hR.1
      obtain ⟨d, rfl⟩ := x_1 (d := d) (by omega)
      rw [x_ev_in rfl (Nat.le_of_ble_eq_true rfl)]
      rw [show x_ent (x_nL g_M 293) [.ref 110] = [some (.ref 110), none, none] from rfl]
      simp only [w_Ref_firmest_0, w_Ref_firmest_4, w_Ref_firmest_7, w_Ref_firmest_10, w_Ref_firmest_19, w_Ref_firmest_22, w_Ref_firmest_27, w_Ref_firmest_30, w_Ref_firmest_35, w_Ref_firmest_40, w_Ref_firmest_43, w_Ref_firmest_47, w_Ref_firmest_48, w_Ref_firmest_55, c_110, f_110_0, p_110_0, f_110_1, f_110_2, f_110_3, f_110_4, f_110_5, p_110_5, f_110_6, f_110_7, p_110_7, f_110_8, p_110_8, f_110_9, p_110_9, f_110_10, p_110_10, f_110_11, p_110_11, f_110_12, p_110_12, f_110_13, p_110_13, f_110_14, f_110_15, f_110_16, p_110_16, f_110_17, f_110_18, p_110_18, f_110_19, p_110_19, f_110_20, f_110_21, p_110_21, f_110_22, p_110_22, f_110_23, f_110_24, f_110_25, p_110_25, f_110_26, f_110_27, f_110_28, f_110_29, f_110_30, f_110_31, p_110_31, f_110_32, p_110_32, f_110_33, p_110_33, f_110_34, p_110_34, f_110_35, f_110_36, f_110_37, f_110_38, Option.some.injEq, exists_eq_left', exists_eq_left, Option.toList_some, Option.toList_none, List.cons_append, List.nil_append, true_and, and_true, Option.map_some, Option.map_none, r_isTown (d := d) (by omega) hT, r_isPerson (d := d) (by omega) hT hW, r_isMatterI (d := d) (by omega) hT hW, r_isSet (d := d) (by omega) hT hW, r_allMatters (d := d) (by omega) hT hW, r_isClosed (d := d) (by omega) hT hW, r_sumOfAll (d := d) (by omega) hT hW, r_restsOf (d := d) (by omega) hT hW, r_in (d := d) (by omega), r_bit (d := d) (by omega), r_bits (d := d) (by omega), h1, show ¬ ((1 : Int32) = 0) by decide, not_true_eq_false, not_false_eq_true, if_true, if_false]
  · refine ⟨nI (bF (wT W) (2 ^ tM (wT W))), cAsk ?_, rAsk ?_⟩
    · intro d xs s hd hC; obtain ⟨⟨hT, hA, hn, hacts⟩, -⟩ := hC
      obtain ⟨d, rfl⟩ := x_1 (d := d) (by omega)
      refine ⟨_, ?_, ffS_ke (wT W) s (2 ^ tM (wT W))⟩
      rw [x_ev_in rfl (Nat.le_of_ble_eq_true rfl)]
      rw [show x_ent (x_nL g_M 154) [.ref 1] = [some (.ref 1)] from rfl]
      simp only [w_Top_firmest_0, w_Top_firmest_4, w_Top_firmest_7, w_Top_firmest_10, w_Top_firmest_14, w_Top_firmest_17, w_Top_firmest_20, w_Top_firmest_22, c_1, f_1_0, f_1_1, p_1_1, f_1_2, f_1_3, f_1_4, f_1_5, f_1_6, p_1_6, f_1_7, f_1_8, f_1_9, f_1_10, f_1_11, f_1_12, f_1_13, f_1_14, c_3, f_3_0, p_3_0, f_3_1, p_3_1, f_3_2, p_3_2, f_3_3, p_3_3, f_3_4, p_3_4, f_3_5, p_3_5, f_3_6, p_3_6, f_3_7, p_3_7, f_3_8, p_3_8, f_3_9, f_3_10, f_3_11, f_3_12, f_3_13, c_9, f_9_0, f_9_1, p_9_1, f_9_2, p_9_2, f_9_3, p_9_3, f_9_4, p_9_4, f_9_5, f_9_6, c_25, f_25_0, f_25_1, f_25_2, f_25_3, f_25_4, f_25_5, f_25_6, f_25_7, p_25_7, Option.some.injEq, exists_eq_left', exists_eq_left, Option.toList_some, Option.toList_none, List.cons_append, List.nil_append, true_and, and_true, Option.map_some, Option.map_none, t_isTold (d := d) (by omega) hT, t_hasPerson (d := d) (by omega) hT, t_hasMatter (d := d) (by omega) hT, t_hasSet (d := d) (by omega) hT hW, t_bitOf (d := d) (by omega), t_isClosed (d := d) (by omega) hT hW, t_sumOfAll (d := d) (by omega) hT hW, s_openOnes (d := d) (by omega) h9 hT hW hA, s_wishers (d := d) (by omega) h9 hT hW hA hAw, s_allCups (d := d) (by omega) h9 hT hW hA, x_ev_iff (s_bestFirm (P := P) (d := d) (xs := xs) (by omega) hT hW), h1, show ¬ ((1 : Int32) = 0) by decide, not_false_eq_true, if_true, if_false]
    · intro d xs s hd hC; obtain ⟨hR, -⟩ := hC; have hT := hR.1
      obtain ⟨d, rfl⟩ := x_1 (d := d) (by omega)
      have b1 : bF (wT W) 1 = 0 := by show (if _ then 0 else 0) = 0; split <;> rfl
      obtain ⟨⟨s', ho⟩, e⟩ := x_upX (C := x_ev g_M P d) (k := 293) (N := 2 ^ tM (wT W)) (β := {z : xS // off25 s z}) (G := fun o => (some (.int (nI (bF (wT W) (2 ^ tM (wT W))))), mkH xs o.1)) (F := fun m o => (14, [some (.ref 110), some (.int (nI (bF (wT W) m))), some (.int (nI m))], [], mkH xs o.1)) (fun m o hm => by
        have hc : ¬ nI (2 ^ tM (wT W)) ≤ nI m := nI_ge hm (by omega)
        have hT1 := o.2.T hT
        obtain ⟨s2, q1, q2⟩ := r_isFirm (P := P) (d := d) (xs := xs) (by omega) hT1 hW (nI m)
        have hT2 := q2.T hT1
        have hle : tAll (wT W) (nI m) ≤ tAll (wT W) (nI (bF (wT W) m)) ↔ ¬ tAll (wT W) (nI (bF (wT W) m)) < tAll (wT W) (nI m) := Int32.not_lt.symm
        refine ⟨⟨s2, o.2.tr q2⟩, fun r => ?_⟩
        simp only [w_Ref_firmest_0, w_Ref_firmest_4, w_Ref_firmest_7, w_Ref_firmest_10, w_Ref_firmest_19, w_Ref_firmest_22, w_Ref_firmest_27, w_Ref_firmest_30, w_Ref_firmest_35, w_Ref_firmest_40, w_Ref_firmest_43, w_Ref_firmest_47, w_Ref_firmest_48, w_Ref_firmest_55, w_Ref_firmest_14 (l2 := nI m), c_110, f_110_0, p_110_0, f_110_1, f_110_2, f_110_3, f_110_4, f_110_5, p_110_5, f_110_6, f_110_7, p_110_7, f_110_8, p_110_8, f_110_9, p_110_9, f_110_10, p_110_10, f_110_11, p_110_11, f_110_12, p_110_12, f_110_13, p_110_13, f_110_14, f_110_15, f_110_16, p_110_16, f_110_17, f_110_18, p_110_18, f_110_19, p_110_19, f_110_20, f_110_21, p_110_21, f_110_22, p_110_22, f_110_23, f_110_24, f_110_25, p_110_25, f_110_26, f_110_27, f_110_28, f_110_29, f_110_30, f_110_31, p_110_31, f_110_32, p_110_32, f_110_33, p_110_33, f_110_34, p_110_34, f_110_35, f_110_36, f_110_37, f_110_38, e_111, i_111, Option.some.injEq, exists_eq_left', exists_eq_left, Option.toList_some, Option.toList_none, List.cons_append, List.nil_append, true_and, and_true, Option.map_some, Option.map_none, r_allMatters (d := d) (by omega) hT1 hW, full_lt hW, hc, if_false, x_ev_iff q1, r_sumOfAll (d := d) (by omega) hT2 hW, hle, nI_1, bF]
        by_cases hb : tFirm (wT W) (nI m) = true
        · by_cases h2 : tAll (wT W) (nI (bF (wT W) m)) < tAll (wT W) (nI m)
          · simp only [hb, h2, b01, if_true, show ¬ ((1 : Int32) = 0) by decide, if_false, not_true_eq_false, and_self]
          · simp only [hb, h2, b01, if_true, show ¬ ((1 : Int32) = 0) by decide, if_false, not_false_eq_true, and_false]
        · simp only [hb, b01, if_false, if_true, Bool.false_eq_true, false_and]) (fun o => by
        simp only [w_Ref_firmest_0, w_Ref_firmest_4, w_Ref_firmest_7, w_Ref_firmest_10, w_Ref_firmest_19, w_Ref_firmest_22, w_Ref_firmest_27, w_Ref_firmest_30, w_Ref_firmest_35, w_Ref_firmest_40, w_Ref_firmest_43, w_Ref_firmest_47, w_Ref_firmest_48, w_Ref_firmest_55, w_Ref_firmest_14 (l2 := nI (2 ^ tM (wT W))), c_110, f_110_0, p_110_0, f_110_1, f_110_2, f_110_3, f_110_4, f_110_5, p_110_5, f_110_6, f_110_7, p_110_7, f_110_8, p_110_8, f_110_9, p_110_9, f_110_10, p_110_10, f_110_11, p_110_11, f_110_12, p_110_12, f_110_13, p_110_13, f_110_14, f_110_15, f_110_16, p_110_16, f_110_17, f_110_18, p_110_18, f_110_19, p_110_19, f_110_20, f_110_21, p_110_21, f_110_22, p_110_22, f_110_23, f_110_24, f_110_25, p_110_25, f_110_26, f_110_27, f_110_28, f_110_29, f_110_30, f_110_31, p_110_31, f_110_32, p_110_32, f_110_33, p_110_33, f_110_34, p_110_34, f_110_35, f_110_36, f_110_37, f_110_38, e_111, i_111, Option.some.injEq, exists_eq_left', exists_eq_left, Option.toList_some, Option.toList_none, List.cons_append, List.nil_append, true_and, and_true, Option.map_some, Option.map_none, r_allMatters (d := d) (by omega) (o.2.T hT) hW, full_lt hW, show nI (2 ^ tM (wT W)) ≤ nI (2 ^ tM (wT W)) from Int32.le_refl _, if_true]) (2 ^ tM (wT W) - 1) 1 ⟨s, off25.rf⟩ (by omega)
      refine ⟨s', ?_, ho.ke⟩
      rw [x_ev_in rfl (Nat.le_of_ble_eq_true rfl)]
      rw [show x_ent (x_nL g_M 293) [.ref 110] = [some (.ref 110), none, none] from rfl]
      simp only [w_Ref_firmest_0, w_Ref_firmest_4, w_Ref_firmest_7, w_Ref_firmest_10, w_Ref_firmest_19, w_Ref_firmest_22, w_Ref_firmest_27, w_Ref_firmest_30, w_Ref_firmest_35, w_Ref_firmest_40, w_Ref_firmest_43, w_Ref_firmest_47, w_Ref_firmest_48, w_Ref_firmest_55, c_110, f_110_0, p_110_0, f_110_1, f_110_2, f_110_3, f_110_4, f_110_5, p_110_5, f_110_6, f_110_7, p_110_7, f_110_8, p_110_8, f_110_9, p_110_9, f_110_10, p_110_10, f_110_11, p_110_11, f_110_12, p_110_12, f_110_13, p_110_13, f_110_14, f_110_15, f_110_16, p_110_16, f_110_17, f_110_18, p_110_18, f_110_19, p_110_19, f_110_20, f_110_21, p_110_21, f_110_22, p_110_22, f_110_23, f_110_24, f_110_25, p_110_25, f_110_26, f_110_27, f_110_28, f_110_29, f_110_30, f_110_31, p_110_31, f_110_32, p_110_32, f_110_33, p_110_33, f_110_34, p_110_34, f_110_35, f_110_36, f_110_37, f_110_38, Option.some.injEq, exists_eq_left', exists_eq_left, Option.toList_some, Option.toList_none, List.cons_append, List.nil_append, true_and, and_true, Option.map_some, Option.map_none, r_isTown (d := d) (by omega) hT, r_isPerson (d := d) (by omega) hT hW, r_isMatterI (d := d) (by omega) hT hW, r_isSet (d := d) (by omega) hT hW, r_allMatters (d := d) (by omega) hT hW, r_isClosed (d := d) (by omega) hT hW, r_sumOfAll (d := d) (by omega) hT hW, r_restsOf (d := d) (by omega) hT hW, r_in (d := d) (by omega), r_bit (d := d) (by omega), r_bits (d := d) (by omega), h1, show ¬ ((1 : Int32) = 0) by decide, not_false_eq_true, if_true, if_false]
      simp only [b1] at e
      exact e
set_option maxHeartbeats 4000000 in
theorem k_firm (h : wOk W) (x : Int32) : ask2 P 152 291 [.int x] W := by
  obtain ⟨hK, hl60, hr, hrest⟩ := h; have hW := hK.1; have hO := aOk_run hK _ _ _ (aOk_begin hK) hr; have hAw := hO.1; have w1 := hW.1; have w2 := hW.2.1; have h9 : 9 ∈ g_SP := by decide
  rcases set_cs hW x with h0 | ⟨n, hs, rfl, h1, hli⟩
  · refine ⟨-2, cAsk0 ?_, rAsk0 ?_⟩
    · intro d xs s hd hC; obtain ⟨⟨hT, hA, hn, hacts⟩, -⟩ := hC
      obtain ⟨d, rfl⟩ := x_1 (d := d) (by omega)
      rw [x_ev_in rfl (Nat.le_of_ble_eq_true rfl)]
      rw [show x_ent (x_nL g_M 152) [.ref 1, .int x] = [some (.ref 1), some (.int x)] from rfl]
      simp only [w_Top_firm_0, w_Top_firm_4, w_Top_firm_8, w_Top_firm_11, w_Top_firm_14, w_Top_firm_18, w_Top_firm_22, w_Top_firm_25, w_Top_firm_29, w_Top_firm_30, c_1, f_1_0, f_1_1, p_1_1, f_1_2, f_1_3, f_1_4, f_1_5, f_1_6, p_1_6, f_1_7, f_1_8, f_1_9, f_1_10, f_1_11, f_1_12, f_1_13, f_1_14, c_3, f_3_0, p_3_0, f_3_1, p_3_1, f_3_2, p_3_2, f_3_3, p_3_3, f_3_4, p_3_4, f_3_5, p_3_5, f_3_6, p_3_6, f_3_7, p_3_7, f_3_8, p_3_8, f_3_9, f_3_10, f_3_11, f_3_12, f_3_13, c_9, f_9_0, f_9_1, p_9_1, f_9_2, p_9_2, f_9_3, p_9_3, f_9_4, p_9_4, f_9_5, f_9_6, Option.some.injEq, exists_eq_left', exists_eq_left, Option.toList_some, Option.toList_none, List.cons_append, List.nil_append, true_and, and_true, Option.map_some, Option.map_none, t_isTold (d := d) (by omega) hT, t_hasPerson (d := d) (by omega) hT, t_hasMatter (d := d) (by omega) hT, t_hasSet (d := d) (by omega) hT hW, t_bitOf (d := d) (by omega), t_isClosed (d := d) (by omega) hT hW, t_sumOfAll (d := d) (by omega) hT hW, s_openOnes (d := d) (by omega) h9 hT hW hA, s_wishers (d := d) (by omega) h9 hT hW hA hAw, s_allCups (d := d) (by omega) h9 hT hW hA, h0, show ¬ ((1 : Int32) = 0) by decide, not_true_eq_false, not_false_eq_true, if_true, if_false]
    · intro d xs s hd hC; obtain ⟨hR, -⟩ := hC; have hT := hR.1
      obtain ⟨d, rfl⟩ := x_1 (d := d) (by omega)
      rw [x_ev_in rfl (Nat.le_of_ble_eq_true rfl)]
      rw [show x_ent (x_nL g_M 291) [.ref 110, .int x] = [some (.ref 110), some (.int x)] from rfl]
      simp only [w_Ref_firm_0, w_Ref_firm_5, w_Ref_firm_8, w_Ref_firm_13, w_Ref_firm_16, w_Ref_firm_20, w_Ref_firm_24, w_Ref_firm_26, c_110, f_110_0, p_110_0, f_110_1, f_110_2, f_110_3, f_110_4, f_110_5, p_110_5, f_110_6, f_110_7, p_110_7, f_110_8, p_110_8, f_110_9, p_110_9, f_110_10, p_110_10, f_110_11, p_110_11, f_110_12, p_110_12, f_110_13, p_110_13, f_110_14, f_110_15, f_110_16, p_110_16, f_110_17, f_110_18, p_110_18, f_110_19, p_110_19, f_110_20, f_110_21, p_110_21, f_110_22, p_110_22, f_110_23, f_110_24, f_110_25, p_110_25, f_110_26, f_110_27, f_110_28, f_110_29, f_110_30, f_110_31, p_110_31, f_110_32, p_110_32, f_110_33, p_110_33, f_110_34, p_110_34, f_110_35, f_110_36, f_110_37, f_110_38, Option.some.injEq, exists_eq_left', exists_eq_left, Option.toList_some, Option.toList_none, List.cons_append, List.nil_append, true_and, and_true, Option.map_some, Option.map_none, r_isTown (d := d) (by omega) hT, r_isPerson (d := d) (by omega) hT hW, r_isMatterI (d := d) (by omega) hT hW, r_isSet (d := d) (by omega) hT hW, r_allMatters (d := d) (by omega) hT hW, r_isClosed (d := d) (by omega) hT hW, r_sumOfAll (d := d) (by omega) hT hW, r_restsOf (d := d) (by omega) hT hW, r_in (d := d) (by omega), r_bit (d := d) (by omega), r_bits (d := d) (by omega), h0, show ¬ ((1 : Int32) = 0) by decide, not_true_eq_false, not_false_eq_true, if_true, if_false]
  · refine ⟨b01 (tFirm (wT W) (nI n)), cAsk0 ?_, rAsk ?_⟩
    · intro d xs s hd hC; obtain ⟨⟨hT, hA, hn, hacts⟩, -⟩ := hC
      obtain ⟨d, rfl⟩ := x_1 (d := d) (by omega)
      rw [x_ev_in rfl (Nat.le_of_ble_eq_true rfl)]
      rw [show x_ent (x_nL g_M 152) [.ref 1, .int (nI n)] = [some (.ref 1), some (.int (nI n))] from rfl]
      simp only [w_Top_firm_0, w_Top_firm_4, w_Top_firm_8, w_Top_firm_11, w_Top_firm_14, w_Top_firm_18, w_Top_firm_22, w_Top_firm_25, w_Top_firm_29, w_Top_firm_30, c_1, f_1_0, f_1_1, p_1_1, f_1_2, f_1_3, f_1_4, f_1_5, f_1_6, p_1_6, f_1_7, f_1_8, f_1_9, f_1_10, f_1_11, f_1_12, f_1_13, f_1_14, c_3, f_3_0, p_3_0, f_3_1, p_3_1, f_3_2, p_3_2, f_3_3, p_3_3, f_3_4, p_3_4, f_3_5, p_3_5, f_3_6, p_3_6, f_3_7, p_3_7, f_3_8, p_3_8, f_3_9, f_3_10, f_3_11, f_3_12, f_3_13, c_9, f_9_0, f_9_1, p_9_1, f_9_2, p_9_2, f_9_3, p_9_3, f_9_4, p_9_4, f_9_5, f_9_6, c_25, f_25_0, f_25_1, f_25_2, f_25_3, f_25_4, f_25_5, f_25_6, f_25_7, p_25_7, Option.some.injEq, exists_eq_left', exists_eq_left, Option.toList_some, Option.toList_none, List.cons_append, List.nil_append, true_and, and_true, Option.map_some, Option.map_none, t_isTold (d := d) (by omega) hT, t_hasPerson (d := d) (by omega) hT, t_hasMatter (d := d) (by omega) hT, t_hasSet (d := d) (by omega) hT hW, t_bitOf (d := d) (by omega), t_isClosed (d := d) (by omega) hT hW, t_sumOfAll (d := d) (by omega) hT hW, s_openOnes (d := d) (by omega) h9 hT hW hA, s_wishers (d := d) (by omega) h9 hT hW hA hAw, s_allCups (d := d) (by omega) h9 hT hW hA, s_isFirm (d := d) (by omega) hT hW, h1, show ¬ ((1 : Int32) = 0) by decide, not_false_eq_true, if_true, if_false]
      by_cases hb : tFirm (wT W) (nI n) = true <;> simp [hb, b01]
    · intro d xs s hd hC; obtain ⟨hR, -⟩ := hC; have hT := hR.1
      obtain ⟨d, rfl⟩ := x_1 (d := d) (by omega)
      obtain ⟨s2, q1, q2⟩ := r_isFirm (P := P) (d := d) (xs := xs) (by omega) hT hW (nI n)
      refine ⟨s2, ?_, q2.ke⟩
      rw [x_ev_in rfl (Nat.le_of_ble_eq_true rfl)]
      rw [show x_ent (x_nL g_M 291) [.ref 110, .int (nI n)] = [some (.ref 110), some (.int (nI n))] from rfl]
      simp only [w_Ref_firm_0, w_Ref_firm_5, w_Ref_firm_8, w_Ref_firm_13, w_Ref_firm_16, w_Ref_firm_20, w_Ref_firm_24, w_Ref_firm_26, c_110, f_110_0, p_110_0, f_110_1, f_110_2, f_110_3, f_110_4, f_110_5, p_110_5, f_110_6, f_110_7, p_110_7, f_110_8, p_110_8, f_110_9, p_110_9, f_110_10, p_110_10, f_110_11, p_110_11, f_110_12, p_110_12, f_110_13, p_110_13, f_110_14, f_110_15, f_110_16, p_110_16, f_110_17, f_110_18, p_110_18, f_110_19, p_110_19, f_110_20, f_110_21, p_110_21, f_110_22, p_110_22, f_110_23, f_110_24, f_110_25, p_110_25, f_110_26, f_110_27, f_110_28, f_110_29, f_110_30, f_110_31, p_110_31, f_110_32, p_110_32, f_110_33, p_110_33, f_110_34, p_110_34, f_110_35, f_110_36, f_110_37, f_110_38, Option.some.injEq, exists_eq_left', exists_eq_left, Option.toList_some, Option.toList_none, List.cons_append, List.nil_append, true_and, and_true, Option.map_some, Option.map_none, r_isTown (d := d) (by omega) hT, r_isPerson (d := d) (by omega) hT hW, r_isMatterI (d := d) (by omega) hT hW, r_isSet (d := d) (by omega) hT hW, r_allMatters (d := d) (by omega) hT hW, r_isClosed (d := d) (by omega) hT hW, r_sumOfAll (d := d) (by omega) hT hW, r_restsOf (d := d) (by omega) hT hW, r_in (d := d) (by omega), r_bit (d := d) (by omega), r_bits (d := d) (by omega), x_ev_iff q1, h1, show ¬ ((1 : Int32) = 0) by decide, not_false_eq_true, if_true, if_false]
      by_cases hb : tFirm (wT W) (nI n) = true <;> simp [hb, b01]
set_option maxHeartbeats 4000000 in
theorem k_weak (h : wOk W) (x : Int32) : ask2 P 156 295 [.int x] W := by
  obtain ⟨hK, hl60, hr, hrest⟩ := h; have hW := hK.1; have hO := aOk_run hK _ _ _ (aOk_begin hK) hr; have hAw := hO.1; have w1 := hW.1; have w2 := hW.2.1; have h9 : 9 ∈ g_SP := by decide
  rcases set_cs hW x with h0 | ⟨n, hs, rfl, h1, hli⟩
  · refine ⟨-2, cAsk0 ?_, rAsk0 ?_⟩
    · intro d xs s hd hC; obtain ⟨⟨hT, hA, hn, hacts⟩, -⟩ := hC
      obtain ⟨d, rfl⟩ := x_1 (d := d) (by omega)
      rw [x_ev_in rfl (Nat.le_of_ble_eq_true rfl)]
      rw [show x_ent (x_nL g_M 156) [.ref 1, .int x] = [some (.ref 1), some (.int x)] from rfl]
      simp only [w_Top_weak_0, w_Top_weak_4, w_Top_weak_8, w_Top_weak_11, w_Top_weak_15, w_Top_weak_19, w_Top_weak_22, w_Top_weak_24, c_1, f_1_0, f_1_1, p_1_1, f_1_2, f_1_3, f_1_4, f_1_5, f_1_6, p_1_6, f_1_7, f_1_8, f_1_9, f_1_10, f_1_11, f_1_12, f_1_13, f_1_14, c_3, f_3_0, p_3_0, f_3_1, p_3_1, f_3_2, p_3_2, f_3_3, p_3_3, f_3_4, p_3_4, f_3_5, p_3_5, f_3_6, p_3_6, f_3_7, p_3_7, f_3_8, p_3_8, f_3_9, f_3_10, f_3_11, f_3_12, f_3_13, c_9, f_9_0, f_9_1, p_9_1, f_9_2, p_9_2, f_9_3, p_9_3, f_9_4, p_9_4, f_9_5, f_9_6, Option.some.injEq, exists_eq_left', exists_eq_left, Option.toList_some, Option.toList_none, List.cons_append, List.nil_append, true_and, and_true, Option.map_some, Option.map_none, t_isTold (d := d) (by omega) hT, t_hasPerson (d := d) (by omega) hT, t_hasMatter (d := d) (by omega) hT, t_hasSet (d := d) (by omega) hT hW, t_bitOf (d := d) (by omega), t_isClosed (d := d) (by omega) hT hW, t_sumOfAll (d := d) (by omega) hT hW, s_openOnes (d := d) (by omega) h9 hT hW hA, s_wishers (d := d) (by omega) h9 hT hW hA hAw, s_allCups (d := d) (by omega) h9 hT hW hA, h0, show ¬ ((1 : Int32) = 0) by decide, not_true_eq_false, not_false_eq_true, if_true, if_false]
    · intro d xs s hd hC; obtain ⟨hR, -⟩ := hC; have hT := hR.1
      obtain ⟨d, rfl⟩ := x_1 (d := d) (by omega)
      rw [x_ev_in rfl (Nat.le_of_ble_eq_true rfl)]
      rw [show x_ent (x_nL g_M 295) [.ref 110, .int x] = [some (.ref 110), some (.int x)] from rfl]
      simp only [w_Ref_weak_0, w_Ref_weak_5, w_Ref_weak_8, w_Ref_weak_13, w_Ref_weak_16, w_Ref_weak_21, w_Ref_weak_24, w_Ref_weak_28, w_Ref_weak_30, c_110, f_110_0, p_110_0, f_110_1, f_110_2, f_110_3, f_110_4, f_110_5, p_110_5, f_110_6, f_110_7, p_110_7, f_110_8, p_110_8, f_110_9, p_110_9, f_110_10, p_110_10, f_110_11, p_110_11, f_110_12, p_110_12, f_110_13, p_110_13, f_110_14, f_110_15, f_110_16, p_110_16, f_110_17, f_110_18, p_110_18, f_110_19, p_110_19, f_110_20, f_110_21, p_110_21, f_110_22, p_110_22, f_110_23, f_110_24, f_110_25, p_110_25, f_110_26, f_110_27, f_110_28, f_110_29, f_110_30, f_110_31, p_110_31, f_110_32, p_110_32, f_110_33, p_110_33, f_110_34, p_110_34, f_110_35, f_110_36, f_110_37, f_110_38, Option.some.injEq, exists_eq_left', exists_eq_left, Option.toList_some, Option.toList_none, List.cons_append, List.nil_append, true_and, and_true, Option.map_some, Option.map_none, r_isTown (d := d) (by omega) hT, r_isPerson (d := d) (by omega) hT hW, r_isMatterI (d := d) (by omega) hT hW, r_isSet (d := d) (by omega) hT hW, r_allMatters (d := d) (by omega) hT hW, r_isClosed (d := d) (by omega) hT hW, r_sumOfAll (d := d) (by omega) hT hW, r_restsOf (d := d) (by omega) hT hW, r_in (d := d) (by omega), r_bit (d := d) (by omega), r_bits (d := d) (by omega), h0, show ¬ ((1 : Int32) = 0) by decide, not_true_eq_false, not_false_eq_true, if_true, if_false]
  · refine ⟨if tClo (wT W) (nI n) = true then optI (wkN (wT W) (nI n) (tM (wT W))).1 else -1, cAsk0 ?_, rAsk ?_⟩
    · intro d xs s hd hC; obtain ⟨⟨hT, hA, hn, hacts⟩, -⟩ := hC
      obtain ⟨d, rfl⟩ := x_1 (d := d) (by omega)
      rw [x_ev_in rfl (Nat.le_of_ble_eq_true rfl)]
      rw [show x_ent (x_nL g_M 156) [.ref 1, .int (nI n)] = [some (.ref 1), some (.int (nI n))] from rfl]
      simp only [w_Top_weak_0, w_Top_weak_4, w_Top_weak_8, w_Top_weak_11, w_Top_weak_15, w_Top_weak_19, w_Top_weak_22, w_Top_weak_24, c_1, f_1_0, f_1_1, p_1_1, f_1_2, f_1_3, f_1_4, f_1_5, f_1_6, p_1_6, f_1_7, f_1_8, f_1_9, f_1_10, f_1_11, f_1_12, f_1_13, f_1_14, c_3, f_3_0, p_3_0, f_3_1, p_3_1, f_3_2, p_3_2, f_3_3, p_3_3, f_3_4, p_3_4, f_3_5, p_3_5, f_3_6, p_3_6, f_3_7, p_3_7, f_3_8, p_3_8, f_3_9, f_3_10, f_3_11, f_3_12, f_3_13, c_9, f_9_0, f_9_1, p_9_1, f_9_2, p_9_2, f_9_3, p_9_3, f_9_4, p_9_4, f_9_5, f_9_6, c_25, f_25_0, f_25_1, f_25_2, f_25_3, f_25_4, f_25_5, f_25_6, f_25_7, p_25_7, Option.some.injEq, exists_eq_left', exists_eq_left, Option.toList_some, Option.toList_none, List.cons_append, List.nil_append, true_and, and_true, Option.map_some, Option.map_none, t_isTold (d := d) (by omega) hT, t_hasPerson (d := d) (by omega) hT, t_hasMatter (d := d) (by omega) hT, t_hasSet (d := d) (by omega) hT hW, t_bitOf (d := d) (by omega), t_isClosed (d := d) (by omega) hT hW, t_sumOfAll (d := d) (by omega) hT hW, s_openOnes (d := d) (by omega) h9 hT hW hA, s_wishers (d := d) (by omega) h9 hT hW hA hAw, s_allCups (d := d) (by omega) h9 hT hW hA, s_weakestIn (d := d) (by omega) hT hW, h1, show ¬ ((1 : Int32) = 0) by decide, not_false_eq_true, if_true, if_false]
    · intro d xs s hd hC; obtain ⟨hR, -⟩ := hC; have hT := hR.1
      obtain ⟨d, rfl⟩ := x_1 (d := d) (by omega)
      obtain ⟨s2, q1, q2⟩ := r_weakOf (P := P) (d := d) (xs := xs) (by omega) hT hW (nI n)
      by_cases hcl : tClo (wT W) (nI n) = true
      · refine ⟨s2, ?_, q2.ke⟩
        rw [x_ev_in rfl (Nat.le_of_ble_eq_true rfl)]
        rw [show x_ent (x_nL g_M 295) [.ref 110, .int (nI n)] = [some (.ref 110), some (.int (nI n))] from rfl]
        simp only [w_Ref_weak_0, w_Ref_weak_5, w_Ref_weak_8, w_Ref_weak_13, w_Ref_weak_16, w_Ref_weak_21, w_Ref_weak_24, w_Ref_weak_28, w_Ref_weak_30, c_110, f_110_0, p_110_0, f_110_1, f_110_2, f_110_3, f_110_4, f_110_5, p_110_5, f_110_6, f_110_7, p_110_7, f_110_8, p_110_8, f_110_9, p_110_9, f_110_10, p_110_10, f_110_11, p_110_11, f_110_12, p_110_12, f_110_13, p_110_13, f_110_14, f_110_15, f_110_16, p_110_16, f_110_17, f_110_18, p_110_18, f_110_19, p_110_19, f_110_20, f_110_21, p_110_21, f_110_22, p_110_22, f_110_23, f_110_24, f_110_25, p_110_25, f_110_26, f_110_27, f_110_28, f_110_29, f_110_30, f_110_31, p_110_31, f_110_32, p_110_32, f_110_33, p_110_33, f_110_34, p_110_34, f_110_35, f_110_36, f_110_37, f_110_38, Option.some.injEq, exists_eq_left', exists_eq_left, Option.toList_some, Option.toList_none, List.cons_append, List.nil_append, true_and, and_true, Option.map_some, Option.map_none, r_isTown (d := d) (by omega) hT, r_isPerson (d := d) (by omega) hT hW, r_isMatterI (d := d) (by omega) hT hW, r_isSet (d := d) (by omega) hT hW, r_allMatters (d := d) (by omega) hT hW, r_isClosed (d := d) (by omega) hT hW, r_sumOfAll (d := d) (by omega) hT hW, r_restsOf (d := d) (by omega) hT hW, r_in (d := d) (by omega), r_bit (d := d) (by omega), r_bits (d := d) (by omega), x_ev_iff q1, h1, show ¬ ((1 : Int32) = 0) by decide, not_false_eq_true, if_true, if_false, hcl, b01]
      · refine ⟨s, ?_, keR.rf⟩
        rw [x_ev_in rfl (Nat.le_of_ble_eq_true rfl)]
        rw [show x_ent (x_nL g_M 295) [.ref 110, .int (nI n)] = [some (.ref 110), some (.int (nI n))] from rfl]
        simp only [w_Ref_weak_0, w_Ref_weak_5, w_Ref_weak_8, w_Ref_weak_13, w_Ref_weak_16, w_Ref_weak_21, w_Ref_weak_24, w_Ref_weak_28, w_Ref_weak_30, c_110, f_110_0, p_110_0, f_110_1, f_110_2, f_110_3, f_110_4, f_110_5, p_110_5, f_110_6, f_110_7, p_110_7, f_110_8, p_110_8, f_110_9, p_110_9, f_110_10, p_110_10, f_110_11, p_110_11, f_110_12, p_110_12, f_110_13, p_110_13, f_110_14, f_110_15, f_110_16, p_110_16, f_110_17, f_110_18, p_110_18, f_110_19, p_110_19, f_110_20, f_110_21, p_110_21, f_110_22, p_110_22, f_110_23, f_110_24, f_110_25, p_110_25, f_110_26, f_110_27, f_110_28, f_110_29, f_110_30, f_110_31, p_110_31, f_110_32, p_110_32, f_110_33, p_110_33, f_110_34, p_110_34, f_110_35, f_110_36, f_110_37, f_110_38, Option.some.injEq, exists_eq_left', exists_eq_left, Option.toList_some, Option.toList_none, List.cons_append, List.nil_append, true_and, and_true, Option.map_some, Option.map_none, r_isTown (d := d) (by omega) hT, r_isPerson (d := d) (by omega) hT hW, r_isMatterI (d := d) (by omega) hT hW, r_isSet (d := d) (by omega) hT hW, r_allMatters (d := d) (by omega) hT hW, r_isClosed (d := d) (by omega) hT hW, r_sumOfAll (d := d) (by omega) hT hW, r_restsOf (d := d) (by omega) hT hW, r_in (d := d) (by omega), r_bit (d := d) (by omega), r_bits (d := d) (by omega), h1, show ¬ ((1 : Int32) = 0) by decide, not_false_eq_true, if_true, if_false, hcl, b01, Bool.false_eq_true]
end FIRM4
