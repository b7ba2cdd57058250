/-! stood, best: the class, going on (own work) -/
def hdN (T : Tw) (A : As) (n j : Nat) : Option (List Nat) := hdX T A (nI n) (lst (tM T) (rstN n j)).length (nI j) (rstN n j)
theorem hdX_mem {T : Tw} {A : As} {S : Int32} {k : Nat} {dn x : Int32} {t : List Nat} (h : hdX T A S k dn x = some t) : t ∈ pm (tM T) k x := by
  unfold hdX at h
  have := List.mem_of_head? h
  exact (List.mem_filter.mp this).1
theorem hdN_cons {T : Tw} (hW : tWf T) {A : As} {n j : Nat} (hn : n < 2 ^ tM T) (hj : sbs j n) {t : List Nat} {m : Nat} (h : hdN T A n j = some (m :: t)) : frst (fun m => fitX T A (nI n) (nI j) (rstN n j) m && decide (0 < wyN T A n (j ||| 2 ^ m))) 0 (tM T) = some m ∧ hdN T A n (j ||| 2 ^ m) = some t ∧ sbs (j ||| 2 ^ m) n := by
  have w2 := hW.2.1
  have hn256 : n < 256 := Nat.lt_of_lt_of_le hn (p2_le _ (by omega)).1
  have hj256 : j < 256 := Nat.lt_of_le_of_lt (sbs_le hj) hn256
  unfold hdN at h
  have hl := (pm_mem w2 _ _ _ rfl (hdX_mem h)).1
  obtain ⟨k, hk⟩ : ∃ k, (lst (tM T) (rstN n j)).length = k + 1 := ⟨t.length, by rw [← hl, List.length_cons]⟩
  rw [hk, hdX_s] at h
  have e : frst (fun m => fitX T A (nI n) (nI j) (rstN n j) m && decide (0 < wyX T A (nI n) k (nI j ||| on1 m) (mnus (rstN n j) m))) 0 (tM T) = frst (fun m => fitX T A (nI n) (nI j) (rstN n j) m && decide (0 < wyN T A n (j ||| 2 ^ m))) 0 (tM T) := by
    apply frst_ext
    intro i _ hi
    by_cases hf : fitX T A (nI n) (nI j) (rstN n j) i = true
    · unfold wyN
      rw [rst_or hn256 hj256 (by omega), lst_dn hW (by omega) (fit_b hf) hk, nI_or hj256 (by omega)]
    · simp [hf]
  rw [e] at h
  cases hf : frst (fun m => fitX T A (nI n) (nI j) (rstN n j) m && decide (0 < wyN T A n (j ||| 2 ^ m))) 0 (tM T) with
  | none => rw [hf] at h; cases h
  | some m' =>
    rw [hf] at h
    simp only [Option.bind_some, Option.map_eq_some_iff] at h
    obtain ⟨u, hu, he⟩ := h
    cases he
    obtain ⟨-, f2, f3, -⟩ := frst_some hf
    rw [Bool.and_eq_true] at f3
    have hm : m < tM T := by omega
    refine ⟨rfl, ?_, (fit_sub hW hn hj hm f3.1).1⟩
    unfold hdN
    rw [rst_or hn256 hj256 (by omega), lst_dn hW hm (fit_b f3.1) hk, nI_or hj256 (by omega)]
    exact hu
theorem drop_cons {L : List Nat} {k : Nat} (hk : k < L.length) : L.drop k = lo L k :: L.drop (k + 1) := by
  rw [List.drop_eq_getElem_cons hk]
  congr 1
  unfold lo
  rw [List.getD_eq_getElem?_getD, List.getElem?_eq_getElem hk]
  rfl
def stdV (T : Tw) (A : As) (n i : Nat) : Int32 := match hdN T A n 0 with
  | none => -1
  | some σ => if i < (lst (tM T) (nI n)).length then nI (lo σ i) else -1
theorem stdV_n {T : Tw} {A : As} {n i : Nat} (h : hdN T A n 0 = none) : stdV T A n i = -1 := by unfold stdV; rw [h]
theorem stdV_s {T : Tw} {A : As} {n i : Nat} {σ : List Nat} (h : hdN T A n 0 = some σ) (hi : i < (lst (tM T) (nI n)).length) : stdV T A n i = nI (lo σ i) := by unfold stdV; rw [h]; simp only [hi, if_true]
theorem stdV_o {T : Tw} {A : As} {n i : Nat} (hi : ¬ i < (lst (tM T) (nI n)).length) : stdV T A n i = -1 := by
  unfold stdV
  cases hdN T A n 0 with
  | none => rfl
  | some σ => simp only [hi, if_false]
def bsN (T : Tw) (A : As) : Nat → Nat
  | 0 => 0
  | c + 1 => if tAll T (nI (bsN T A c)) < tAll T (nI c) ∧ 0 < wyN T A c 0 then c else bsN T A c
theorem bsN_lt (T : Tw) (A : As) : ∀ c, bsN T A c ≤ c := by
  intro c
  induction c with
  | zero => exact Nat.le_refl _
  | succ c ih =>
    rw [bsN]
    split <;> omega
section STOODC
variable {P : Nat → List Value → Option Value} {d : Nat} {xs : List Int32} {T : Tw} {A : As}
theorem s_firstFit (hd : 3 ≤ d) (hW : tWf T) {s : xS} (hT : clsT s 3 T) {n j : Nat} (hn : n < 2 ^ tM T) (hj : sbs j n) (h27 : ∀ m, m < tM T → s.1 27 m = wsM T A (nI n) m) (h26 : ∀ j, sbs j n → s.1 26 j = nI (wyN T A n j)) {q : Option Value × xH} : x_ev g_M P d 41 [.ref 25, .int (nI n), .int (nI j)] (mkH xs s) q ↔ q = (some (.int (optI (frst (fun m => fitX T A (nI n) (nI j) (rstN n j) m && decide (0 < wyN T A n (j ||| 2 ^ m))) 0 (tM T)))), mkH xs s) := by
  have w2 := hW.2.1
  have t5 := hT.1.2.2.2.2.2
  have hn256 : n < 256 := Nat.lt_of_lt_of_le hn (p2_le _ (by omega)).1
  have hj256 : j < 256 := Nat.lt_of_le_of_lt (sbs_le hj) hn256
  obtain ⟨d, rfl⟩ := x_1 (d := d) (by omega)
  rw [x_ev_in rfl (Nat.le_of_ble_eq_true rfl)]
  rw [show x_ent (x_nL g_M 41) [.ref 25, .int (nI n), .int (nI j)] = [some (.ref 25), some (.int (nI n)), some (.int (nI j)), none] from rfl]
  rw [w_Sets_firstFit_0]
  have hfx : ∀ m, fitX T A (nI n) (nI j) (nI n &&& (nI j ^^^ (-1))) m = fitX T A (nI n) (nI j) (rstN n j) m := fun m => rfl
  have hrd : ∀ m, m < tM T → fitX T A (nI n) (nI j) (rstN n j) m = true → x_rd (s.1 26) 256 (nI j ||| ((1 : Int32) <<< (nI m &&& 31))) = some (nI (wyN T A n (j ||| 2 ^ m))) := by
    intro m hm hf
    obtain ⟨f1, f2⟩ := fit_sub hW hn hj hm hf
    show x_rd (s.1 26) 256 (nI j ||| on1 m) = _
    rw [← nI_or hj256 (by omega), x_rd_nI (or_lt hj256 (by omega)) (by omega), h26 _ f1]
  have hz : ∀ w, w < 2 ^ 30 → (nI w ≤ 0 ↔ ¬ 0 < w) := by
    intro w hw
    have := nI_leI (a := w) (b := 0) (by omega) (by omega)
    rw [show nI 0 = 0 from rfl] at this
    rw [this]
    omega
  have key := x_fstI (C := x_ev g_M P d) (k := 41) (r := q) (N := tM T) (H := mkH xs s) (f := fun m => fitX T A (nI n) (nI j) (rstN n j) m && decide (0 < wyN T A n (j ||| 2 ^ m))) (e := -1) (g := fun m => nI m) (F := fun m => (2, [some (.ref 25), some (.int (nI n)), some (.int (nI j)), some (.int (nI m))], [], mkH xs s)) (fun m hm hf => by
    have hc : ¬ nI (tM T) ≤ nI m := nI_ge hm (by omega)
    simp only [w_Sets_firstFit_0, w_Sets_firstFit_7, w_Sets_firstFit_10, w_Sets_firstFit_13, w_Sets_firstFit_20, w_Sets_firstFit_23, w_Sets_firstFit_27, w_Sets_firstFit_33, w_Sets_firstFit_36, w_Sets_firstFit_38, w_Sets_firstFit_44, w_Sets_firstFit_2 (l3 := nI m), c_3, f_3_0, p_3_0, f_3_1, p_3_1, f_3_2, p_3_2, f_3_3, p_3_3, f_3_4, p_3_4, f_3_5, p_3_5, f_3_6, p_3_6, f_3_7, p_3_7, f_3_8, p_3_8, f_3_9, f_3_10, f_3_11, f_3_12, f_3_13, c_25, f_25_0, f_25_1, f_25_2, f_25_3, f_25_4, f_25_5, f_25_6, f_25_7, p_25_7, e_26, i_26, Option.some.injEq, exists_eq_left', exists_eq_left, Option.toList_some, Option.toList_none, List.cons_append, List.nil_append, true_and, and_true, Option.map_some, Option.map_none, t5, hc, if_false, s_fits (d := d) (by omega) hW hT h27 hm, hfx, nI_1]
    by_cases hft : fitX T A (nI n) (nI j) (rstN n j) m = true
    · have h0 : ¬ 0 < wyN T A n (j ||| 2 ^ m) := by
        rw [hft, Bool.true_and] at hf
        exact of_decide_eq_false hf
      simp only [hft, b01, if_true, show ¬ ((1 : Int32) = 0) by decide, if_false, hrd m hm hft, Option.some.injEq, exists_eq_left', exists_eq_left, Option.toList_some, Option.toList_none, List.cons_append, List.nil_append, true_and, and_true, Option.map_some, Option.map_none, hz _ (wyN_b hW A n _), h0, not_false_eq_true]
    · simp only [hft, b01, Bool.false_eq_true, if_true, if_false]) (fun m hm hf => by
    have hc : ¬ nI (tM T) ≤ nI m := nI_ge hm (by omega)
    rw [Bool.and_eq_true, decide_eq_true_eq] at hf
    simp only [w_Sets_firstFit_0, w_Sets_firstFit_7, w_Sets_firstFit_10, w_Sets_firstFit_13, w_Sets_firstFit_20, w_Sets_firstFit_23, w_Sets_firstFit_27, w_Sets_firstFit_33, w_Sets_firstFit_36, w_Sets_firstFit_38, w_Sets_firstFit_44, w_Sets_firstFit_2 (l3 := nI m), c_3, f_3_0, p_3_0, f_3_1, p_3_1, f_3_2, p_3_2, f_3_3, p_3_3, f_3_4, p_3_4, f_3_5, p_3_5, f_3_6, p_3_6, f_3_7, p_3_7, f_3_8, p_3_8, f_3_9, f_3_10, f_3_11, f_3_12, f_3_13, c_25, f_25_0, f_25_1, f_25_2, f_25_3, f_25_4, f_25_5, f_25_6, f_25_7, p_25_7, e_26, i_26, Option.some.injEq, exists_eq_left', exists_eq_left, Option.toList_some, Option.toList_none, List.cons_append, List.nil_append, true_and, and_true, Option.map_some, Option.map_none, t5, hc, if_false, s_fits (d := d) (by omega) hW hT h27 hm, hfx, hf.1, b01, if_true, show ¬ ((1 : Int32) = 0) by decide, hrd m hm hf.1, hz _ (wyN_b hW A n _), hf.2, not_true_eq_false]
    exact eq_comm) (by
    simp only [w_Sets_firstFit_0, w_Sets_firstFit_7, w_Sets_firstFit_10, w_Sets_firstFit_13, w_Sets_firstFit_20, w_Sets_firstFit_23, w_Sets_firstFit_27, w_Sets_firstFit_33, w_Sets_firstFit_36, w_Sets_firstFit_38, w_Sets_firstFit_44, w_Sets_firstFit_2 (l3 := nI (tM T)), c_3, f_3_0, p_3_0, f_3_1, p_3_1, f_3_2, p_3_2, f_3_3, p_3_3, f_3_4, p_3_4, f_3_5, p_3_5, f_3_6, p_3_6, f_3_7, p_3_7, f_3_8, p_3_8, f_3_9, f_3_10, f_3_11, f_3_12, f_3_13, c_25, f_25_0, f_25_1, f_25_2, f_25_3, f_25_4, f_25_5, f_25_6, f_25_7, p_25_7, Option.some.injEq, exists_eq_left', exists_eq_left, Option.toList_some, Option.toList_none, List.cons_append, List.nil_append, true_and, and_true, Option.map_some, Option.map_none, t5, show nI (tM T) ≤ nI (tM T) from Int32.le_refl _, if_true]
    exact eq_comm)
  refine key.trans ?_
  cases frst (fun m => fitX T A (nI n) (nI j) (rstN n j) m && decide (0 < wyN T A n (j ||| 2 ^ m))) 0 (tM T) <;> rfl
set_option maxHeartbeats 4000000 in
theorem s_inFirst (hd : 7 ≤ d) (hW : tWf T) {s : xS} (hT : clsT s 3 T) (hA : clsS s 9 T A) {n i : Nat} (hn : n < 2 ^ tM T) (hi31 : i < 2 ^ 31) (hbc : bcE (nI n) = nI (lst (tM T) (nI n)).length) : ∃ s', x_ev g_M P d 40 [.ref 25, .int (nI n), .int (nI i)] (mkH xs s) (some (.int (stdV T A n i)), mkH xs s') ∧ keC s s' := by
  have w2 := hW.2.1
  have hn256 : n < 256 := Nat.lt_of_lt_of_le hn (p2_le _ (by omega)).1
  have hl8 : (lst (tM T) (nI n)).length ≤ 8 := by
    unfold lst
    exact Nat.le_trans (List.length_filter_le _ _) (by rw [List.length_range]; exact w2)
  obtain ⟨d, rfl⟩ := x_1 (d := d) (by omega)
  have hi0 : ¬ nI i < 0 := nI_pos hi31
  by_cases hib : i < (lst (tM T) (nI n)).length
  · have hc : ¬ nI (lst (tM T) (nI n)).length ≤ nI i := nI_ge hib (by omega)
    obtain ⟨s1, q1, q2, q3, q4⟩ := s_ordersOf (P := P) (d := d) (xs := xs) (by omega) hW hT hA hn
    have hT1 : clsT s1 3 T := clsT_off (fun q a b => q2.1 q (by omega) (by omega)) hT
    have hs0 : sbs 0 n := fun i hi => by simp at hi
    have hw0 : (hdN T A n 0).isSome = true ↔ 0 < wyN T A n 0 := hdX_wy _ _ _ _ _ _
    refine ⟨s1, ?_, q2.ke⟩
    cases hh : hdN T A n 0 with
    | none =>
      rw [hh] at hw0
      have h0 : wyN T A n 0 = 0 := by
        have : ¬ 0 < wyN T A n 0 := fun z => by have := hw0.mpr z; cases this
        omega
      rw [h0] at q1
      rw [stdV_n hh]
      rw [x_ev_in rfl (Nat.le_of_ble_eq_true rfl)]
      rw [show x_ent (x_nL g_M 40) [.ref 25, .int (nI n), .int (nI i)] = [some (.ref 25), some (.int (nI n)), some (.int (nI i)), none, none, none] from rfl]
      simp only [w_Sets_inFirstOrder_0, w_Sets_inFirstOrder_4, w_Sets_inFirstOrder_9, w_Sets_inFirstOrder_12, w_Sets_inFirstOrder_17, w_Sets_inFirstOrder_20, w_Sets_inFirstOrder_22, w_Sets_inFirstOrder_36, w_Sets_inFirstOrder_42, w_Sets_inFirstOrder_49, w_Sets_inFirstOrder_51, w_Sets_inFirstOrder_64, c_25, f_25_0, f_25_1, f_25_2, f_25_3, f_25_4, f_25_5, f_25_6, f_25_7, p_25_7, Option.some.injEq, exists_eq_left', exists_eq_left, Option.toList_some, Option.toList_none, List.cons_append, List.nil_append, true_and, and_true, Option.map_some, Option.map_none, hi0, if_false, t_bitCount (d := d) (by omega), hbc, hc, x_ev_iff q1, show (nI 0 = 0) ↔ True by decide, not_true_eq_false]
    | some σ =>
      rw [hh] at hw0
      have h0 : ¬ nI (wyN T A n 0) = 0 := nI_ne0 (hw0.mp rfl) (by have := wyN_b hW A n 0; omega)
      have hσ : σ.length = (lst (tM T) (nI n)).length := by
        have hm := hdX_mem (show hdX T A (nI n) (lst (tM T) (rstN n 0)).length (nI 0) (rstN n 0) = some σ from hh)
        have := (pm_mem w2 _ _ _ rfl hm).1
        rw [this, rst_0 n hn256]
      rw [stdV_s hh hib]
      have key : ∀ (c k j : Nat) (l4 : Int32), k + c = i + 1 → sbs j n → hdN T A n j = some (σ.drop k) → (k = i + 1 → l4 = nI (lo σ i)) → x_R (x_ev g_M P d) 40 (30, [some (.ref 25), some (.int (nI n)), some (.int (nI i)), some (.int (nI j)), some (.int l4), some (.int (nI k))], [], mkH xs s1) (some (.int (nI (lo σ i))), mkH xs s1) := by
        intro c
        induction c with
        | zero =>
          intro k j l4 hk hj hd4 hl
          have hki : k = i + 1 := by omega
          have hlt : nI i < nI k := nI_lt (by omega) (by omega)
          simp only [w_Sets_inFirstOrder_0, w_Sets_inFirstOrder_4, w_Sets_inFirstOrder_9, w_Sets_inFirstOrder_12, w_Sets_inFirstOrder_17, w_Sets_inFirstOrder_20, w_Sets_inFirstOrder_22, w_Sets_inFirstOrder_36, w_Sets_inFirstOrder_42, w_Sets_inFirstOrder_49, w_Sets_inFirstOrder_51, w_Sets_inFirstOrder_64, w_Sets_inFirstOrder_30 (l5 := nI k), hlt, if_true, hl hki]
        | succ c ih =>
          intro k j l4 hk hj hd4 hl
          have hlt : ¬ nI i < nI k := nI_nlt (by omega) (by omega)
          rw [drop_cons (show k < σ.length by omega)] at hd4
          obtain ⟨h1, h2, h3⟩ := hdN_cons hW hn hj hd4
          obtain ⟨-, f2, -, -⟩ := frst_some h1
          have hm : lo σ k < tM T := by omega
          have hj256 : j < 256 := Nat.lt_of_le_of_lt (sbs_le hj) hn256
          have hor : nI j ||| ((1 : Int32) <<< (nI (lo σ k) &&& 31)) = nI (j ||| 2 ^ lo σ k) := (nI_or hj256 (by omega)).symm
          have := ih (k + 1) (j ||| 2 ^ lo σ k) (nI (lo σ k)) (by omega) h3 h2 (fun hz => by rw [show k = i by omega])
          simp only [w_Sets_inFirstOrder_0, w_Sets_inFirstOrder_4, w_Sets_inFirstOrder_9, w_Sets_inFirstOrder_12, w_Sets_inFirstOrder_17, w_Sets_inFirstOrder_20, w_Sets_inFirstOrder_22, w_Sets_inFirstOrder_36, w_Sets_inFirstOrder_42, w_Sets_inFirstOrder_49, w_Sets_inFirstOrder_51, w_Sets_inFirstOrder_64, w_Sets_inFirstOrder_30 (l5 := nI k), hlt, if_false, c_25, f_25_0, f_25_1, f_25_2, f_25_3, f_25_4, f_25_5, f_25_6, f_25_7, p_25_7, Option.some.injEq, exists_eq_left', exists_eq_left, Option.toList_some, Option.toList_none, List.cons_append, List.nil_append, true_and, and_true, Option.map_some, Option.map_none, s_firstFit (d := d) (by omega) hW hT1 hn hj q3 q4, h1, optI, nI_pos' (show lo σ k < 2 ^ 31 by omega), if_true, hor, nI_1]
          exact this
      have hfin := key (i + 1) 0 0 (-1) (by omega) hs0 (by rw [List.drop_zero]; exact hh) (fun hz => by omega)
      rw [x_ev_in rfl (Nat.le_of_ble_eq_true rfl)]
      rw [show x_ent (x_nL g_M 40) [.ref 25, .int (nI n), .int (nI i)] = [some (.ref 25), some (.int (nI n)), some (.int (nI i)), none, none, none] from rfl]
      simp only [w_Sets_inFirstOrder_0, w_Sets_inFirstOrder_4, w_Sets_inFirstOrder_9, w_Sets_inFirstOrder_12, w_Sets_inFirstOrder_17, w_Sets_inFirstOrder_20, w_Sets_inFirstOrder_22, w_Sets_inFirstOrder_36, w_Sets_inFirstOrder_42, w_Sets_inFirstOrder_49, w_Sets_inFirstOrder_51, w_Sets_inFirstOrder_64, c_25, f_25_0, f_25_1, f_25_2, f_25_3, f_25_4, f_25_5, f_25_6, f_25_7, p_25_7, Option.some.injEq, exists_eq_left', exists_eq_left, Option.toList_some, Option.toList_none, List.cons_append, List.nil_append, true_and, and_true, Option.map_some, Option.map_none, hi0, if_false, t_bitCount (d := d) (by omega), hbc, hc, x_ev_iff q1, h0, not_false_eq_true, if_true]
      exact hfin
  · have hc : nI (lst (tM T) (nI n)).length ≤ nI i := nI_le (by omega) hi31
    refine ⟨s, ?_, keC.rf⟩
    rw [stdV_o hib]
    rw [x_ev_in rfl (Nat.le_of_ble_eq_true rfl)]
    rw [show x_ent (x_nL g_M 40) [.ref 25, .int (nI n), .int (nI i)] = [some (.ref 25), some (.int (nI n)), some (.int (nI i)), none, none, none] from rfl]
    simp only [w_Sets_inFirstOrder_0, w_Sets_inFirstOrder_4, w_Sets_inFirstOrder_9, w_Sets_inFirstOrder_12, w_Sets_inFirstOrder_17, w_Sets_inFirstOrder_20, w_Sets_inFirstOrder_22, w_Sets_inFirstOrder_36, w_Sets_inFirstOrder_42, w_Sets_inFirstOrder_49, w_Sets_inFirstOrder_51, w_Sets_inFirstOrder_64, c_25, f_25_0, f_25_1, f_25_2, f_25_3, f_25_4, f_25_5, f_25_6, f_25_7, p_25_7, Option.some.injEq, exists_eq_left', exists_eq_left, Option.toList_some, Option.toList_none, List.cons_append, List.nil_append, true_and, and_true, Option.map_some, Option.map_none, hi0, if_false, t_bitCount (d := d) (by omega), hbc, hc, if_true]
set_option maxHeartbeats 4000000 in
theorem s_bestStanding (hd : 7 ≤ d) (hW : tWf T) {s : xS} (hT : clsT s 3 T) (hA : clsS s 9 T A) : ∃ s', x_ev g_M P d 42 [.ref 25] (mkH xs s) (some (.int (nI (bsN T A (2 ^ tM T)))), mkH xs s') ∧ keC s s' := by
  have w2 := hW.2.1
  have hp2 := p2_le (tM T) (by omega)
  obtain ⟨d, rfl⟩ := x_1 (d := d) (by omega)
  have hz : ∀ w, w < 2 ^ 30 → (nI w ≤ 0 ↔ ¬ 0 < w) := by
    intro w hw
    have := nI_leI (a := w) (b := 0) (by omega) (by omega)
    rw [show nI 0 = 0 from rfl] at this
    rw [this]
    omega
  have hb1 : bsN T A 1 = 0 := by
    rw [bsN]
    split
    · rfl
    · rfl
  obtain ⟨⟨s', o⟩, ho, e⟩ := x_upY (C := x_ev g_M P d) (k := 42) (N := 2 ^ tM T) (β := xS × Option Value) (R := fun c z => offO s z.1) (F := fun c z => (6, [some (.ref 25), some (.int (nI (bsN T A c))), some (.int (tAll T (nI (bsN T A c)))), some (.int (nI c)), z.2], [], mkH xs z.1)) (fun c zo hc ho => by
    obtain ⟨z, o⟩ := zo
    have ho : offO s z := ho
    have hTz : clsT z 3 T := clsT_off (fun q a b => ho.1 q (by omega) (by omega)) hT
    have hAz : clsS z 9 T A := clsS_at (fun q a b => ho.1 q (by omega) (by omega)) hA
    have hcc : ¬ nI (2 ^ tM T) ≤ nI c := nI_ge hc (by omega)
    have hle : tAll T (nI c) ≤ tAll T (nI (bsN T A c)) ↔ ¬ tAll T (nI (bsN T A c)) < tAll T (nI c) := Int32.not_lt.symm
    by_cases h1 : tAll T (nI (bsN T A c)) < tAll T (nI c)
    · obtain ⟨z1, q1, q2, -, -⟩ := s_ordersOf (P := P) (d := d) (xs := xs) (by omega) hW hTz hAz hc
      refine ⟨(z1, some (.int (tAll T (nI c)))), ho.tr q2, fun r => ?_⟩
      by_cases h2 : 0 < wyN T A c 0
      · have hb : bsN T A (c + 1) = c := by rw [bsN, if_pos ⟨h1, h2⟩]
        simp only [w_Sets_bestStanding_0, w_Sets_bestStanding_11, w_Sets_bestStanding_14, w_Sets_bestStanding_18, w_Sets_bestStanding_22, w_Sets_bestStanding_30, w_Sets_bestStanding_35, w_Sets_bestStanding_38, w_Sets_bestStanding_43, w_Sets_bestStanding_49, w_Sets_bestStanding_6 (l3 := nI c), c_3, f_3_0, p_3_0, f_3_1, p_3_1, f_3_2, p_3_2, f_3_3, p_3_3, f_3_4, p_3_4, f_3_5, p_3_5, f_3_6, p_3_6, f_3_7, p_3_7, f_3_8, p_3_8, f_3_9, f_3_10, f_3_11, f_3_12, f_3_13, c_25, f_25_0, f_25_1, f_25_2, f_25_3, f_25_4, f_25_5, f_25_6, f_25_7, p_25_7, Option.some.injEq, exists_eq_left', exists_eq_left, Option.toList_some, Option.toList_none, List.cons_append, List.nil_append, true_and, and_true, Option.map_some, Option.map_none, s_allSets (d := d) (by omega) hTz hW, hcc, if_false, t_sumOfAll (d := d) (by omega) hTz hW, hle, h1, not_true_eq_false, x_ev_iff q1, hz _ (wyN_b hW A c 0), h2, nI_1, hb]
      · have hb : bsN T A (c + 1) = bsN T A c := by rw [bsN, if_neg (fun z => h2 z.2)]
        simp only [w_Sets_bestStanding_0, w_Sets_bestStanding_11, w_Sets_bestStanding_14, w_Sets_bestStanding_18, w_Sets_bestStanding_22, w_Sets_bestStanding_30, w_Sets_bestStanding_35, w_Sets_bestStanding_38, w_Sets_bestStanding_43, w_Sets_bestStanding_49, w_Sets_bestStanding_6 (l3 := nI c), c_3, f_3_0, p_3_0, f_3_1, p_3_1, f_3_2, p_3_2, f_3_3, p_3_3, f_3_4, p_3_4, f_3_5, p_3_5, f_3_6, p_3_6, f_3_7, p_3_7, f_3_8, p_3_8, f_3_9, f_3_10, f_3_11, f_3_12, f_3_13, c_25, f_25_0, f_25_1, f_25_2, f_25_3, f_25_4, f_25_5, f_25_6, f_25_7, p_25_7, Option.some.injEq, exists_eq_left', exists_eq_left, Option.toList_some, Option.toList_none, List.cons_append, List.nil_append, true_and, and_true, Option.map_some, Option.map_none, s_allSets (d := d) (by omega) hTz hW, hcc, if_false, t_sumOfAll (d := d) (by omega) hTz hW, hle, h1, not_true_eq_false, x_ev_iff q1, hz _ (wyN_b hW A c 0), h2, not_false_eq_true, if_true, nI_1, hb]
    · have hb : bsN T A (c + 1) = bsN T A c := by rw [bsN, if_neg (fun z => h1 z.1)]
      refine ⟨(z, some (.int (tAll T (nI c)))), ho, fun r => ?_⟩
      simp only [w_Sets_bestStanding_0, w_Sets_bestStanding_11, w_Sets_bestStanding_14, w_Sets_bestStanding_18, w_Sets_bestStanding_22, w_Sets_bestStanding_30, w_Sets_bestStanding_35, w_Sets_bestStanding_38, w_Sets_bestStanding_43, w_Sets_bestStanding_49, w_Sets_bestStanding_6 (l3 := nI c), c_3, f_3_0, p_3_0, f_3_1, p_3_1, f_3_2, p_3_2, f_3_3, p_3_3, f_3_4, p_3_4, f_3_5, p_3_5, f_3_6, p_3_6, f_3_7, p_3_7, f_3_8, p_3_8, f_3_9, f_3_10, f_3_11, f_3_12, f_3_13, c_25, f_25_0, f_25_1, f_25_2, f_25_3, f_25_4, f_25_5, f_25_6, f_25_7, p_25_7, Option.some.injEq, exists_eq_left', exists_eq_left, Option.toList_some, Option.toList_none, List.cons_append, List.nil_append, true_and, and_true, Option.map_some, Option.map_none, s_allSets (d := d) (by omega) hTz hW, hcc, if_false, t_sumOfAll (d := d) (by omega) hTz hW, hle, h1, not_false_eq_true, if_true, nI_1, hb]) (2 ^ tM T - 1) 1 (s, none) (by omega) ⟨fun _ _ _ => rfl, rfl⟩
  have ho : offO s s' := ho
  have hTz : clsT s' 3 T := clsT_off (fun q a b => ho.1 q (by omega) (by omega)) hT
  refine ⟨s', ?_, ho.ke⟩
  rw [x_ev_in rfl (Nat.le_of_ble_eq_true rfl)]
  rw [show x_ent (x_nL g_M 42) [.ref 25] = [some (.ref 25), none, none, none, none] from rfl]
  rw [w_Sets_bestStanding_0]
  have e' := e (some (.int (nI (bsN T A (2 ^ tM T)))), mkH xs s')
  rw [hb1, tAll_0] at e'
  refine e'.mpr ?_
  simp only [w_Sets_bestStanding_0, w_Sets_bestStanding_11, w_Sets_bestStanding_14, w_Sets_bestStanding_18, w_Sets_bestStanding_22, w_Sets_bestStanding_30, w_Sets_bestStanding_35, w_Sets_bestStanding_38, w_Sets_bestStanding_43, w_Sets_bestStanding_49, w_Sets_bestStanding_6 (l3 := nI (2 ^ tM T)), c_25, f_25_0, f_25_1, f_25_2, f_25_3, f_25_4, f_25_5, f_25_6, f_25_7, p_25_7, Option.some.injEq, exists_eq_left', exists_eq_left, Option.toList_some, Option.toList_none, List.cons_append, List.nil_append, true_and, and_true, Option.map_some, Option.map_none, s_allSets (d := d) (by omega) hTz hW, show nI (2 ^ tM T) ≤ nI (2 ^ tM T) from Int32.le_refl _, if_true]
end STOODC
