/-! stands, stood, best: the class (own work) -/
def sbs (j n : Nat) : Prop := ∀ i, j.testBit i = true → n.testBit i = true
theorem sbs_le {j n : Nat} (h : sbs j n) : j ≤ n := by
  have : j &&& n = j := by
    apply Nat.eq_of_testBit_eq
    intro i
    rw [Nat.testBit_and]
    cases hj : j.testBit i
    · rfl
    · rw [h i hj]; rfl
  rw [← this]
  exact Nat.and_le_right
theorem tb_lt {j i : Nat} (hj : j < 256) (h : j.testBit i = true) : i < 8 := by
  apply Classical.byContradiction
  intro hi
  have : j < 2 ^ i := Nat.lt_of_lt_of_le hj (Nat.pow_le_pow_right (n := 2) (by omega) (show 8 ≤ i by omega))
  rw [Nat.testBit_lt_two_pow this] at h
  cases h
theorem sbs_and {j n : Nat} (hj : j < 256) (hn : n < 256) : (nI j &&& (nI n ^^^ (-1))) = 0 ↔ sbs j n := by
  rw [b_eq0]
  constructor
  · intro h i hi
    have h8 := tb_lt hj hi
    have := h i (by omega)
    rw [b_and, b_not (by omega), bt_nI (by omega) (by omega), bt_nI (by omega) (by omega), hi] at this
    simpa using this
  · intro h i hi
    rw [b_and, b_not hi, bt_nI (by omega) hi, bt_nI (by omega) hi]
    cases hb : j.testBit i
    · rfl
    · rw [h i hb]; rfl
theorem or_lt {j m : Nat} (hj : j < 256) (hm : m < 8) : j ||| 2 ^ m < 256 := Nat.or_lt_two_pow (n := 8) hj (Nat.pow_lt_pow_right (by omega) hm)
theorem nI_or {j m : Nat} (hj : j < 256) (hm : m < 8) : nI (j ||| 2 ^ m) = nI j ||| on1 m := by
  have := or_lt hj hm
  apply b_ext
  intro i hi
  rw [b_or, b_on (by omega) hi, bt_nI (by omega) hi, bt_nI (by omega) hi, Nat.testBit_or, Nat.testBit_two_pow]
  congr 1
  by_cases h : i = m
  · simp [h]
  · have : ¬ m = i := fun z => h z.symm
    simp [h, this]
def rstN (n j : Nat) : Int32 := nI n &&& (nI j ^^^ (-1))
theorem b_rst {n j i : Nat} (hn : n < 256) (hj : j < 256) (hi : i < 32) : bt (rstN n j) i = (n.testBit i && !j.testBit i) := by
  unfold rstN
  rw [b_and, b_not hi, bt_nI (by omega) hi, bt_nI (by omega) hi]
theorem rst_or {n j m : Nat} (hn : n < 256) (hj : j < 256) (hm : m < 8) : rstN n (j ||| 2 ^ m) = mnus (rstN n j) m := by
  apply b_ext
  intro i hi
  rw [b_rst hn (or_lt hj hm) hi, b_mnus (by omega) hi, b_rst hn hj hi, Nat.testBit_or, Nat.testBit_two_pow]
  by_cases h : i = m
  · simp [h]
  · have : ¬ m = i := fun z => h z.symm
    simp [h, this]
theorem rst_0 (n : Nat) (hn : n < 256) : rstN n 0 = nI n := by
  apply b_ext
  intro i hi
  rw [b_rst hn (by omega) hi, bt_nI (by omega) hi]
  simp
theorem rst_n (n : Nat) (hn : n < 256) : rstN n n = 0 := by
  apply b_ext
  intro i hi
  rw [b_rst hn hn hi, b_0]
  simp
def wyN (T : Tw) (A : As) (n j : Nat) : Nat := wyX T A (nI n) (lst (tM T) (rstN n j)).length (nI j) (rstN n j)
theorem lst_0 (n : Nat) : lst n 0 = [] := by
  unfold lst
  rw [List.filter_eq_nil_iff]
  intro a _
  rw [b_0]
  simp
theorem wyN_n (T : Tw) (A : As) (n : Nat) (hn : n < 256) : wyN T A n n = 1 := by
  unfold wyN
  rw [rst_n n hn, lst_0]
  rfl
theorem lst_pos {T : Tw} (hW : tWf T) {n j : Nat} (hn : n < 2 ^ tM T) (hj : sbs j n) (hne : j ≠ n) : ∃ k, (lst (tM T) (rstN n j)).length = k + 1 := by
  have w2 := hW.2.1
  have hn256 : n < 256 := Nat.lt_of_lt_of_le hn (p2_le _ (by omega)).1
  have hj256 : j < 256 := Nat.lt_of_le_of_lt (sbs_le hj) hn256
  have : ∃ i, n.testBit i = true ∧ j.testBit i = false := by
    apply Classical.byContradiction
    intro hz
    apply hne
    apply Nat.eq_of_testBit_eq
    intro i
    cases hb : n.testBit i
    · cases hb2 : j.testBit i
      · rfl
      · rw [hj i hb2] at hb; cases hb
    · cases hb2 : j.testBit i
      · exact absurd ⟨i, hb, hb2⟩ hz
      · rfl
  obtain ⟨i, h1, h2⟩ := this
  have hi8 := tb_lt hn256 h1
  have hiM : i < tM T := by
    apply Classical.byContradiction
    intro hz
    have : n < 2 ^ i := Nat.lt_of_lt_of_le hn (Nat.pow_le_pow_right (n := 2) (by omega) (by omega))
    rw [Nat.testBit_lt_two_pow this] at h1
    cases h1
  have hm : i ∈ lst (tM T) (rstN n j) := mem_lst.mpr ⟨hiM, by rw [b_rst hn256 hj256 (by omega), h1, h2]; rfl⟩
  exact ⟨(lst (tM T) (rstN n j)).length - 1, by have := List.length_pos_of_mem hm; omega⟩
theorem lst_dn {T : Tw} (hW : tWf T) {x : Int32} {m k : Nat} (hm : m < tM T) (hb : bt x m = true) (hk : (lst (tM T) x).length = k + 1) : (lst (tM T) (mnus x m)).length = k := by
  obtain ⟨R1, R2, hR⟩ := List.append_of_mem (mem_lst.mpr ⟨hm, hb⟩)
  rw [lst_mnus hW.2.1 hR, List.length_append]
  rw [hR, List.length_append, List.length_cons] at hk
  omega
theorem fit_b {T : Tw} {A : As} {S dn x : Int32} {m : Nat} (h : fitX T A S dn x m = true) : bt x m = true := by
  unfold fitX at h
  simp only [Bool.and_eq_true] at h
  exact h.1
theorem fit_sub {T : Tw} (hW : tWf T) {A : As} {n j m : Nat} (hn : n < 2 ^ tM T) (hj : sbs j n) (hm : m < tM T) (h : fitX T A (nI n) (nI j) (rstN n j) m = true) : sbs (j ||| 2 ^ m) n ∧ j < j ||| 2 ^ m := by
  have w2 := hW.2.1
  have hn256 : n < 256 := Nat.lt_of_lt_of_le hn (p2_le _ (by omega)).1
  have hj256 : j < 256 := Nat.lt_of_le_of_lt (sbs_le hj) hn256
  have hb := fit_b h
  rw [b_rst hn256 hj256 (by omega), Bool.and_eq_true, Bool.not_eq_true'] at hb
  refine ⟨fun i hi => ?_, ?_⟩
  · rw [Nat.testBit_or, Bool.or_eq_true, Nat.testBit_two_pow, decide_eq_true_eq] at hi
    rcases hi with hi | rfl
    · exact hj i hi
    · exact hb.1
  · have h1 : j ≤ j ||| 2 ^ m := Nat.left_le_or
    have h2 : j ≠ j ||| 2 ^ m := by
      intro z
      have := congrArg (fun y => Nat.testBit y m) z
      rw [Nat.testBit_or, Nat.testBit_two_pow, hb.2] at this
      simp at this
    omega
theorem wyN_s {T : Tw} (hW : tWf T) {A : As} {n j : Nat} (hn : n < 2 ^ tM T) (hj : sbs j n) (hne : j ≠ n) : wyN T A n j = nsm (fun m => if fitX T A (nI n) (nI j) (rstN n j) m = true then wyN T A n (j ||| 2 ^ m) else 0) (tM T) := by
  have w2 := hW.2.1
  have hn256 : n < 256 := Nat.lt_of_lt_of_le hn (p2_le _ (by omega)).1
  have hj256 : j < 256 := Nat.lt_of_le_of_lt (sbs_le hj) hn256
  obtain ⟨k, hk⟩ := lst_pos hW hn hj hne
  unfold wyN
  rw [hk, wyX_s]
  apply nsm_eq
  intro m hm
  by_cases hf : fitX T A (nI n) (nI j) (rstN n j) m = true
  · rw [if_pos hf, if_pos hf, rst_or hn256 hj256 (by omega), lst_dn hW hm (fit_b hf) hk, nI_or hj256 (by omega)]
  · rw [if_neg hf, if_neg hf]
theorem wyN_b {T : Tw} (hW : tWf T) (A : As) (n j : Nat) : wyN T A n j < 2 ^ 30 := by
  have w2 := hW.2.1
  have h1 := wyX_b hW A (nI n) (lst (tM T) (rstN n j)).length (nI j) (rstN n j)
  have h2 : (lst (tM T) (rstN n j)).length ≤ 8 := by
    unfold lst
    exact Nat.le_trans (List.length_filter_le _ _) (by rw [List.length_range]; exact w2)
  have h3 : 8 ^ (lst (tM T) (rstN n j)).length ≤ 8 ^ 8 := Nat.pow_le_pow_right (by omega) h2
  unfold wyN
  omega
def wsM (T : Tw) (A : As) (S : Int32) (m : Nat) : Int32 := if bt S m = true then ((if wsh T A S m (tPa T m 0) = true then on1 (tPa T m 0) else 0) ||| (if wsh T A S m (tPa T m 1) = true then on1 (tPa T m 1) else 0)) else 0
theorem wsM_b {T : Tw} (hW : tWf T) {A : As} {S : Int32} {m k : Nat} (hm : m < tM T) (hk : k < 2) (hb : bt S m = true) : bt (wsM T A S m) (tPa T m k) = wsh T A S m (tPa T m k) := by
  have w1 := hW.1
  obtain ⟨h1, h2, h3⟩ := hW.2.2.1 m hm
  have e : ∀ (c : Bool) (a i : Nat), a < 32 → i < 32 → bt (if c = true then on1 a else 0) i = (c && decide (i = a)) := by
    intro c a i ha hi
    cases c
    · simp [b_0]
    · simp [b_on ha hi]
  unfold wsM
  rw [if_pos hb]
  rcases (show k = 0 ∨ k = 1 by omega) with rfl | rfl
  · rw [b_or, e _ _ _ (by omega) (by omega), e _ _ _ (by omega) (by omega)]
    simp [h3]
  · have h4 : ¬ tPa T m 1 = tPa T m 0 := fun z => h3 z.symm
    rw [b_or, e _ _ _ (by omega) (by omega), e _ _ _ (by omega) (by omega)]
    simp [h4]
theorem offX.T {c : Nat} {s s' : xS} {T : Tw} (hc : 20 ≤ c) (h : offX c s s') (hT : clsT s 3 T) : clsT s' 3 T := clsT_off (fun q a b => h.1 q (by omega)) hT
section STANDC
variable {P : Nat → List Value → Option Value} {d : Nat} {xs : List Int32} {T : Tw} {A : As}
set_option maxHeartbeats 8000000 in
theorem s_findWishers (hd : 4 ≤ d) (hW : tWf T) {s : xS} (hT : clsT s 3 T) (hA : clsS s 9 T A) (S : Int32) : ∃ s', x_ev g_M P d 38 [.ref 25, .int S] (mkH xs s) (none, mkH xs s') ∧ offX 27 s s' ∧ ∀ m, m < tM T → s'.1 27 m = wsM T A S m := by
  have w1 := hW.1
  have w2 := hW.2.1
  obtain ⟨d, rfl⟩ := x_1 (d := d) (by omega)
  obtain ⟨⟨s', o3, o4⟩, ⟨ho, hv⟩, e⟩ := x_upY (C := x_ev g_M P d) (k := 38) (N := tM T) (β := xS × Option Value × Option Value) (R := fun m z => offX 27 s z.1 ∧ ∀ i, i < m → z.1.1 27 i = wsM T A S i) (F := fun m z => (2, [some (.ref 25), some (.int S), some (.int (nI m)), z.2.1, z.2.2], [], mkH xs z.1)) (fun m zo hm hR => by
    obtain ⟨z, o3, o4⟩ := zo
    obtain ⟨hz, hv⟩ : offX 27 s z ∧ ∀ i, i < m → z.1 27 i = wsM T A S i := hR
    have hc : ¬ nI (tM T) ≤ nI m := nI_ge hm (by omega)
    have hTz := hz.T (by omega) hT
    have t5 := hTz.1.2.2.2.2.2
    have hx : ∀ f : Nat → Int32, x_rd f 8 (nI m) = some (f m) := fun f => x_rd_nI (by omega) (by omega)
    obtain ⟨p1, p2, p3⟩ := hW.2.2.1 m hm
    have hside : ∀ (k : Nat) (y : xS) (o : Option Value), k < 2 → bt S m = true → offX 27 s y → ∃ y' o', offX 27 s y' ∧ (∀ i, i ≠ m → y'.1 27 i = y.1 27 i) ∧ y'.1 27 m = (y.1 27 m ||| (if wsh T A S m (tPa T m k) = true then on1 (tPa T m k) else 0)) ∧ ∀ r, x_R (x_ev g_M P d) 38 (22, [some (.ref 25), some (.int S), some (.int (nI m)), some (.int (nI k)), o], [], mkH xs y) r ↔ x_R (x_ev g_M P d) 38 (22, [some (.ref 25), some (.int S), some (.int (nI m)), some (.int (nI (k + 1))), o'], [], mkH xs y') r := by
      intro k y o hk hb hy
      have hTy := hy.T (by omega) hT
      have hAy : clsS y 9 T A := clsS_at (fun q a b => hy.1 q (by omega)) hA
      have hp : tPa T m k < tP T := by
        rcases (show k = 0 ∨ k = 1 by omega) with rfl | rfl
        · exact p1
        · exact p2
      have hk2 : ¬ 2 ≤ nI k := nI_ge (b := 2) hk (by omega)
      have hl := hAy.2.2.1
      have hcu : x_rd (y.1 11) 6 (nI (tPa T m k)) = some (A.2.2.2 (tPa T m k)) := by rw [x_rd_nI (by omega) (by omega)]; exact congrArg some (hAy.2.2.2.2.2 _ hp)
      have e1 : A.2.2.1 ≤ 0 ↔ ¬ 0 < A.2.2.1 := Int32.not_lt.symm
      have e2 : A.2.2.2 (tPa T m k) ≤ 0 ↔ ¬ 0 < A.2.2.2 (tPa T m k) := Int32.not_lt.symm
      have e3 : tGbf T S m (tPa T m k) ≤ 0 ↔ ¬ 0 < tGbf T S m (tPa T m k) := Int32.not_lt.symm
      by_cases hw : wsh T A S m (tPa T m k) = true
      · have hw2 := hw
        unfold wsh at hw2
        simp only [Bool.and_eq_true, decide_eq_true_eq] at hw2
        refine ⟨s_p y 27 m (y.1 27 m ||| on1 (tPa T m k)), some (.int (nI (tPa T m k))), ⟨fun q hq => by rw [← hy.1 q hq]; exact s_p_o.1 q hq, hy.2⟩, fun i hi => by simp [s_p, hi], by rw [if_pos hw]; simp [s_p], fun r => ?_⟩
        simp only [w_Sets_findWishers_0, w_Sets_findWishers_7, w_Sets_findWishers_10, w_Sets_findWishers_13, w_Sets_findWishers_17, w_Sets_findWishers_20, w_Sets_findWishers_27, w_Sets_findWishers_32, w_Sets_findWishers_36, w_Sets_findWishers_40, w_Sets_findWishers_45, w_Sets_findWishers_51, w_Sets_findWishers_54, w_Sets_findWishers_57, w_Sets_findWishers_61, w_Sets_findWishers_64, w_Sets_findWishers_67, w_Sets_findWishers_70, w_Sets_findWishers_78, w_Sets_findWishers_81, w_Sets_findWishers_85, w_Sets_findWishers_88, w_Sets_findWishers_94, w_Sets_findWishers_100, w_Sets_findWishers_106, w_Sets_findWishers_22 (l3 := nI k), hk2, if_false, c_3, f_3_0, p_3_0, f_3_1, p_3_1, f_3_2, p_3_2, f_3_3, p_3_3, f_3_4, p_3_4, f_3_5, p_3_5, f_3_6, p_3_6, f_3_7, p_3_7, f_3_8, p_3_8, f_3_9, f_3_10, f_3_11, f_3_12, f_3_13, c_9, f_9_0, f_9_1, p_9_1, f_9_2, p_9_2, f_9_3, p_9_3, f_9_4, p_9_4, f_9_5, f_9_6, e_11, i_11, c_25, f_25_0, f_25_1, f_25_2, f_25_3, f_25_4, f_25_5, f_25_6, f_25_7, p_25_7, e_27, i_27, Option.some.injEq, exists_eq_left', exists_eq_left, Option.toList_some, Option.toList_none, List.cons_append, List.nil_append, true_and, and_true, Option.map_some, Option.map_none, t_bitOf (d := d) (by omega), bit_1 (show m < 32 by omega), hb, not_true_eq_false, t_partyOf (d := d) (by omega) hTy hW hm hk, hl, e1, hw2.1, hcu, e2, hw2.2.1, s_gainByFall (d := d) (by omega) hTy hW S hm hp, e3, hw2.2.2, hx, nI_clamp (show m < 2 ^ 31 by omega), nI_1]
        exact Iff.rfl
      · refine ⟨y, some (.int (nI (tPa T m k))), hy, fun _ _ => rfl, by rw [if_neg hw, Int32.or_zero], fun r => ?_⟩
        simp only [w_Sets_findWishers_0, w_Sets_findWishers_7, w_Sets_findWishers_10, w_Sets_findWishers_13, w_Sets_findWishers_17, w_Sets_findWishers_20, w_Sets_findWishers_27, w_Sets_findWishers_32, w_Sets_findWishers_36, w_Sets_findWishers_40, w_Sets_findWishers_45, w_Sets_findWishers_51, w_Sets_findWishers_54, w_Sets_findWishers_57, w_Sets_findWishers_61, w_Sets_findWishers_64, w_Sets_findWishers_67, w_Sets_findWishers_70, w_Sets_findWishers_78, w_Sets_findWishers_81, w_Sets_findWishers_85, w_Sets_findWishers_88, w_Sets_findWishers_94, w_Sets_findWishers_100, w_Sets_findWishers_106, w_Sets_findWishers_22 (l3 := nI k), hk2, if_false, c_3, f_3_0, p_3_0, f_3_1, p_3_1, f_3_2, p_3_2, f_3_3, p_3_3, f_3_4, p_3_4, f_3_5, p_3_5, f_3_6, p_3_6, f_3_7, p_3_7, f_3_8, p_3_8, f_3_9, f_3_10, f_3_11, f_3_12, f_3_13, c_9, f_9_0, f_9_1, p_9_1, f_9_2, p_9_2, f_9_3, p_9_3, f_9_4, p_9_4, f_9_5, f_9_6, e_11, i_11, c_25, f_25_0, f_25_1, f_25_2, f_25_3, f_25_4, f_25_5, f_25_6, f_25_7, p_25_7, Option.some.injEq, exists_eq_left', exists_eq_left, Option.toList_some, Option.toList_none, List.cons_append, List.nil_append, true_and, and_true, Option.map_some, Option.map_none, t_bitOf (d := d) (by omega), bit_1 (show m < 32 by omega), hb, not_true_eq_false, t_partyOf (d := d) (by omega) hTy hW hm hk, hl, e1, hcu, e2, s_gainByFall (d := d) (by omega) hTy hW S hm hp, e3, nI_1]
        unfold wsh at hw
        by_cases h1 : 0 < A.2.2.1
        · by_cases h2 : 0 < A.2.2.2 (tPa T m k)
          · have h3 : ¬ 0 < tGbf T S m (tPa T m k) := fun z => hw (by simp [h1, h2, z])
            simp only [h1, h2, h3, not_true_eq_false, not_false_eq_true, if_true, if_false]
          · simp only [h1, h2, not_true_eq_false, not_false_eq_true, if_true, if_false]
        · simp only [h1, not_false_eq_true, if_true]
    have o0 : offX 27 s (s_p z 27 m 0) := ⟨fun q hq => by rw [← hz.1 q hq]; exact s_p_o.1 q hq, hz.2⟩
    have hhd : ∀ r, x_R (x_ev g_M P d) 38 (2, [some (.ref 25), some (.int S), some (.int (nI m)), o3, o4], [], mkH xs z) r ↔ x_R (x_ev g_M P d) 38 (22, [some (.ref 25), some (.int S), some (.int (nI m)), some (.int (nI 0)), o4], [], mkH xs (s_p z 27 m 0)) r := by
      intro r
      simp only [w_Sets_findWishers_2 (l2 := nI m), w_Sets_findWishers_7, w_Sets_findWishers_10, w_Sets_findWishers_13, w_Sets_findWishers_17, w_Sets_findWishers_20, c_3, f_3_0, p_3_0, f_3_1, p_3_1, f_3_2, p_3_2, f_3_3, p_3_3, f_3_4, p_3_4, f_3_5, p_3_5, f_3_6, p_3_6, f_3_7, p_3_7, f_3_8, p_3_8, f_3_9, f_3_10, f_3_11, f_3_12, f_3_13, c_25, f_25_0, f_25_1, f_25_2, f_25_3, f_25_4, f_25_5, f_25_6, f_25_7, p_25_7, e_27, i_27, Option.some.injEq, exists_eq_left', exists_eq_left, Option.toList_some, Option.toList_none, List.cons_append, List.nil_append, true_and, and_true, Option.map_some, Option.map_none, t5, hc, if_false, hx, nI_clamp (show m < 2 ^ 31 by omega)]
      exact Iff.rfl
    by_cases hb : bt S m = true
    · obtain ⟨y1, q1, a1, a2, a3, a4⟩ := hside 0 (s_p z 27 m 0) o4 (by omega) hb o0
      obtain ⟨y2, q2, b1, b2, b3, b4⟩ := hside 1 y1 q1 (by omega) hb a1
      refine ⟨(y2, some (.int (nI 2)), q2), ⟨b1, fun i hi => ?_⟩, fun r => ?_⟩
      · by_cases him : i = m
        · subst him
          show y2.1 27 i = _
          rw [b3, a3]
          unfold wsM
          rw [if_pos hb]
          have : (s_p z 27 i 0).1 27 i = 0 := by simp [s_p]
          rw [this, Int32.zero_or]
        · show y2.1 27 i = _
          rw [b2 i him, a2 i him, ← hv i (by omega)]
          simp [s_p, him]
      · rw [hhd, a4, b4]
        simp only [w_Sets_findWishers_22 (l3 := nI 2), w_Sets_findWishers_100, show (2 : Int32) ≤ nI 2 from Int32.le_refl _, if_true, nI_1]
    · refine ⟨(s_p z 27 m 0, some (.int (nI 0)), o4), ⟨o0, fun i hi => ?_⟩, fun r => ?_⟩
      · by_cases him : i = m
        · subst him
          show (s_p z 27 i 0).1 27 i = _
          unfold wsM
          rw [if_neg hb]
          simp [s_p]
        · show (s_p z 27 m 0).1 27 i = _
          rw [← hv i (by omega)]
          simp [s_p, him]
      · rw [hhd]
        simp only [w_Sets_findWishers_22 (l3 := nI 0), w_Sets_findWishers_27, w_Sets_findWishers_32, w_Sets_findWishers_100, show ¬ (2 : Int32) ≤ nI 0 by decide, if_false, Option.some.injEq, exists_eq_left', exists_eq_left, Option.toList_some, Option.toList_none, List.cons_append, List.nil_append, true_and, and_true, Option.map_some, Option.map_none, t_bitOf (d := d) (by omega), bit_1 (show m < 32 by omega), hb, Bool.false_eq_true, not_false_eq_true, if_true, nI_1]) (tM T) 0 (s, none, none) (by omega) ⟨⟨fun _ _ => rfl, rfl⟩, fun i hi => by omega⟩
  have ho : offX 27 s s' := ho
  have t5 : s'.1 3 5 = nI (tM T) := (ho.T (by omega) hT).1.2.2.2.2.2
  refine ⟨s', ?_, ho, hv⟩
  rw [x_ev_in rfl (Nat.le_of_ble_eq_true rfl)]
  rw [show x_ent (x_nL g_M 38) [.ref 25, .int S] = [some (.ref 25), some (.int S), none, none, none] from rfl]
  rw [w_Sets_findWishers_0]
  refine (e _).mpr ?_
  simp only [w_Sets_findWishers_2 (l2 := nI (tM T)), w_Sets_findWishers_7, w_Sets_findWishers_10, w_Sets_findWishers_106, c_3, f_3_0, p_3_0, f_3_1, p_3_1, f_3_2, p_3_2, f_3_3, p_3_3, f_3_4, p_3_4, f_3_5, p_3_5, f_3_6, p_3_6, f_3_7, p_3_7, f_3_8, p_3_8, f_3_9, f_3_10, f_3_11, f_3_12, f_3_13, c_25, f_25_0, f_25_1, f_25_2, f_25_3, f_25_4, f_25_5, f_25_6, f_25_7, p_25_7, Option.some.injEq, exists_eq_left', exists_eq_left, Option.toList_some, Option.toList_none, List.cons_append, List.nil_append, true_and, and_true, Option.map_some, Option.map_none, t5, show nI (tM T) ≤ nI (tM T) from Int32.le_refl _, if_true]
set_option maxHeartbeats 8000000 in
theorem s_fits (hd : 2 ≤ d) (hW : tWf T) {s : xS} (hT : clsT s 3 T) {S dn : Int32} (h27 : ∀ m, m < tM T → s.1 27 m = wsM T A S m) {m : Nat} (hm : m < tM T) {q : Option Value × xH} : x_ev g_M P d 37 [.ref 25, .int S, .int dn, .int (nI m)] (mkH xs s) q ↔ q = (some (.int (b01 (fitX T A S dn (S &&& (dn ^^^ (-1))) m))), mkH xs s) := by
  have w1 := hW.1
  have w2 := hW.2.1
  have hx7 : x_rd (s.1 7) 8 (nI m) = some (tOn T m) := by rw [x_rd_nI (by omega) (by omega)]; exact congrArg some (hT.2.2.2.2.2.2.2.1 m hm)
  have hx27 : x_rd (s.1 27) 8 (nI m) = some (wsM T A S m) := by rw [x_rd_nI (by omega) (by omega), h27 m hm]
  obtain ⟨p1, p2, p3⟩ := hW.2.2.1 m hm
  have hlat : ∀ x : Int32, (x &&& (((1 : Int32) <<< (nI m &&& 31)) ^^^ (-1))) = mnus x m := fun x => rfl
  obtain ⟨d, rfl⟩ := x_1 (d := d) (by omega)
  rw [x_ev_in rfl (Nat.le_of_ble_eq_true rfl)]
  rw [show x_ent (x_nL g_M 37) [.ref 25, .int S, .int dn, .int (nI m)] = [some (.ref 25), some (.int S), some (.int dn), some (.int (nI m)), none, none, none, none] from rfl]
  simp only [w_Sets_fits_0, w_Sets_fits_13, w_Sets_fits_16, w_Sets_fits_20, w_Sets_fits_23, w_Sets_fits_25, w_Sets_fits_32, w_Sets_fits_34, c_3, f_3_0, p_3_0, f_3_1, p_3_1, f_3_2, p_3_2, f_3_3, p_3_3, f_3_4, p_3_4, f_3_5, p_3_5, f_3_6, p_3_6, f_3_7, p_3_7, f_3_8, p_3_8, f_3_9, f_3_10, f_3_11, f_3_12, f_3_13, e_7, i_7, c_25, f_25_0, f_25_1, f_25_2, f_25_3, f_25_4, f_25_5, f_25_6, f_25_7, p_25_7, Option.some.injEq, exists_eq_left', exists_eq_left, Option.toList_some, Option.toList_none, List.cons_append, List.nil_append, true_and, and_true, Option.map_some, Option.map_none, t_bitOf (d := d) (by omega), bit_0 (show m < 32 by omega), hx7, hlat, x_nb0]
  generalize hxx : (S &&& (dn ^^^ (-1))) = x
  unfold fitX
  by_cases hb : bt x m = false
  · simp only [hb, if_true, Bool.false_and, b01, Bool.false_eq_true, if_false]
    exact eq_comm
  · have hb' : bt x m = true := by simpa using hb
    have hbS : bt S m = true := by
      rw [← hxx, b_and, Bool.and_eq_true] at hb'
      exact hb'.1
    by_cases hon : (tOn T m &&& (dn ^^^ (-1))) = 0
    · have hside : ∀ (k : Nat) (o7 : Option Value), k < 2 → (x_R (x_ev g_M P d) 37 (47, [some (.ref 25), some (.int S), some (.int dn), some (.int (nI m)), some (.int x), some (.int (mnus x m)), some (.int (nI k)), o7], [], mkH xs s) q ↔ if badX T A S m (mnus x m) k = true then q = (some (.int 0), mkH xs s) else x_R (x_ev g_M P d) 37 (47, [some (.ref 25), some (.int S), some (.int dn), some (.int (nI m)), some (.int x), some (.int (mnus x m)), some (.int (nI (k + 1))), some (.int (nI (tPa T m k)))], [], mkH xs s) q) := by
        intro k o7 hk
        have hp : tPa T m k < tP T := by
          rcases (show k = 0 ∨ k = 1 by omega) with rfl | rfl
          · exact p1
          · exact p2
        have hk2 : ¬ 2 ≤ nI k := nI_ge (b := 2) hk (by omega)
        have hmn : x_rd (s.1 5) 6 (nI (tPa T m k)) = some (mineM T (tPa T m k)) := by rw [x_rd_nI (by omega) (by omega), mine_mk hT hW hp]; rfl
        have hwb := wsM_b hW (A := A) hm hk hbS
        simp only [w_Sets_fits_53, w_Sets_fits_57, w_Sets_fits_63, w_Sets_fits_69, w_Sets_fits_71, w_Sets_fits_76, w_Sets_fits_80, w_Sets_fits_84, w_Sets_fits_87, w_Sets_fits_90, w_Sets_fits_96, w_Sets_fits_98, w_Sets_fits_104, w_Sets_fits_47 (l6 := nI k), hk2, if_false, c_3, f_3_0, p_3_0, f_3_1, p_3_1, f_3_2, p_3_2, f_3_3, p_3_3, f_3_4, p_3_4, f_3_5, p_3_5, f_3_6, p_3_6, f_3_7, p_3_7, f_3_8, p_3_8, f_3_9, f_3_10, f_3_11, f_3_12, f_3_13, e_5, i_5, c_25, f_25_0, f_25_1, f_25_2, f_25_3, f_25_4, f_25_5, f_25_6, f_25_7, p_25_7, e_27, i_27, Option.some.injEq, exists_eq_left', exists_eq_left, Option.toList_some, Option.toList_none, List.cons_append, List.nil_append, true_and, and_true, Option.map_some, Option.map_none, t_partyOf (d := d) (by omega) hT hW hm hk, hx27, t_bitOf (d := d) (by omega), bit_1 (show tPa T m k < 32 by omega), hwb, hmn, x_nb0, nI_1]
        unfold badX
        by_cases h1 : wsh T A S m (tPa T m k) = true
        · by_cases h2 : (mineM T (tPa T m k) &&& mnus x m) = 0
          · simp only [h1, h2, not_true_eq_false, if_false, decide_true, Bool.and_self, if_true]
            exact eq_comm
          · simp only [h1, h2, not_true_eq_false, not_false_eq_true, if_false, if_true, decide_false, Bool.and_false, Bool.false_eq_true]
        · simp only [h1, Bool.false_eq_true, not_false_eq_true, if_true, Bool.false_and, if_false]
      have h47 : x_R (x_ev g_M P d) 37 (47, [some (.ref 25), some (.int S), some (.int dn), some (.int (nI m)), some (.int x), some (.int (mnus x m)), some (.int 0), none], [], mkH xs s) q ↔ if badX T A S m (mnus x m) 0 = true then q = (some (.int 0), mkH xs s) else if badX T A S m (mnus x m) 1 = true then q = (some (.int 0), mkH xs s) else q = (some (.int 1), mkH xs s) := by
        refine (hside 0 none (by omega)).trans ?_
        rw [hside 1 _ (by omega)]
        simp only [w_Sets_fits_47 (l6 := nI (1 + 1)), w_Sets_fits_104, show (2 : Int32) ≤ nI (1 + 1) from Int32.le_refl _, if_true, x_nb1, true_and, eq_comm (b := q)]
      simp only [hb', hon, Bool.true_eq_false, if_false, if_true, decide_true, Bool.true_and]
      rw [h47]
      cases badX T A S m (mnus x m) 0 <;> cases badX T A S m (mnus x m) 1 <;> simp [b01]
    · simp only [hb', hon, Bool.true_eq_false, if_false, decide_false, Bool.true_and, Bool.false_and, b01, Bool.false_eq_true]
      exact eq_comm
theorem s_waysFrom (hd : 3 ≤ d) (hW : tWf T) {s : xS} (hT : clsT s 3 T) {S dn : Int32} (h27 : ∀ m, m < tM T → s.1 27 m = wsM T A S m) {W : Nat → Int32} (hw : ∀ m, m < tM T → fitX T A S dn (S &&& (dn ^^^ (-1))) m = true → x_rd (s.1 26) 256 (dn ||| on1 m) = some (W m)) {q : Option Value × xH} : x_ev g_M P d 36 [.ref 25, .int S, .int dn] (mkH xs s) q ↔ q = (some (.int (sm (fun m => if fitX T A S dn (S &&& (dn ^^^ (-1))) m = true then W m else 0) (tM T))), mkH xs s) := by
  have w2 := hW.2.1
  have t5 := hT.1.2.2.2.2.2
  obtain ⟨d, rfl⟩ := x_1 (d := d) (by omega)
  rw [x_ev_in rfl (Nat.le_of_ble_eq_true rfl)]
  rw [show x_ent (x_nL g_M 36) [.ref 25, .int S, .int dn] = [some (.ref 25), some (.int S), some (.int dn), none, none] from rfl]
  rw [w_Sets_waysFrom_0]
  have key := x_up (C := x_ev g_M P d) (k := 36) (r := q) (N := tM T) (F := fun m => (5, [some (.ref 25), some (.int S), some (.int dn), some (.int (sm (fun m => if fitX T A S dn (S &&& (dn ^^^ (-1))) m = true then W m else 0) m)), some (.int (nI m))], [], mkH xs s)) (fun m hm => by
    have hc : ¬ nI (tM T) ≤ nI m := nI_ge hm (by omega)
    simp only [w_Sets_waysFrom_0, w_Sets_waysFrom_11, w_Sets_waysFrom_14, w_Sets_waysFrom_17, w_Sets_waysFrom_25, w_Sets_waysFrom_28, w_Sets_waysFrom_33, w_Sets_waysFrom_40, w_Sets_waysFrom_42, w_Sets_waysFrom_48, w_Sets_waysFrom_5 (l4 := nI m), c_3, f_3_0, p_3_0, f_3_1, p_3_1, f_3_2, p_3_2, f_3_3, p_3_3, f_3_4, p_3_4, f_3_5, p_3_5, f_3_6, p_3_6, f_3_7, p_3_7, f_3_8, p_3_8, f_3_9, f_3_10, f_3_11, f_3_12, f_3_13, c_25, f_25_0, f_25_1, f_25_2, f_25_3, f_25_4, f_25_5, f_25_6, f_25_7, p_25_7, e_26, i_26, Option.some.injEq, exists_eq_left', exists_eq_left, Option.toList_some, Option.toList_none, List.cons_append, List.nil_append, true_and, and_true, Option.map_some, Option.map_none, t5, hc, if_false, s_fits (d := d) (by omega) hW hT h27 hm, nI_1, sm]
    by_cases hf : fitX T A S dn (S &&& (dn ^^^ (-1))) m = true
    · have h1 := hw m hm hf
      have h2 : x_rd (s.1 26) 256 (dn ||| ((1 : Int32) <<< (nI m &&& 31))) = some (W m) := h1
      simp only [hf, b01, if_true, show ¬ ((1 : Int32) = 0) by decide, if_false, h2, Option.some.injEq, exists_eq_left', exists_eq_left, Option.toList_some, Option.toList_none, List.cons_append, List.nil_append, true_and, and_true, Option.map_some, Option.map_none]
    · simp only [hf, b01, Bool.false_eq_true, if_true, if_false, Int32.add_zero]) 0 (Nat.zero_le _)
  refine key.trans ?_
  simp only [w_Sets_waysFrom_0, w_Sets_waysFrom_11, w_Sets_waysFrom_14, w_Sets_waysFrom_17, w_Sets_waysFrom_25, w_Sets_waysFrom_28, w_Sets_waysFrom_33, w_Sets_waysFrom_40, w_Sets_waysFrom_42, w_Sets_waysFrom_48, w_Sets_waysFrom_5 (l4 := nI (tM T)), c_3, f_3_0, p_3_0, f_3_1, p_3_1, f_3_2, p_3_2, f_3_3, p_3_3, f_3_4, p_3_4, f_3_5, p_3_5, f_3_6, p_3_6, f_3_7, p_3_7, f_3_8, p_3_8, f_3_9, f_3_10, f_3_11, f_3_12, f_3_13, c_25, f_25_0, f_25_1, f_25_2, f_25_3, f_25_4, f_25_5, f_25_6, f_25_7, p_25_7, Option.some.injEq, exists_eq_left', exists_eq_left, Option.toList_some, Option.toList_none, List.cons_append, List.nil_append, true_and, and_true, Option.map_some, Option.map_none, t5, show nI (tM T) ≤ nI (tM T) from Int32.le_refl _, if_true]
  exact eq_comm
def offO (s s' : xS) : Prop := (∀ q, q ≠ 26 → q ≠ 27 → s'.1 q = s.1 q) ∧ s'.2 = s.2
theorem offO.ke {s s' : xS} (h : offO s s') : keC s s' := fun q hq => ⟨h.1 q (by omega) (by omega), by rw [h.2]⟩
theorem offO.tr {s s' s'' : xS} (h : offO s s') (h2 : offO s' s'') : offO s s'' := ⟨fun q a b => (h2.1 q a b).trans (h.1 q a b), h2.2.trans h.2⟩
set_option maxHeartbeats 4000000 in
theorem s_ordersOf (hd : 6 ≤ d) (hW : tWf T) {s : xS} (hT : clsT s 3 T) (hA : clsS s 9 T A) {n : Nat} (hn : n < 2 ^ tM T) : ∃ s', x_ev g_M P d 35 [.ref 25, .int (nI n)] (mkH xs s) (some (.int (nI (wyN T A n 0))), mkH xs s') ∧ offO s s' ∧ (∀ m, m < tM T → s'.1 27 m = wsM T A (nI n) m) ∧ ∀ j, sbs j n → s'.1 26 j = nI (wyN T A n j) := by
  have w2 := hW.2.1
  have hn256 : n < 256 := Nat.lt_of_lt_of_le hn (p2_le _ (by omega)).1
  obtain ⟨d, rfl⟩ := x_1 (d := d) (by omega)
  obtain ⟨s1, q1, q2, q3⟩ := s_findWishers (P := P) (d := d) (xs := xs) (by omega) hW hT hA (nI n)
  have key : ∀ (c : Nat) (z : xS), c ≤ n → offX 26 s1 z → (∀ j, c ≤ j → sbs j n → z.1 26 j = nI (wyN T A n j)) → ∃ s', x_R (x_ev g_M P d) 35 (16, [some (.ref 25), some (.int (nI n)), some (.int (nI c - 1))], [], mkH xs z) (some (.int (nI (wyN T A n 0))), mkH xs s') ∧ offX 26 s1 s' ∧ ∀ j, sbs j n → s'.1 26 j = nI (wyN T A n j) := by
    intro c
    induction c with
    | zero =>
      intro z _ hz hv
      have h0 : sbs 0 n := fun i hi => by simp at hi
      have hx : x_rd (z.1 26) 256 0 = some (nI (wyN T A n 0)) := by rw [show (0 : Int32) = nI 0 from rfl, x_rd_nI (by omega) (by omega), hv 0 (by omega) h0]
      refine ⟨z, ?_, hz, fun j hj => hv j (by omega) hj⟩
      simp only [w_Sets_ordersOf_0, w_Sets_ordersOf_5, w_Sets_ordersOf_9, w_Sets_ordersOf_12, w_Sets_ordersOf_20, w_Sets_ordersOf_28, w_Sets_ordersOf_32, w_Sets_ordersOf_39, w_Sets_ordersOf_40, w_Sets_ordersOf_46, w_Sets_ordersOf_50, w_Sets_ordersOf_52, w_Sets_ordersOf_16 (l2 := nI 0 - 1), show nI 0 - 1 < 0 by decide, if_true, c_25, f_25_0, f_25_1, f_25_2, f_25_3, f_25_4, f_25_5, f_25_6, f_25_7, p_25_7, e_26, i_26, Option.some.injEq, exists_eq_left', exists_eq_left, Option.toList_some, Option.toList_none, List.cons_append, List.nil_append, true_and, and_true, Option.map_some, Option.map_none, hx]
    | succ c ih =>
      intro z hc hz hv
      have h256 : c < 256 := by omega
      have hneg : ¬ nI c < 0 := nI_pos (by omega)
      rw [nI_pred]
      by_cases hs : sbs c n
      · have hTz : clsT z 3 T := hz.T (by omega) (q2.T (by omega) hT)
        have h27 : ∀ m, m < tM T → z.1 27 m = wsM T A (nI n) m := fun m hm => by rw [hz.1 27 (by omega)]; exact q3 m hm
        have hne : c ≠ n := by omega
        have hval : sm (fun m => if fitX T A (nI n) (nI c) (nI n &&& (nI c ^^^ (-1))) m = true then nI (wyN T A n (c ||| 2 ^ m)) else 0) (tM T) = nI (wyN T A n c) := by
          rw [wyN_s hW hn hs hne, nI_nsm]
          apply sm_eq
          intro m _
          show (if fitX T A (nI n) (nI c) (rstN n c) m = true then _ else _) = _
          split
          · rfl
          · rfl
        have hwf := fun r => s_waysFrom (P := P) (d := d) (xs := xs) (q := r) (by omega) hW hTz h27 (dn := nI c) (W := fun m => nI (wyN T A n (c ||| 2 ^ m))) (fun m hm hf => by
          have hf' : fitX T A (nI n) (nI c) (rstN n c) m = true := hf
          obtain ⟨f1, f2⟩ := fit_sub hW hn hs hm hf'
          rw [← nI_or h256 (by omega), x_rd_nI (or_lt h256 (by omega)) (by omega), hv _ (by omega) f1])
        obtain ⟨s', z1, z2, z3⟩ := ih (s_p z 26 c (nI (wyN T A n c))) (by omega) ⟨fun q hq => by rw [← hz.1 q hq]; exact s_p_o.1 q hq, hz.2⟩ (fun j hj hsj => by
          by_cases hjc : j = c
          · simp [s_p, hjc]
          · rw [← hv j (by omega) hsj]
            simp [s_p, hjc])
        refine ⟨s', ?_, z2, z3⟩
        have hsb : (nI c &&& (nI n ^^^ (-1))) = 0 := (sbs_and h256 hn256).mpr hs
        have hx : x_rd (z.1 26) 256 (nI c) = some (z.1 26 c) := x_rd_nI (by omega) (by omega)
        simp only [w_Sets_ordersOf_0, w_Sets_ordersOf_5, w_Sets_ordersOf_9, w_Sets_ordersOf_12, w_Sets_ordersOf_20, w_Sets_ordersOf_28, w_Sets_ordersOf_32, w_Sets_ordersOf_39, w_Sets_ordersOf_40, w_Sets_ordersOf_46, w_Sets_ordersOf_50, w_Sets_ordersOf_52, w_Sets_ordersOf_16 (l2 := nI c), hneg, if_false, hsb, not_true_eq_false, c_25, f_25_0, f_25_1, f_25_2, f_25_3, f_25_4, f_25_5, f_25_6, f_25_7, p_25_7, e_26, i_26, Option.some.injEq, exists_eq_left', exists_eq_left, Option.toList_some, Option.toList_none, List.cons_append, List.nil_append, true_and, and_true, Option.map_some, Option.map_none, hwf, hval, hx, nI_clamp (show c < 2 ^ 31 by omega), nI_dn]
        exact z1
      · obtain ⟨s', z1, z2, z3⟩ := ih z (by omega) hz (fun j hj hsj => by
          by_cases hjc : j = c
          · subst hjc; exact absurd hsj hs
          · exact hv j (by omega) hsj)
        refine ⟨s', ?_, z2, z3⟩
        have hsb : ¬ (nI c &&& (nI n ^^^ (-1))) = 0 := fun z => hs ((sbs_and h256 hn256).mp z)
        simp only [w_Sets_ordersOf_0, w_Sets_ordersOf_5, w_Sets_ordersOf_9, w_Sets_ordersOf_12, w_Sets_ordersOf_20, w_Sets_ordersOf_28, w_Sets_ordersOf_32, w_Sets_ordersOf_39, w_Sets_ordersOf_40, w_Sets_ordersOf_46, w_Sets_ordersOf_50, w_Sets_ordersOf_52, w_Sets_ordersOf_16 (l2 := nI c), hneg, if_false, hsb, not_false_eq_true, if_true, nI_dn]
        exact z1
  obtain ⟨s', z1, z2, z3⟩ := key n (s_p s1 26 n 1) (Nat.le_refl _) ⟨fun q hq => s_p_o.1 q hq, rfl⟩ (fun j hj hsj => by
    have hjn : j = n := Nat.le_antisymm (sbs_le hsj) hj
    rw [hjn, wyN_n T A n hn256]
    simp [s_p]
    rfl)
  have hx : x_rd (s1.1 26) 256 (nI n) = some (s1.1 26 n) := x_rd_nI (by omega) (by omega)
  refine ⟨s', ?_, ⟨fun q a b => by rw [z2.1 q a, q2.1 q b], by rw [z2.2, q2.2]⟩, fun m hm => by rw [z2.1 27 (by omega)]; exact q3 m hm, z3⟩
  rw [x_ev_in rfl (Nat.le_of_ble_eq_true rfl)]
  rw [show x_ent (x_nL g_M 35) [.ref 25, .int (nI n)] = [some (.ref 25), some (.int (nI n)), none] from rfl]
  simp only [w_Sets_ordersOf_0, w_Sets_ordersOf_5, w_Sets_ordersOf_9, w_Sets_ordersOf_12, w_Sets_ordersOf_20, w_Sets_ordersOf_28, w_Sets_ordersOf_32, w_Sets_ordersOf_39, w_Sets_ordersOf_40, w_Sets_ordersOf_46, w_Sets_ordersOf_50, w_Sets_ordersOf_52, c_25, f_25_0, f_25_1, f_25_2, f_25_3, f_25_4, f_25_5, f_25_6, f_25_7, p_25_7, e_26, i_26, Option.some.injEq, exists_eq_left', exists_eq_left, Option.toList_some, Option.toList_none, List.cons_append, List.nil_append, true_and, and_true, Option.map_some, Option.map_none, x_ev_iff q1, hx, nI_clamp (show n < 2 ^ 31 by omega)]
  exact z1
end STANDC
