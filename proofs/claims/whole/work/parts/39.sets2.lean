/-! SETS: what both answer, first part (own work) -/
section LOOPS3
variable {C : Nat → List Value → xH → Option Value × xH → Prop} {k : Nat} {r : Option Value × xH}
/-- a loop upwards, with a part of the frame that doesn't matter -/
theorem x_upO {β : Type} {N : Nat} {F : Nat → β → xF} {E : Prop} (hs : ∀ m o, m < N → ∃ o', (x_R C k (F m o) r ↔ x_R C k (F (m + 1) o') r)) (he : ∀ o, x_R C k (F N o) r ↔ E) : ∀ n m o, m + n = N → (x_R C k (F m o) r ↔ E) := by
  intro n
  induction n with
  | zero => intro m o h; obtain rfl : m = N := by omega
            exact he o
  | succ n ih =>
    intro m o h
    obtain ⟨o', e⟩ := hs m o (by omega)
    exact e.trans (ih (m + 1) o' (by omega))
end LOOPS3
theorem lo8 {x : Int32} {n : Nat} (hn : n ≤ 8) (h : ∀ i, i < 32 → n ≤ i → bt x i = false) : ∃ j, j < 2 ^ n ∧ x = nI j := by
  refine ⟨x.toBitVec.toNat, ?_, ?_⟩
  · apply Nat.lt_pow_two_of_testBit
    intro i hi
    by_cases h32 : i < 32
    · exact h i h32 hi
    · exact BitVec.getLsbD_of_ge x.toBitVec i (by omega)
  · apply Int32.toBitVec_inj.mp
    apply BitVec.eq_of_toNat_eq
    rw [pk_tn x.toBitVec.isLt]
theorem lo8_b : ∀ n, n ≤ 8 → ∀ j, j < 2 ^ n → ∀ i, i < 32 → n ≤ i → bt (nI j) i = false := by
  intro n hn j hj i hi hni
  have h8 : j < 256 := Nat.lt_of_lt_of_le hj (p2_le n (by omega)).1
  have : (nI j).toBitVec.toNat = j := pk_tn (by omega)
  show (nI j).toBitVec.getLsbD i = false
  unfold BitVec.getLsbD
  rw [this]
  exact Nat.testBit_lt_two_pow (Nat.lt_of_lt_of_le hj (Nat.pow_le_pow_right (by omega) hni))
theorem set_cs {T : Tw} (hW : tWf T) (x : Int32) : tSet T x = 0 ∨ ∃ n, n < 2 ^ tM T ∧ x = nI n ∧ tSet T (nI n) = 1 ∧ ¬ tLi T ≤ 0 := by
  have w2 := hW.2.1
  have hp := p2_le (tM T) (by omega)
  unfold tSet
  by_cases h0 : tLi T ≤ 0
  · left; rw [if_pos h0]
  · rw [if_neg h0]
    rcases has_cs (n := 2 ^ tM T) (by omega) x with h1 | ⟨n, hn, rfl, h1⟩
    · left; exact h1
    · right
      exact ⟨n, hn, rfl, by rw [if_neg h0]; exact h1, h0⟩
theorem full_lt {T : Tw} (hW : tWf T) (x : Int32) : tFull T < x ↔ nI (2 ^ tM T) ≤ x := by
  have hp := p2_le (tM T) (by have := hW.2.1; omega)
  exact nI_pr (by omega) x
def bcE (x : Int32) : Int32 := ((((((((x - ((Int32.toUInt32 x >>> (Int32.toUInt32 1 &&& Int32.toUInt32 31)).toInt32 &&& 1431655765)) &&& 858993459) + ((Int32.toUInt32 (x - ((Int32.toUInt32 x >>> (Int32.toUInt32 1 &&& Int32.toUInt32 31)).toInt32 &&& 1431655765)) >>> (Int32.toUInt32 2 &&& Int32.toUInt32 31)).toInt32 &&& 858993459)) + (Int32.toUInt32 (((x - ((Int32.toUInt32 x >>> (Int32.toUInt32 1 &&& Int32.toUInt32 31)).toInt32 &&& 1431655765)) &&& 858993459) + ((Int32.toUInt32 (x - ((Int32.toUInt32 x >>> (Int32.toUInt32 1 &&& Int32.toUInt32 31)).toInt32 &&& 1431655765)) >>> (Int32.toUInt32 2 &&& Int32.toUInt32 31)).toInt32 &&& 858993459)) >>> (Int32.toUInt32 4 &&& Int32.toUInt32 31)).toInt32) &&& 252645135) + (Int32.toUInt32 (((((x - ((Int32.toUInt32 x >>> (Int32.toUInt32 1 &&& Int32.toUInt32 31)).toInt32 &&& 1431655765)) &&& 858993459) + ((Int32.toUInt32 (x - ((Int32.toUInt32 x >>> (Int32.toUInt32 1 &&& Int32.toUInt32 31)).toInt32 &&& 1431655765)) >>> (Int32.toUInt32 2 &&& Int32.toUInt32 31)).toInt32 &&& 858993459)) + (Int32.toUInt32 (((x - ((Int32.toUInt32 x >>> (Int32.toUInt32 1 &&& Int32.toUInt32 31)).toInt32 &&& 1431655765)) &&& 858993459) + ((Int32.toUInt32 (x - ((Int32.toUInt32 x >>> (Int32.toUInt32 1 &&& Int32.toUInt32 31)).toInt32 &&& 1431655765)) >>> (Int32.toUInt32 2 &&& Int32.toUInt32 31)).toInt32 &&& 858993459)) >>> (Int32.toUInt32 4 &&& Int32.toUInt32 31)).toInt32) &&& 252645135) >>> (Int32.toUInt32 8 &&& Int32.toUInt32 31)).toInt32) + (Int32.toUInt32 ((((((x - ((Int32.toUInt32 x >>> (Int32.toUInt32 1 &&& Int32.toUInt32 31)).toInt32 &&& 1431655765)) &&& 858993459) + ((Int32.toUInt32 (x - ((Int32.toUInt32 x >>> (Int32.toUInt32 1 &&& Int32.toUInt32 31)).toInt32 &&& 1431655765)) >>> (Int32.toUInt32 2 &&& Int32.toUInt32 31)).toInt32 &&& 858993459)) + (Int32.toUInt32 (((x - ((Int32.toUInt32 x >>> (Int32.toUInt32 1 &&& Int32.toUInt32 31)).toInt32 &&& 1431655765)) &&& 858993459) + ((Int32.toUInt32 (x - ((Int32.toUInt32 x >>> (Int32.toUInt32 1 &&& Int32.toUInt32 31)).toInt32 &&& 1431655765)) >>> (Int32.toUInt32 2 &&& Int32.toUInt32 31)).toInt32 &&& 858993459)) >>> (Int32.toUInt32 4 &&& Int32.toUInt32 31)).toInt32) &&& 252645135) + (Int32.toUInt32 (((((x - ((Int32.toUInt32 x >>> (Int32.toUInt32 1 &&& Int32.toUInt32 31)).toInt32 &&& 1431655765)) &&& 858993459) + ((Int32.toUInt32 (x - ((Int32.toUInt32 x >>> (Int32.toUInt32 1 &&& Int32.toUInt32 31)).toInt32 &&& 1431655765)) >>> (Int32.toUInt32 2 &&& Int32.toUInt32 31)).toInt32 &&& 858993459)) + (Int32.toUInt32 (((x - ((Int32.toUInt32 x >>> (Int32.toUInt32 1 &&& Int32.toUInt32 31)).toInt32 &&& 1431655765)) &&& 858993459) + ((Int32.toUInt32 (x - ((Int32.toUInt32 x >>> (Int32.toUInt32 1 &&& Int32.toUInt32 31)).toInt32 &&& 1431655765)) >>> (Int32.toUInt32 2 &&& Int32.toUInt32 31)).toInt32 &&& 858993459)) >>> (Int32.toUInt32 4 &&& Int32.toUInt32 31)).toInt32) &&& 252645135) >>> (Int32.toUInt32 8 &&& Int32.toUInt32 31)).toInt32) >>> (Int32.toUInt32 16 &&& Int32.toUInt32 31)).toInt32) &&& 63)
set_option maxRecDepth 100000 in
theorem bcE_sm : ∀ n, n < 256 → bcE (nI n) = sm (fun k => if bt (nI n) k = true then 1 else 0) 8 := by decide +kernel
theorem tFall_low {T : Tw} (hW : tWf T) {set : Int32} {m : Nat} (hm : m < tM T) {i : Nat} (hi : i < 32) (hl : tM T ≤ i) : bt (tFall T set m) i = false := by
  have w2 := hW.2.1
  unfold tFall
  have : ∀ n, n ≤ tM T → bt (tFallN T set m n) i = false := by
    intro n
    induction n with
    | zero =>
      intro _
      rw [tFallN]
      split
      · rw [b_on (by omega) hi]; simp; omega
      · exact b_0 i
    | succ n ih =>
      intro hn
      rw [tFallN]
      split
      · rw [b_or, ih (by omega), b_on (by omega) hi]; simp; omega
      · exact ih (by omega)
  exact this _ (Nat.le_refl _)
def tBc (T : Tw) (m : Nat) : Int32 := sm (fun k => if bt (tBear T m) k = true then 1 else 0) 8
theorem tBear_lo {T : Tw} (hW : tWf T) {m : Nat} (hm : m < tM T) : ∃ j, j < 256 ∧ tBear T m = nI j := by
  have w2 := hW.2.1
  obtain ⟨j, hj, e⟩ := lo8 (n := tM T) w2 (x := tBear T m) (fun i hi hl => by
    unfold tBear
    rw [b_and, tFall_low hW hm hi hl]
    rfl)
  exact ⟨j, Nat.lt_of_lt_of_le hj (p2_le _ (by omega)).1, e⟩
theorem sm01 (f : Nat → Bool) : ∀ n, n < 100 → ∃ j, j ≤ n ∧ sm (fun k => if f k = true then 1 else 0) n = nI j := by
  intro n
  induction n with
  | zero => intro _; exact ⟨0, Nat.le_refl _, rfl⟩
  | succ n ih =>
    intro hn
    obtain ⟨j, hj, e⟩ := ih (by omega)
    rw [sm, e]
    by_cases hf : f n = true
    · exact ⟨j + 1, by omega, by rw [if_pos hf, nI_1]⟩
    · exact ⟨j, by omega, by rw [if_neg hf, Int32.add_zero]⟩
/-- the first of the greatest -/
def amx (v : Nat → Int32) : Nat → Option Nat
  | 0 => none
  | n + 1 => match amx v n with
    | none => some n
    | some b => if v b < v n then some n else some b
theorem amx_lt (v : Nat → Int32) : ∀ n b, amx v n = some b → b < n := by
  intro n
  induction n with
  | zero => intro b h; cases h
  | succ n ih =>
    intro b h
    rw [amx] at h
    cases h2 : amx v n with
    | none => rw [h2] at h; cases h; omega
    | some c =>
      rw [h2] at h
      have := ih c h2
      simp only at h
      split at h <;> cases h <;> omega
theorem tRsS_low {T : Tw} (hW : tWf T) (set : Int32) {i : Nat} (hi : i < 32) (hl : tM T ≤ i) : bt (tRsS T set) i = false := by
  unfold tRsS
  have : ∀ n b, n ≤ tM T → bt b i = false → bt (fd (fun k b => if bt (set ||| b) k = true then b ||| tOn T k else b) n b) i = false := by
    intro n
    induction n with
    | zero => intro b _ h; exact h
    | succ n ih =>
      intro b hn h
      rw [fd]
      refine ih _ (by omega) ?_
      split
      · rw [b_or, h]
        cases ho : bt (tOn T n) i
        · rfl
        · have := hW.2.2.2 n (by omega) i ho; omega
      · exact h
  exact this _ _ (Nat.le_refl _) (b_0 i)
def tKeep (T : Tw) (set : Int32) : Int32 := mkM (fun i => bt (set ||| tRsS T set) i && !tDry T i) (tM T)
theorem mkM_self {T : Tw} (hW : tWf T) {n : Nat} (hn : n < 2 ^ tM T) : mkM (bt (nI n)) (tM T) = nI n := by
  have w2 := hW.2.1
  apply b_ext
  intro i hi
  rw [b_mkM hi _ (by omega)]
  by_cases h : i < tM T
  · simp [h]
  · rw [lo8_b (tM T) w2 n hn i hi (by omega)]
    simp
theorem keep_c {T : Tw} (hW : tWf T) {n : Nat} (hn : n < 2 ^ tM T) {dry : Int32} (hd : ∀ m, m < tM T → bt dry m = tDry T m) : (nI n ||| tRsS T (nI n)) &&& (dry ^^^ (-1)) = tKeep T (nI n) := by
  have w2 := hW.2.1
  apply b_ext
  intro i hi
  unfold tKeep
  rw [b_mkM hi _ (by omega), b_and, b_not hi]
  by_cases h : i < tM T
  · rw [hd i h]
    simp [h]
  · rw [b_or, lo8_b (tM T) w2 n hn i hi (by omega), tRsS_low hW _ hi (by omega)]
    simp [h]
def keepR (T : Tw) (x : Int32) : Nat → Int32
  | 0 => x
  | n + 1 => if tDry T n = true then keepR T x n &&& (on1 n ^^^ (-1)) else keepR T x n
theorem keep_r {T : Tw} (hW : tWf T) {n : Nat} (hn : n < 2 ^ tM T) : keepR T (nI n ||| tRsS T (nI n)) (tM T) = tKeep T (nI n) := by
  have w2 := hW.2.1
  have key : ∀ k, k ≤ 8 → ∀ i, i < 32 → bt (keepR T (nI n ||| tRsS T (nI n)) k) i = (bt (nI n ||| tRsS T (nI n)) i && !(decide (i < k) && tDry T i)) := by
    intro k
    induction k with
    | zero => intro _ i hi; rw [keepR]; simp
    | succ k ih =>
      intro hk i hi
      rw [keepR]
      by_cases hd : tDry T k = true
      · rw [if_pos hd, b_and, b_not hi, b_on (by omega) hi, ih (by omega) i hi]
        by_cases h1 : i = k
        · subst h1; simp [hd]
        · have : (i < k + 1) ↔ i < k := by omega
          simp [h1, this]
      · rw [if_neg hd, ih (by omega) i hi]
        by_cases h1 : i = k
        · subst h1; simp at hd; simp [hd]
        · have : (i < k + 1) ↔ i < k := by omega
          simp [this]
  apply b_ext
  intro i hi
  unfold tKeep
  rw [key _ w2 i hi, b_mkM hi _ (by omega)]
  by_cases h : i < tM T
  · simp [h]
  · rw [b_or, lo8_b (tM T) w2 n hn i hi (by omega), tRsS_low hW _ hi (by omega)]
    simp [h]
section SETS2
variable {P : Nat → List Value → Option Value} {d : Nat} {xs : List Int32} {s : xS} {T : Tw} {q : Option Value × xH}
theorem t_bitCount (hd : 1 ≤ d) (x : Int32) : x_ev g_M P d 338 [.int x] (mkH xs s) q ↔ q = (some (.int (bcE x)), mkH xs s) := by
  obtain ⟨d, rfl⟩ := x_1 (d := d) (by omega)
  rw [x_ev_in rfl (Nat.le_of_ble_eq_true rfl)]
  rw [show x_ent (x_nL g_M 338) [.int x] = [some (.int x)] from rfl]
  simp only [w_Integer_bitCount_0f7a4_0]
  exact eq_comm
theorem s_allSets (hd : 1 ≤ d) (hT : clsT s 3 T) (hW : tWf T) : x_ev g_M P d 34 [.ref 25] (mkH xs s) q ↔ q = (some (.int (nI (2 ^ tM T))), mkH xs s) := by
  have w2 := hW.2.1
  have t5 := hT.1.2.2.2.2.2
  obtain ⟨d, rfl⟩ := x_1 (d := d) (by omega)
  rw [x_ev_in rfl (Nat.le_of_ble_eq_true rfl)]
  rw [show x_ent (x_nL g_M 34) [.ref 25] = [some (.ref 25)] from rfl]
  simp only [w_Sets_allSets_0, w_Sets_allSets_5, w_Sets_allSets_8, c_3, f_3_0, p_3_0, f_3_1, p_3_1, f_3_2, p_3_2, f_3_3, p_3_3, f_3_4, p_3_4, f_3_5, p_3_5, f_3_6, p_3_6, f_3_7, p_3_7, f_3_8, p_3_8, f_3_9, f_3_10, f_3_11, f_3_12, f_3_13, c_25, f_25_0, f_25_1, f_25_2, f_25_3, f_25_4, f_25_5, f_25_6, f_25_7, p_25_7, Option.some.injEq, exists_eq_left', exists_eq_left, Option.toList_some, Option.toList_none, List.cons_append, List.nil_append, true_and, and_true, Option.map_some, Option.map_none, t5, sh1 (tM T) (by omega)]
  exact eq_comm
theorem s_closedOnes (hd : 3 ≤ d) (hT : clsT s 3 T) (hW : tWf T) : x_ev g_M P d 43 [.ref 25] (mkH xs s) q ↔ q = (some (.int (sm (fun n => if tClo T (nI n) = true then 1 else 0) (2 ^ tM T))), mkH xs s) := by
  have hp := p2_le (tM T) (by have := hW.2.1; omega)
  obtain ⟨d, rfl⟩ := x_1 (d := d) (by omega)
  rw [x_ev_in rfl (Nat.le_of_ble_eq_true rfl)]
  rw [show x_ent (x_nL g_M 43) [.ref 25] = [some (.ref 25), none, none] from rfl]
  rw [w_Sets_closedOnes_0]
  have key := x_up (C := x_ev g_M P d) (k := 43) (r := q) (N := 2 ^ tM T) (F := fun m => (4, [some (.ref 25), some (.int (sm (fun n => if tClo T (nI n) = true then 1 else 0) m)), some (.int (nI m))], [], mkH xs s)) (fun m hm => by
    have hc : ¬ nI (2 ^ tM T) ≤ nI m := nI_ge hm (by omega)
    simp only [w_Sets_closedOnes_0, w_Sets_closedOnes_9, w_Sets_closedOnes_12, w_Sets_closedOnes_16, w_Sets_closedOnes_20, w_Sets_closedOnes_23, w_Sets_closedOnes_26, w_Sets_closedOnes_32, w_Sets_closedOnes_4 (l2 := nI m), c_3, f_3_0, p_3_0, f_3_1, p_3_1, f_3_2, p_3_2, f_3_3, p_3_3, f_3_4, p_3_4, f_3_5, p_3_5, f_3_6, p_3_6, f_3_7, p_3_7, f_3_8, p_3_8, f_3_9, f_3_10, f_3_11, f_3_12, f_3_13, c_25, f_25_0, f_25_1, f_25_2, f_25_3, f_25_4, f_25_5, f_25_6, f_25_7, p_25_7, Option.some.injEq, exists_eq_left', exists_eq_left, Option.toList_some, Option.toList_none, List.cons_append, List.nil_append, true_and, and_true, Option.map_some, Option.map_none, s_allSets (d := d) (by omega) hT hW, hc, if_false, t_isClosed (d := d) (by omega) hT hW, nI_1, sm]
    by_cases hb : tClo T (nI m) = true
    · simp only [hb, b01, if_true, show ¬ ((1 : Int32) = 0) by decide, if_false]
    · simp only [hb, b01, if_false, if_true, Bool.false_eq_true, Int32.add_zero]) 0 (Nat.zero_le _)
  refine key.trans ?_
  simp only [w_Sets_closedOnes_0, w_Sets_closedOnes_9, w_Sets_closedOnes_12, w_Sets_closedOnes_16, w_Sets_closedOnes_20, w_Sets_closedOnes_23, w_Sets_closedOnes_26, w_Sets_closedOnes_32, w_Sets_closedOnes_4 (l2 := nI (2 ^ tM T)), c_3, f_3_0, p_3_0, f_3_1, p_3_1, f_3_2, p_3_2, f_3_3, p_3_3, f_3_4, p_3_4, f_3_5, p_3_5, f_3_6, p_3_6, f_3_7, p_3_7, f_3_8, p_3_8, f_3_9, f_3_10, f_3_11, f_3_12, f_3_13, c_25, f_25_0, f_25_1, f_25_2, f_25_3, f_25_4, f_25_5, f_25_6, f_25_7, p_25_7, Option.some.injEq, exists_eq_left', exists_eq_left, Option.toList_some, Option.toList_none, List.cons_append, List.nil_append, true_and, and_true, Option.map_some, Option.map_none, s_allSets (d := d) (by omega) hT hW, show nI (2 ^ tM T) ≤ nI (2 ^ tM T) from Int32.le_refl _, if_true]
  exact eq_comm
theorem s_votersFor (hd : 2 ≤ d) (hT : clsT s 3 T) (hW : tWf T) (a b : Int32) : x_ev g_M P d 51 [.ref 25, .int a, .int b] (mkH xs s) q ↔ q = (some (.int (mkM (fun p => decide (tSum T p b < tSum T p a)) (tP T))), mkH xs s) := by
  have w1 := hW.1
  have t4 := hT.1.2.2.2.2.1
  obtain ⟨d, rfl⟩ := x_1 (d := d) (by omega)
  rw [x_ev_in rfl (Nat.le_of_ble_eq_true rfl)]
  rw [show x_ent (x_nL g_M 51) [.ref 25, .int a, .int b] = [some (.ref 25), some (.int a), some (.int b), none, none] from rfl]
  rw [w_Sets_votersFor_0]
  have key := x_up (C := x_ev g_M P d) (k := 51) (r := q) (N := tP T) (F := fun m => (5, [some (.ref 25), some (.int a), some (.int b), some (.int (mkM (fun p => decide (tSum T p b < tSum T p a)) m)), some (.int (nI m))], [], mkH xs s)) (fun m hm => by
    have hc : ¬ nI (tP T) ≤ nI m := nI_ge hm (by omega)
    have hle : tSum T m a ≤ tSum T m b ↔ ¬ tSum T m b < tSum T m a := Int32.not_lt.symm
    simp only [w_Sets_votersFor_0, w_Sets_votersFor_11, w_Sets_votersFor_14, w_Sets_votersFor_17, w_Sets_votersFor_21, w_Sets_votersFor_27, w_Sets_votersFor_31, w_Sets_votersFor_37, w_Sets_votersFor_40, w_Sets_votersFor_47, w_Sets_votersFor_53, w_Sets_votersFor_5 (l4 := nI m), c_3, f_3_0, p_3_0, f_3_1, p_3_1, f_3_2, p_3_2, f_3_3, p_3_3, f_3_4, p_3_4, f_3_5, p_3_5, f_3_6, p_3_6, f_3_7, p_3_7, f_3_8, p_3_8, f_3_9, f_3_10, f_3_11, f_3_12, f_3_13, c_25, f_25_0, f_25_1, f_25_2, f_25_3, f_25_4, f_25_5, f_25_6, f_25_7, p_25_7, Option.some.injEq, exists_eq_left', exists_eq_left, Option.toList_some, Option.toList_none, List.cons_append, List.nil_append, true_and, and_true, Option.map_some, Option.map_none, t4, hc, if_false, t_sumOf (d := d) (by omega) hT hW hm, hle, nI_1, mkM]
    by_cases hb : tSum T m b < tSum T m a
    · simp only [hb, not_true_eq_false, if_false, decide_true, if_true]
      rfl
    · simp only [hb, not_false_eq_true, if_true, decide_false, if_false, Bool.false_eq_true]) 0 (Nat.zero_le _)
  refine key.trans ?_
  simp only [w_Sets_votersFor_0, w_Sets_votersFor_11, w_Sets_votersFor_14, w_Sets_votersFor_17, w_Sets_votersFor_21, w_Sets_votersFor_27, w_Sets_votersFor_31, w_Sets_votersFor_37, w_Sets_votersFor_40, w_Sets_votersFor_47, w_Sets_votersFor_53, w_Sets_votersFor_5 (l4 := nI (tP T)), c_3, f_3_0, p_3_0, f_3_1, p_3_1, f_3_2, p_3_2, f_3_3, p_3_3, f_3_4, p_3_4, f_3_5, p_3_5, f_3_6, p_3_6, f_3_7, p_3_7, f_3_8, p_3_8, f_3_9, f_3_10, f_3_11, f_3_12, f_3_13, c_25, f_25_0, f_25_1, f_25_2, f_25_3, f_25_4, f_25_5, f_25_6, f_25_7, p_25_7, Option.some.injEq, exists_eq_left', exists_eq_left, Option.toList_some, Option.toList_none, List.cons_append, List.nil_append, true_and, and_true, Option.map_some, Option.map_none, t4, show nI (tP T) ≤ nI (tP T) from Int32.le_refl _, if_true]
  exact eq_comm
theorem r_votesFor (hd : 4 ≤ d) (hT : refT s 111 0 T) (hW : tWf T) (a b : Int32) : x_ev g_M P d 296 [.ref 110, .int a, .int b] (mkH xs s) q ↔ q = (some (.int (mkM (fun p => decide (tSum T p b < tSum T p a)) (tP T))), mkH xs s) := by
  have w1 := hW.1
  obtain ⟨d, rfl⟩ := x_1 (d := d) (by omega)
  rw [x_ev_in rfl (Nat.le_of_ble_eq_true rfl)]
  rw [show x_ent (x_nL g_M 296) [.ref 110, .int a, .int b] = [some (.ref 110), some (.int a), some (.int b), none, none] from rfl]
  rw [w_Ref_votesFor_0]
  have key := x_up (C := x_ev g_M P d) (k := 296) (r := q) (N := tP T) (F := fun m => (5, [some (.ref 110), some (.int a), some (.int b), some (.int (mkM (fun p => decide (tSum T p b < tSum T p a)) m)), some (.int (nI m))], [], mkH xs s)) (fun m hm => by
    have hc : ¬ nI (tP T) ≤ nI m := nI_ge hm (by omega)
    have hle : tSum T m a ≤ tSum T m b ↔ ¬ tSum T m b < tSum T m a := Int32.not_lt.symm
    simp only [w_Ref_votesFor_0, w_Ref_votesFor_11, w_Ref_votesFor_13, w_Ref_votesFor_16, w_Ref_votesFor_24, w_Ref_votesFor_31, w_Ref_votesFor_34, w_Ref_votesFor_41, w_Ref_votesFor_42, w_Ref_votesFor_50, w_Ref_votesFor_5 (l4 := nI m), c_110, f_110_0, p_110_0, f_110_1, f_110_2, f_110_3, f_110_4, f_110_5, p_110_5, f_110_6, f_110_7, p_110_7, f_110_8, p_110_8, f_110_9, p_110_9, f_110_10, p_110_10, f_110_11, p_110_11, f_110_12, p_110_12, f_110_13, p_110_13, f_110_14, f_110_15, f_110_16, p_110_16, f_110_17, f_110_18, p_110_18, f_110_19, p_110_19, f_110_20, f_110_21, p_110_21, f_110_22, p_110_22, f_110_23, f_110_24, f_110_25, p_110_25, f_110_26, f_110_27, f_110_28, f_110_29, f_110_30, f_110_31, p_110_31, f_110_32, p_110_32, f_110_33, p_110_33, f_110_34, p_110_34, f_110_35, f_110_36, f_110_37, f_110_38, e_111, i_111, Option.some.injEq, exists_eq_left', exists_eq_left, Option.toList_some, Option.toList_none, List.cons_append, List.nil_append, true_and, and_true, Option.map_some, Option.map_none, x_w3 hT, hc, if_false, r_sumOf (d := d) (by omega) hT hW hm, hle, nI_1, mkM]
    by_cases hb : tSum T m b < tSum T m a
    · simp only [hb, not_true_eq_false, if_false, decide_true, if_true]
      rfl
    · simp only [hb, not_false_eq_true, if_true, decide_false, if_false, Bool.false_eq_true, Int32.or_zero]) 0 (Nat.zero_le _)
  refine key.trans ?_
  simp only [w_Ref_votesFor_0, w_Ref_votesFor_11, w_Ref_votesFor_13, w_Ref_votesFor_16, w_Ref_votesFor_24, w_Ref_votesFor_31, w_Ref_votesFor_34, w_Ref_votesFor_41, w_Ref_votesFor_42, w_Ref_votesFor_50, w_Ref_votesFor_5 (l4 := nI (tP T)), c_110, f_110_0, p_110_0, f_110_1, f_110_2, f_110_3, f_110_4, f_110_5, p_110_5, f_110_6, f_110_7, p_110_7, f_110_8, p_110_8, f_110_9, p_110_9, f_110_10, p_110_10, f_110_11, p_110_11, f_110_12, p_110_12, f_110_13, p_110_13, f_110_14, f_110_15, f_110_16, p_110_16, f_110_17, f_110_18, p_110_18, f_110_19, p_110_19, f_110_20, f_110_21, p_110_21, f_110_22, p_110_22, f_110_23, f_110_24, f_110_25, p_110_25, f_110_26, f_110_27, f_110_28, f_110_29, f_110_30, f_110_31, p_110_31, f_110_32, p_110_32, f_110_33, p_110_33, f_110_34, p_110_34, f_110_35, f_110_36, f_110_37, f_110_38, e_111, i_111, Option.some.injEq, exists_eq_left', exists_eq_left, Option.toList_some, Option.toList_none, List.cons_append, List.nil_append, true_and, and_true, Option.map_some, Option.map_none, x_w3 hT, show nI (tP T) ≤ nI (tP T) from Int32.le_refl _, if_true]
  exact eq_comm
theorem s_keptFor (hd : 3 ≤ d) (hT : clsT s 3 T) (hW : tWf T) {n : Nat} (hn : n < 2 ^ tM T) : x_ev g_M P d 46 [.ref 25, .int (nI n)] (mkH xs s) q ↔ q = (some (.int (tKeep T (nI n))), mkH xs s) := by
  have w2 := hW.2.1
  have t5 := hT.1.2.2.2.2.2
  have t7 := hT.2.2.1
  obtain ⟨d, rfl⟩ := x_1 (d := d) (by omega)
  rw [x_ev_in rfl (Nat.le_of_ble_eq_true rfl)]
  rw [show x_ent (x_nL g_M 46) [.ref 25, .int (nI n)] = [some (.ref 25), some (.int (nI n)), none, none] from rfl]
  rw [w_Sets_keptFor_0]
  have e0 : nI n = nI n ||| tRsS T (mkM (bt (nI n)) 0) := by rw [mkM, tRsS_0, Int32.or_zero]
  have key := x_up (C := x_ev g_M P d) (k := 46) (r := q) (N := tM T) (F := fun m => (4, [some (.ref 25), some (.int (nI n)), some (.int (nI n ||| tRsS T (mkM (bt (nI n)) m))), some (.int (nI m))], [], mkH xs s)) (fun m hm => by
    have hc : ¬ nI (tM T) ≤ nI m := nI_ge hm (by omega)
    simp only [w_Sets_keptFor_0, w_Sets_keptFor_9, w_Sets_keptFor_12, w_Sets_keptFor_15, w_Sets_keptFor_20, w_Sets_keptFor_24, w_Sets_keptFor_29, w_Sets_keptFor_33, w_Sets_keptFor_35, w_Sets_keptFor_41, w_Sets_keptFor_46, w_Sets_keptFor_49, w_Sets_keptFor_4 (l3 := nI m), c_3, f_3_0, p_3_0, f_3_1, p_3_1, f_3_2, p_3_2, f_3_3, p_3_3, f_3_4, p_3_4, f_3_5, p_3_5, f_3_6, p_3_6, f_3_7, p_3_7, f_3_8, p_3_8, f_3_9, f_3_10, f_3_11, f_3_12, f_3_13, c_25, f_25_0, f_25_1, f_25_2, f_25_3, f_25_4, f_25_5, f_25_6, f_25_7, p_25_7, Option.some.injEq, exists_eq_left', exists_eq_left, Option.toList_some, Option.toList_none, List.cons_append, List.nil_append, true_and, and_true, Option.map_some, Option.map_none, t5, hc, if_false, t_bitOf (d := d) (by omega), bit_1 (show m < 32 by omega), t_restsOf (d := d) (by omega) hT hW hm, nI_1, mkM]
    by_cases hb : bt (nI n) m = true
    · simp only [hb, not_true_eq_false, if_false, if_true]
      rw [tRsS_or, tRsS_one hW hm, Int32.or_assoc]
    · simp only [hb, not_false_eq_true, if_true, if_false, Bool.false_eq_true]) 0 (Nat.zero_le _)
  rw [← e0] at key
  refine key.trans ?_
  rw [mkM_self hW hn]
  simp only [w_Sets_keptFor_0, w_Sets_keptFor_9, w_Sets_keptFor_12, w_Sets_keptFor_15, w_Sets_keptFor_20, w_Sets_keptFor_24, w_Sets_keptFor_29, w_Sets_keptFor_33, w_Sets_keptFor_35, w_Sets_keptFor_41, w_Sets_keptFor_46, w_Sets_keptFor_49, w_Sets_keptFor_4 (l3 := nI (tM T)), c_3, f_3_0, p_3_0, f_3_1, p_3_1, f_3_2, p_3_2, f_3_3, p_3_3, f_3_4, p_3_4, f_3_5, p_3_5, f_3_6, p_3_6, f_3_7, p_3_7, f_3_8, p_3_8, f_3_9, f_3_10, f_3_11, f_3_12, f_3_13, c_25, f_25_0, f_25_1, f_25_2, f_25_3, f_25_4, f_25_5, f_25_6, f_25_7, p_25_7, Option.some.injEq, exists_eq_left', exists_eq_left, Option.toList_some, Option.toList_none, List.cons_append, List.nil_append, true_and, and_true, Option.map_some, Option.map_none, t5, show nI (tM T) ≤ nI (tM T) from Int32.le_refl _, if_true, keep_c hW hn t7]
  exact eq_comm
theorem s_mostBearing (hd : 3 ≤ d) (hT : clsT s 3 T) (hW : tWf T) : x_ev g_M P d 45 [.ref 25] (mkH xs s) q ↔ q = (some (.int (optI (amx (tBc T) (tM T)))), mkH xs s) := by
  have w2 := hW.2.1
  have t5 := hT.1.2.2.2.2.2
  obtain ⟨d, rfl⟩ := x_1 (d := d) (by omega)
  rw [x_ev_in rfl (Nat.le_of_ble_eq_true rfl)]
  rw [show x_ent (x_nL g_M 45) [.ref 25] = [some (.ref 25), none, none, none, none] from rfl]
  rw [w_Sets_mostBearing_0]
  refine x_upO (C := x_ev g_M P d) (k := 45) (r := q) (N := tM T) (F := fun m o => (6, [some (.ref 25), some (.int (optI (amx (tBc T) m))), some (.int ((amx (tBc T) m).elim (-1) (tBc T))), some (.int (nI m)), o], [], mkH xs s)) (fun m o hm => ⟨some (.int (tBc T m)), ?_⟩) (fun o => ?_) (tM T) 0 none (by omega)
  · have hc : ¬ nI (tM T) ≤ nI m := nI_ge hm (by omega)
    obtain ⟨j, hj, ej⟩ := tBear_lo hW hm
    have eb : bcE (tBear T m) = tBc T m := by unfold tBc; rw [ej]; exact bcE_sm j hj
    obtain ⟨z, hz, ez⟩ := sm01 (fun k => bt (tBear T m) k) 8 (by omega)
    have hz' : tBc T m = nI z := ez
    simp only [w_Sets_mostBearing_0, w_Sets_mostBearing_11, w_Sets_mostBearing_14, w_Sets_mostBearing_17, w_Sets_mostBearing_21, w_Sets_mostBearing_25, w_Sets_mostBearing_28, w_Sets_mostBearing_36, w_Sets_mostBearing_41, w_Sets_mostBearing_47, w_Sets_mostBearing_6 (l3 := nI m), c_3, f_3_0, p_3_0, f_3_1, p_3_1, f_3_2, p_3_2, f_3_3, p_3_3, f_3_4, p_3_4, f_3_5, p_3_5, f_3_6, p_3_6, f_3_7, p_3_7, f_3_8, p_3_8, f_3_9, f_3_10, f_3_11, f_3_12, f_3_13, c_25, f_25_0, f_25_1, f_25_2, f_25_3, f_25_4, f_25_5, f_25_6, f_25_7, p_25_7, Option.some.injEq, exists_eq_left', exists_eq_left, Option.toList_some, Option.toList_none, List.cons_append, List.nil_append, true_and, and_true, Option.map_some, Option.map_none, t5, hc, if_false, t_bearsOf (d := d) (by omega) hT hW hm, t_bitCount (d := d) (by omega), eb, nI_1, amx]
    cases hb : amx (tBc T) m with
    | none =>
      have : ¬ tBc T m ≤ -1 := by
        rw [hz', Int32.not_le]
        exact Int32.lt_of_lt_of_le (by decide) (nI_pos' (n := z) (by omega))
      simp only [Option.elim_none, this, if_false, Option.elim_some, optI]
    | some b =>
      have hle : tBc T m ≤ tBc T b ↔ ¬ tBc T b < tBc T m := Int32.not_lt.symm
      simp only [Option.elim_some, hle]
      by_cases h1 : tBc T b < tBc T m
      · simp only [h1, not_true_eq_false, if_false, if_true, Option.elim_some, optI]
      · simp only [h1, not_false_eq_true, if_true, if_false, Option.elim_some]
  · simp only [w_Sets_mostBearing_0, w_Sets_mostBearing_11, w_Sets_mostBearing_14, w_Sets_mostBearing_17, w_Sets_mostBearing_21, w_Sets_mostBearing_25, w_Sets_mostBearing_28, w_Sets_mostBearing_36, w_Sets_mostBearing_41, w_Sets_mostBearing_47, w_Sets_mostBearing_6 (l3 := nI (tM T)), c_3, f_3_0, p_3_0, f_3_1, p_3_1, f_3_2, p_3_2, f_3_3, p_3_3, f_3_4, p_3_4, f_3_5, p_3_5, f_3_6, p_3_6, f_3_7, p_3_7, f_3_8, p_3_8, f_3_9, f_3_10, f_3_11, f_3_12, f_3_13, c_25, f_25_0, f_25_1, f_25_2, f_25_3, f_25_4, f_25_5, f_25_6, f_25_7, p_25_7, Option.some.injEq, exists_eq_left', exists_eq_left, Option.toList_some, Option.toList_none, List.cons_append, List.nil_append, true_and, and_true, Option.map_some, Option.map_none, t5, show nI (tM T) ≤ nI (tM T) from Int32.le_refl _, if_true]
    exact eq_comm
end SETS2
