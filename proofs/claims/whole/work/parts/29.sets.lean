/-! SETS of MATTERS: what is closed, what rests on what, what all gain (own work) -/
/-- the first of n from i on that a test takes -/
def frst (f : Nat → Bool) : Nat → Nat → Option Nat
  | _, 0 => none
  | i, n + 1 => if f i = true then some i else frst f (i + 1) n
theorem frst_some {f : Nat → Bool} : ∀ {n i m : Nat}, frst f i n = some m → i ≤ m ∧ m < i + n ∧ f m = true ∧ ∀ k, i ≤ k → k < m → f k = false := by
  intro n
  induction n with
  | zero => intro i m h; cases h
  | succ n ih =>
    intro i m h
    rw [frst] at h
    split at h
    · rename_i hc
      cases h
      exact ⟨Nat.le_refl _, by omega, hc, fun k h1 h2 => by omega⟩
    · rename_i hc
      obtain ⟨a, b, c, e⟩ := ih h
      refine ⟨by omega, by omega, c, fun k h1 h2 => ?_⟩
      by_cases hk : k = i
      · subst hk; simpa using hc
      · exact e k (by omega) h2
theorem frst_none {f : Nat → Bool} : ∀ {n i : Nat}, frst f i n = none → ∀ k, i ≤ k → k < i + n → f k = false := by
  intro n
  induction n with
  | zero => intro i _ k h1 h2; omega
  | succ n ih =>
    intro i h k h1 h2
    rw [frst] at h
    split at h
    · cases h
    · rename_i hc
      by_cases hk : k = i
      · subst hk; simpa using hc
      · exact ih h k (by omega) (by omega)
theorem frst_ext {f g : Nat → Bool} : ∀ {n i : Nat}, (∀ k, i ≤ k → k < i + n → f k = g k) → frst f i n = frst g i n := by
  intro n
  induction n with
  | zero => intro i _; rfl
  | succ n ih =>
    intro i h
    rw [frst, frst, h i (Nat.le_refl _) (by omega), ih (fun k h1 h2 => h k (by omega) (by omega))]
def fd {α : Type} (f : Nat → α → α) : Nat → α → α
  | 0, a => a
  | n + 1, a => fd f n (f n a)
section LOOPS2
variable {C : Nat → List Value → xH → Option Value × xH → Prop} {k : Nat} {r : Option Value × xH}
theorem x_fstG {N : Nat} {F : Nat → xF} {f : Nat → Bool} {K : Nat → Prop} {E : Prop} (hs : ∀ m, m < N → f m = false → (x_R C k (F m) r ↔ x_R C k (F (m + 1)) r)) (hx : ∀ m, m < N → f m = true → (x_R C k (F m) r ↔ K m)) (he : x_R C k (F N) r ↔ E) :
    ∀ n i, i + n = N → (x_R C k (F i) r ↔ (match frst f i n with | none => E | some m => K m)) := by
  intro n
  induction n with
  | zero => intro i hi; obtain rfl : i = N := by omega
            exact he
  | succ n ih =>
    intro i hi
    rw [frst]
    by_cases hf : f i = true
    · rw [if_pos hf]
      exact hx i (by omega) hf
    · rw [if_neg hf, hs i (by omega) (by simpa using hf)]
      exact ih (i + 1) (by omega)
/-- the first that stops a loop gives the answer -/
theorem x_fstI {N : Nat} {F : Nat → xF} {f : Nat → Bool} {e : Int32} {g : Nat → Int32} {H : xH} (hs : ∀ m, m < N → f m = false → (x_R C k (F m) r ↔ x_R C k (F (m + 1)) r)) (hx : ∀ m, m < N → f m = true → (x_R C k (F m) r ↔ r = (some (.int (g m)), H))) (he : x_R C k (F N) r ↔ r = (some (.int e), H)) : x_R C k (F 0) r ↔ r = (some (.int ((frst f 0 N).elim e g)), H) := by
  refine (x_fstG (E := r = (some (.int e), H)) (K := fun m => r = (some (.int (g m)), H)) hs hx he N 0 (by omega)).trans ?_
  cases frst f 0 N <;> exact Iff.rfl
theorem x_dn {α : Type} {N : Nat} {F : Nat → α → xF} {f : Nat → α → α} (hs : ∀ n a, n < N → (x_R C k (F (n + 1) a) r ↔ x_R C k (F n (f n a)) r)) : ∀ n a, n ≤ N → (x_R C k (F n a) r ↔ x_R C k (F 0 (fd f n a)) r) := by
  intro n
  induction n with
  | zero => intro a _; exact Iff.rfl
  | succ n ih => intro a h; rw [hs n a (by omega), fd]; exact ih _ (by omega)
end LOOPS2
theorem sh1 : ∀ m, m < 9 → (1 : Int32) <<< (nI m &&& 31) = nI (2 ^ m) := by decide +kernel
theorem p2_le : ∀ m, m < 9 → 2 ^ m ≤ 256 ∧ 0 < 2 ^ m := by decide
def tClo (T : Tw) (set : Int32) : Bool := (frst (fun m => bt set m && !decide ((tOn T m &&& (set ^^^ (-1))) = 0)) 0 (tM T)).isNone
def tAll (T : Tw) (set : Int32) : Int32 := sm (fun m => if bt set m = true then tGa T m 0 + tGa T m 1 else 0) (tM T)
def tRst (T : Tw) (m : Nat) : Int32 := fd (fun k b => if bt b k = true then b ||| tOn T k else b) m (tOn T m)
def tRsS (T : Tw) (set : Int32) : Int32 := fd (fun k b => if bt (set ||| b) k = true then b ||| tOn T k else b) (tM T) 0
def tFull (T : Tw) : Int32 := nI (2 ^ tM T) - 1
def tBear (T : Tw) (m : Nat) : Int32 := tFall T (tFull T) m &&& (on1 m ^^^ (-1))
def tSet (T : Tw) (x : Int32) : Int32 := if tLi T ≤ 0 then 0 else if x < 0 then 0 else if nI (2 ^ tM T) ≤ x then 0 else 1
theorem sm_add (f g : Nat → Int32) : ∀ n, sm (fun i => f i + g i) n = sm f n + sm g n := by
  intro n
  induction n with
  | zero => rfl
  | succ n ih => rw [sm, sm, sm, ih]; ac_rfl
theorem sm_0 : ∀ n, sm (fun _ => 0) n = 0 := by
  intro n
  induction n with
  | zero => rfl
  | succ n ih => rw [sm, ih]; rfl
theorem sm_swap (f : Nat → Nat → Int32) (m : Nat) : ∀ n, sm (fun i => sm (fun j => f i j) m) n = sm (fun j => sm (fun i => f i j) n) m := by
  intro n
  induction n with
  | zero => simp only [sm]; rw [sm_0]
  | succ n ih => simp only [sm]; rw [sm_add, ih]
theorem sm_one (v : Int32) (a : Nat) : ∀ n, sm (fun i => if a = i then v else 0) n = if a < n then v else 0 := by
  intro n
  induction n with
  | zero => rfl
  | succ n ih =>
    rw [sm, ih]
    by_cases h1 : a < n
    · rw [if_pos h1, if_neg (by omega), if_pos (by omega), Int32.add_zero]
    · rw [if_neg h1, Int32.zero_add]
      by_cases h2 : a = n
      · rw [if_pos h2, if_pos (by omega)]
      · rw [if_neg h2, if_neg (by omega)]
/-- what all gain, person by person -/
theorem tAll_p {T : Tw} (hW : tWf T) (set : Int32) : sm (fun p => tSum T p set) (tP T) = tAll T set := by
  unfold tSum tAll
  rw [sm_swap]
  refine sm_eq (fun m hm => ?_)
  obtain ⟨h1, h2, h3⟩ := hW.2.2.1 m hm
  by_cases hb : bt set m = true
  · simp only [hb, if_true]
    have e : ∀ p, tGain T p m = (if tPa T m 0 = p then tGa T m 0 else 0) + (if tPa T m 1 = p then tGa T m 1 else 0) := by
      intro p
      unfold tGain
      by_cases g1 : tPa T m 0 = p
      · rw [if_pos g1, if_pos g1, if_neg (by omega), Int32.add_zero]
      · rw [if_neg g1, if_neg g1, Int32.zero_add]
    rw [sm_eq (fun p _ => e p), sm_add, sm_one, sm_one, if_pos h1, if_pos h2]
  · simp only [hb, Bool.false_eq_true, if_false]
    exact sm_0 _
theorem b_or0 {x y : Int32} {i : Nat} (h : bt y i = false) : bt (x ||| y) i = bt x i := by rw [b_or, h, Bool.or_false]
/-- what one MATTER rests on -/
theorem tRsS_one {T : Tw} (hW : tWf T) {m : Nat} (hm : m < tM T) : tRsS T (on1 m) = tRst T m := by
  have w2 := hW.2.1
  unfold tRsS tRst
  have low : ∀ n b, n ≤ m → fd (fun k b => if bt (on1 m ||| b) k = true then b ||| tOn T k else b) n b = fd (fun k b => if bt b k = true then b ||| tOn T k else b) n b := by
    intro n
    induction n with
    | zero => intro b _; rfl
    | succ n ih =>
      intro b hn
      rw [fd, fd, ih _ (by omega)]
      have : bt (on1 m ||| b) n = bt b n := by
        rw [b_or, b_on (by omega) (by omega)]
        have : ¬ n = m := by omega
        simp [this]
      rw [this]
  have high : ∀ j, m + 1 + j ≤ tM T → fd (fun k b => if bt (on1 m ||| b) k = true then b ||| tOn T k else b) (m + 1 + j) 0 = fd (fun k b => if bt (on1 m ||| b) k = true then b ||| tOn T k else b) (m + 1) 0 := by
    intro j
    induction j with
    | zero => intro _; rfl
    | succ j ih =>
      intro hj
      rw [show m + 1 + (j + 1) = (m + 1 + j) + 1 by omega, fd]
      have : bt (on1 m ||| 0) (m + 1 + j) = false := by
        rw [b_or, b_0, b_on (by omega) (by omega)]
        have : ¬ m + 1 + j = m := by omega
        simp [this]
      rw [this]
      simp only [Bool.false_eq_true, if_false]
      exact ih (by omega)
  have := high (tM T - (m + 1)) (by omega)
  rw [show m + 1 + (tM T - (m + 1)) = tM T by omega] at this
  rw [this, fd]
  have e : bt (on1 m ||| 0) m = true := by rw [b_or, b_on (by omega) (by omega)]; simp
  rw [e]
  simp only [if_true]
  rw [low m _ (Nat.le_refl _), Int32.zero_or]
/-- a union rests on what its parts rest on -/
theorem tRsS_or (T : Tw) (x y : Int32) : tRsS T (x ||| y) = tRsS T x ||| tRsS T y := by
  unfold tRsS
  have key : ∀ n a b, fd (fun k b => if bt ((x ||| y) ||| b) k = true then b ||| tOn T k else b) n (a ||| b) = fd (fun k b => if bt (x ||| b) k = true then b ||| tOn T k else b) n a ||| fd (fun k b => if bt (y ||| b) k = true then b ||| tOn T k else b) n b := by
    intro n
    induction n with
    | zero => intro a b; rfl
    | succ n ih =>
      intro a b
      simp only [fd]
      rw [← ih]
      congr 1
      apply b_ext
      intro i hi
      cases h1 : bt x n <;> cases h2 : bt y n <;> cases h3 : bt a n <;> cases h4 : bt b n <;> simp [b_or, h1, h2, h3, h4] <;> (cases bt a i <;> cases bt b i <;> cases bt (tOn T n) i <;> rfl)
  have := key (tM T) 0 0
  rw [show (0 : Int32) ||| 0 = 0 from rfl] at this
  exact this
theorem tRsS_0 (T : Tw) : tRsS T 0 = 0 := by
  unfold tRsS
  have : ∀ n, fd (fun k b => if bt (0 ||| b) k = true then b ||| tOn T k else b) n 0 = (0 : Int32) := by
    intro n
    induction n with
    | zero => rfl
    | succ n ih => rw [fd]; simpa [b_or, b_0] using ih
  exact this _
section SETS
variable {P : Nat → List Value → Option Value} {d : Nat} {xs : List Int32} {s : xS} {T : Tw} {q : Option Value × xH}
theorem t_hasSet (hd : 2 ≤ d) (hT : clsT s 3 T) (hW : tWf T) (x : Int32) : x_ev g_M P d 88 [.ref 3, .int x] (mkH xs s) q ↔ q = (some (.int (tSet T x)), mkH xs s) := by
  have w2 := hW.2.1
  have t5 := hT.1.2.2.2.2.2
  obtain ⟨d, rfl⟩ := x_1 (d := d) (by omega)
  rw [x_ev_in rfl (Nat.le_of_ble_eq_true rfl)]
  rw [show x_ent (x_nL g_M 88) [.ref 3, .int x] = [some (.ref 3), some (.int x)] from rfl]
  simp only [w_Town_hasSet_0, w_Town_hasSet_4, w_Town_hasSet_7, w_Town_hasSet_11, w_Town_hasSet_17, w_Town_hasSet_21, w_Town_hasSet_25, w_Town_hasSet_26, c_3, f_3_0, p_3_0, f_3_1, p_3_1, f_3_2, p_3_2, f_3_3, p_3_3, f_3_4, p_3_4, f_3_5, p_3_5, f_3_6, p_3_6, f_3_7, p_3_7, f_3_8, p_3_8, f_3_9, f_3_10, f_3_11, f_3_12, f_3_13, Option.some.injEq, exists_eq_left', exists_eq_left, Option.toList_some, Option.toList_none, List.cons_append, List.nil_append, true_and, and_true, Option.map_some, Option.map_none, t_isTold (d := d) (by omega) hT, t5, sh1 (tM T) (by omega), tSet]
  by_cases h1 : tLi T ≤ 0 <;> by_cases h2 : x < 0 <;> by_cases h3 : nI (2 ^ tM T) ≤ x <;> simp [h1, h2, h3, x_nb0, x_nb1, eq_comm (a := q)]
theorem r_allMatters (hd : 1 ≤ d) (hT : refT s 111 0 T) (hW : tWf T) : x_ev g_M P d 197 [.ref 110] (mkH xs s) q ↔ q = (some (.int (tFull T)), mkH xs s) := by
  have w2 := hW.2.1
  obtain ⟨d, rfl⟩ := x_1 (d := d) (by omega)
  rw [x_ev_in rfl (Nat.le_of_ble_eq_true rfl)]
  rw [show x_ent (x_nL g_M 197) [.ref 110] = [some (.ref 110)] from rfl]
  simp only [w_Ref_allMatters_0, w_Ref_allMatters_5, w_Ref_allMatters_7, c_110, f_110_0, p_110_0, f_110_1, f_110_2, f_110_3, f_110_4, f_110_5, p_110_5, f_110_6, f_110_7, p_110_7, f_110_8, p_110_8, f_110_9, p_110_9, f_110_10, p_110_10, f_110_11, p_110_11, f_110_12, p_110_12, f_110_13, p_110_13, f_110_14, f_110_15, f_110_16, p_110_16, f_110_17, f_110_18, p_110_18, f_110_19, p_110_19, f_110_20, f_110_21, p_110_21, f_110_22, p_110_22, f_110_23, f_110_24, f_110_25, p_110_25, f_110_26, f_110_27, f_110_28, f_110_29, f_110_30, f_110_31, p_110_31, f_110_32, p_110_32, f_110_33, p_110_33, f_110_34, p_110_34, f_110_35, f_110_36, f_110_37, f_110_38, e_111, i_111, Option.some.injEq, exists_eq_left', exists_eq_left, Option.toList_some, Option.toList_none, List.cons_append, List.nil_append, true_and, and_true, Option.map_some, Option.map_none, x_w4 hT, sh1 (tM T) (by omega), tFull]
  exact eq_comm
theorem r_isSet (hd : 2 ≤ d) (hT : refT s 111 0 T) (hW : tWf T) (x : Int32) : x_ev g_M P d 198 [.ref 110, .int x] (mkH xs s) q ↔ q = (some (.int (tSet T x)), mkH xs s) := by
  have w2 := hW.2.1
  have hp := p2_le (tM T) (by omega)
  obtain ⟨d, rfl⟩ := x_1 (d := d) (by omega)
  rw [x_ev_in rfl (Nat.le_of_ble_eq_true rfl)]
  rw [show x_ent (x_nL g_M 198) [.ref 110, .int x] = [some (.ref 110), some (.int x)] from rfl]
  have e : x.toInt64 < 0 ↔ x < 0 := w_lt x 0
  simp only [w_Ref_isSet_0, w_Ref_isSet_4, w_Ref_isSet_7, w_Ref_isSet_14, w_Ref_isSet_18, w_Ref_isSet_21, w_Ref_isSet_25, w_Ref_isSet_26, c_110, f_110_0, p_110_0, f_110_1, f_110_2, f_110_3, f_110_4, f_110_5, p_110_5, f_110_6, f_110_7, p_110_7, f_110_8, p_110_8, f_110_9, p_110_9, f_110_10, p_110_10, f_110_11, p_110_11, f_110_12, p_110_12, f_110_13, p_110_13, f_110_14, f_110_15, f_110_16, p_110_16, f_110_17, f_110_18, p_110_18, f_110_19, p_110_19, f_110_20, f_110_21, p_110_21, f_110_22, p_110_22, f_110_23, f_110_24, f_110_25, p_110_25, f_110_26, f_110_27, f_110_28, f_110_29, f_110_30, f_110_31, p_110_31, f_110_32, p_110_32, f_110_33, p_110_33, f_110_34, p_110_34, f_110_35, f_110_36, f_110_37, f_110_38, Option.some.injEq, exists_eq_left', exists_eq_left, Option.toList_some, Option.toList_none, List.cons_append, List.nil_append, true_and, and_true, Option.map_some, Option.map_none, r_isTown (d := d) (by omega) hT, r_allMatters (d := d) (by omega) hT hW, r_in (d := d) (by omega), e, w_lt, tFull, nI_pr (show 2 ^ tM T < 2 ^ 30 by omega), tSet]
  by_cases h1 : tLi T ≤ 0 <;> by_cases h2 : x < 0 <;> by_cases h3 : nI (2 ^ tM T) ≤ x <;> simp [h1, h2, h3, x_nb0, x_nb1, eq_comm (a := q)]
set_option maxHeartbeats 4000000 in
theorem t_isClosed (hd : 2 ≤ d) (hT : clsT s 3 T) (hW : tWf T) (set : Int32) : x_ev g_M P d 98 [.ref 3, .int set] (mkH xs s) q ↔ q = (some (.int (b01 (tClo T set))), mkH xs s) := by
  have w2 := hW.2.1
  have t5 := hT.1.2.2.2.2.2
  have t12 := hT.2.2.2.2.2.2.2.1
  obtain ⟨d, rfl⟩ := x_1 (d := d) (by omega)
  rw [x_ev_in rfl (Nat.le_of_ble_eq_true rfl)]
  rw [show x_ent (x_nL g_M 98) [.ref 3, .int set] = [some (.ref 3), some (.int set), none] from rfl]
  rw [w_Town_isClosed_0]
  have key := x_fstI (C := x_ev g_M P d) (k := 98) (r := q) (N := tM T) (H := mkH xs s) (f := fun m => bt set m && !decide ((tOn T m &&& (set ^^^ (-1))) = 0)) (e := 1) (g := fun _ => 0) (F := fun m => (2, [some (.ref 3), some (.int set), some (.int (nI m))], [], mkH xs s)) (fun m hm hf => by
    have hc : ¬ nI (tM T) ≤ nI m := nI_ge hm (by omega)
    have hx : x_rd (s.1 7) 8 (nI m) = some (tOn T m) := by rw [x_rd_nI (by omega) (by omega), t12 m hm]
    simp only [w_Town_isClosed_0, w_Town_isClosed_7, w_Town_isClosed_10, w_Town_isClosed_15, w_Town_isClosed_19, w_Town_isClosed_23, w_Town_isClosed_25, w_Town_isClosed_32, w_Town_isClosed_34, w_Town_isClosed_40, w_Town_isClosed_2 (l2 := nI m), c_3, f_3_0, p_3_0, f_3_1, p_3_1, f_3_2, p_3_2, f_3_3, p_3_3, f_3_4, p_3_4, f_3_5, p_3_5, f_3_6, p_3_6, f_3_7, p_3_7, f_3_8, p_3_8, f_3_9, f_3_10, f_3_11, f_3_12, f_3_13, e_7, i_7, Option.some.injEq, exists_eq_left', exists_eq_left, Option.toList_some, Option.toList_none, List.cons_append, List.nil_append, true_and, and_true, Option.map_some, Option.map_none, t5, hc, if_false, t_bitOf (d := d) (by omega), bit_1 (show m < 32 by omega), hx, nI_1]
    by_cases hb : bt set m = true
    · have h0 : (tOn T m &&& (set ^^^ (-1))) = 0 := by simpa only [hb, Bool.true_and, Bool.not_eq_false', decide_eq_true_eq] using hf
      simp only [hb, h0, not_true_eq_false, if_false, if_true]
    · simp only [hb, not_false_eq_true, if_true, Bool.false_eq_true]) (fun m hm hf => by
    have hc : ¬ nI (tM T) ≤ nI m := nI_ge hm (by omega)
    have hx : x_rd (s.1 7) 8 (nI m) = some (tOn T m) := by rw [x_rd_nI (by omega) (by omega), t12 m hm]
    have hb : bt set m = true := by simp only [Bool.and_eq_true] at hf; exact hf.1
    have h0 : ¬ (tOn T m &&& (set ^^^ (-1))) = 0 := by simp only [Bool.and_eq_true, Bool.not_eq_true', decide_eq_false_iff_not] at hf; exact hf.2
    simp only [w_Town_isClosed_0, w_Town_isClosed_7, w_Town_isClosed_10, w_Town_isClosed_15, w_Town_isClosed_19, w_Town_isClosed_23, w_Town_isClosed_25, w_Town_isClosed_32, w_Town_isClosed_34, w_Town_isClosed_40, w_Town_isClosed_2 (l2 := nI m), c_3, f_3_0, p_3_0, f_3_1, p_3_1, f_3_2, p_3_2, f_3_3, p_3_3, f_3_4, p_3_4, f_3_5, p_3_5, f_3_6, p_3_6, f_3_7, p_3_7, f_3_8, p_3_8, f_3_9, f_3_10, f_3_11, f_3_12, f_3_13, e_7, i_7, Option.some.injEq, exists_eq_left', exists_eq_left, Option.toList_some, Option.toList_none, List.cons_append, List.nil_append, true_and, and_true, Option.map_some, Option.map_none, t5, hc, if_false, t_bitOf (d := d) (by omega), bit_1 (show m < 32 by omega), hx, nI_1, hb, h0, not_true_eq_false, x_nb0]
    exact eq_comm) (by
    simp only [w_Town_isClosed_0, w_Town_isClosed_7, w_Town_isClosed_10, w_Town_isClosed_15, w_Town_isClosed_19, w_Town_isClosed_23, w_Town_isClosed_25, w_Town_isClosed_32, w_Town_isClosed_34, w_Town_isClosed_40, w_Town_isClosed_2 (l2 := nI (tM T)), c_3, f_3_0, p_3_0, f_3_1, p_3_1, f_3_2, p_3_2, f_3_3, p_3_3, f_3_4, p_3_4, f_3_5, p_3_5, f_3_6, p_3_6, f_3_7, p_3_7, f_3_8, p_3_8, f_3_9, f_3_10, f_3_11, f_3_12, f_3_13, e_7, i_7, Option.some.injEq, exists_eq_left', exists_eq_left, Option.toList_some, Option.toList_none, List.cons_append, List.nil_append, true_and, and_true, Option.map_some, Option.map_none, t5, show nI (tM T) ≤ nI (tM T) from Int32.le_refl _, if_true, x_nb1]
    exact eq_comm)
  refine key.trans ?_
  unfold tClo b01
  cases frst (fun m => bt set m && !decide ((tOn T m &&& (set ^^^ (-1))) = 0)) 0 (tM T) <;> exact Iff.rfl
set_option maxHeartbeats 4000000 in
theorem r_isClosed (hd : 2 ≤ d) (hT : refT s 111 0 T) (hW : tWf T) (set : Int32) : x_ev g_M P d 267 [.ref 110, .int set] (mkH xs s) q ↔ q = (some (.int (b01 (tClo T set))), mkH xs s) := by
  have w2 := hW.2.1
  obtain ⟨d, rfl⟩ := x_1 (d := d) (by omega)
  rw [x_ev_in rfl (Nat.le_of_ble_eq_true rfl)]
  rw [show x_ent (x_nL g_M 267) [.ref 110, .int set] = [some (.ref 110), some (.int set), none] from rfl]
  rw [w_Ref_isClosed_0]
  have key := x_fstI (C := x_ev g_M P d) (k := 267) (r := q) (N := tM T) (H := mkH xs s) (f := fun m => bt set m && !decide ((tOn T m &&& (set ^^^ (-1))) = 0)) (e := 1) (g := fun _ => 0) (F := fun m => (2, [some (.ref 110), some (.int set), some (.int (nI m))], [], mkH xs s)) (fun m hm hf => by
    have hc : ¬ nI (tM T) ≤ nI m := nI_ge hm (by omega)
    simp only [w_Ref_isClosed_0, w_Ref_isClosed_7, w_Ref_isClosed_9, w_Ref_isClosed_12, w_Ref_isClosed_17, w_Ref_isClosed_21, w_Ref_isClosed_27, w_Ref_isClosed_34, w_Ref_isClosed_36, w_Ref_isClosed_42, w_Ref_isClosed_2 (l2 := nI m), c_110, f_110_0, p_110_0, f_110_1, f_110_2, f_110_3, f_110_4, f_110_5, p_110_5, f_110_6, f_110_7, p_110_7, f_110_8, p_110_8, f_110_9, p_110_9, f_110_10, p_110_10, f_110_11, p_110_11, f_110_12, p_110_12, f_110_13, p_110_13, f_110_14, f_110_15, f_110_16, p_110_16, f_110_17, f_110_18, p_110_18, f_110_19, p_110_19, f_110_20, f_110_21, p_110_21, f_110_22, p_110_22, f_110_23, f_110_24, f_110_25, p_110_25, f_110_26, f_110_27, f_110_28, f_110_29, f_110_30, f_110_31, p_110_31, f_110_32, p_110_32, f_110_33, p_110_33, f_110_34, p_110_34, f_110_35, f_110_36, f_110_37, f_110_38, e_111, i_111, Option.some.injEq, exists_eq_left', exists_eq_left, Option.toList_some, Option.toList_none, List.cons_append, List.nil_append, true_and, and_true, Option.map_some, Option.map_none, x_w4 hT, hc, if_false, r_bit (d := d) (by omega), bit_1 (show m < 32 by omega), r_of4 (d := d) (by omega) hT hW hm, nI_1]
    by_cases hb : bt set m = true
    · have h0 : (tOn T m &&& (set ^^^ (-1))) = 0 := by simpa only [hb, Bool.true_and, Bool.not_eq_false', decide_eq_true_eq] using hf
      simp only [hb, h0, not_true_eq_false, if_false, if_true]
    · simp only [hb, not_false_eq_true, if_true, Bool.false_eq_true]) (fun m hm hf => by
    have hc : ¬ nI (tM T) ≤ nI m := nI_ge hm (by omega)
    have hb : bt set m = true := by simp only [Bool.and_eq_true] at hf; exact hf.1
    have h0 : ¬ (tOn T m &&& (set ^^^ (-1))) = 0 := by simp only [Bool.and_eq_true, Bool.not_eq_true', decide_eq_false_iff_not] at hf; exact hf.2
    simp only [w_Ref_isClosed_0, w_Ref_isClosed_7, w_Ref_isClosed_9, w_Ref_isClosed_12, w_Ref_isClosed_17, w_Ref_isClosed_21, w_Ref_isClosed_27, w_Ref_isClosed_34, w_Ref_isClosed_36, w_Ref_isClosed_42, w_Ref_isClosed_2 (l2 := nI m), c_110, f_110_0, p_110_0, f_110_1, f_110_2, f_110_3, f_110_4, f_110_5, p_110_5, f_110_6, f_110_7, p_110_7, f_110_8, p_110_8, f_110_9, p_110_9, f_110_10, p_110_10, f_110_11, p_110_11, f_110_12, p_110_12, f_110_13, p_110_13, f_110_14, f_110_15, f_110_16, p_110_16, f_110_17, f_110_18, p_110_18, f_110_19, p_110_19, f_110_20, f_110_21, p_110_21, f_110_22, p_110_22, f_110_23, f_110_24, f_110_25, p_110_25, f_110_26, f_110_27, f_110_28, f_110_29, f_110_30, f_110_31, p_110_31, f_110_32, p_110_32, f_110_33, p_110_33, f_110_34, p_110_34, f_110_35, f_110_36, f_110_37, f_110_38, e_111, i_111, Option.some.injEq, exists_eq_left', exists_eq_left, Option.toList_some, Option.toList_none, List.cons_append, List.nil_append, true_and, and_true, Option.map_some, Option.map_none, x_w4 hT, hc, if_false, r_bit (d := d) (by omega), bit_1 (show m < 32 by omega), r_of4 (d := d) (by omega) hT hW hm, nI_1, hb, h0, not_true_eq_false, x_nb0]
    exact eq_comm) (by
    simp only [w_Ref_isClosed_0, w_Ref_isClosed_7, w_Ref_isClosed_9, w_Ref_isClosed_12, w_Ref_isClosed_17, w_Ref_isClosed_21, w_Ref_isClosed_27, w_Ref_isClosed_34, w_Ref_isClosed_36, w_Ref_isClosed_42, w_Ref_isClosed_2 (l2 := nI (tM T)), c_110, f_110_0, p_110_0, f_110_1, f_110_2, f_110_3, f_110_4, f_110_5, p_110_5, f_110_6, f_110_7, p_110_7, f_110_8, p_110_8, f_110_9, p_110_9, f_110_10, p_110_10, f_110_11, p_110_11, f_110_12, p_110_12, f_110_13, p_110_13, f_110_14, f_110_15, f_110_16, p_110_16, f_110_17, f_110_18, p_110_18, f_110_19, p_110_19, f_110_20, f_110_21, p_110_21, f_110_22, p_110_22, f_110_23, f_110_24, f_110_25, p_110_25, f_110_26, f_110_27, f_110_28, f_110_29, f_110_30, f_110_31, p_110_31, f_110_32, p_110_32, f_110_33, p_110_33, f_110_34, p_110_34, f_110_35, f_110_36, f_110_37, f_110_38, e_111, i_111, Option.some.injEq, exists_eq_left', exists_eq_left, Option.toList_some, Option.toList_none, List.cons_append, List.nil_append, true_and, and_true, Option.map_some, Option.map_none, x_w4 hT, show nI (tM T) ≤ nI (tM T) from Int32.le_refl _, if_true, x_nb1]
    exact eq_comm)
  refine key.trans ?_
  unfold tClo b01
  cases frst (fun m => bt set m && !decide ((tOn T m &&& (set ^^^ (-1))) = 0)) 0 (tM T) <;> exact Iff.rfl
theorem t_sumOfAll (hd : 2 ≤ d) (hT : clsT s 3 T) (hW : tWf T) (set : Int32) : x_ev g_M P d 94 [.ref 3, .int set] (mkH xs s) q ↔ q = (some (.int (tAll T set)), mkH xs s) := by
  have w1 := hW.1
  have t4 := hT.1.2.2.2.2.1
  rw [← tAll_p hW]
  obtain ⟨d, rfl⟩ := x_1 (d := d) (by omega)
  rw [x_ev_in rfl (Nat.le_of_ble_eq_true rfl)]
  rw [show x_ent (x_nL g_M 94) [.ref 3, .int set] = [some (.ref 3), some (.int set), none, none] from rfl]
  rw [w_Town_sumOfAll_0]
  have key := x_up (C := x_ev g_M P d) (k := 94) (r := q) (N := tP T) (F := fun m => (4, [some (.ref 3), some (.int set), some (.int (sm (fun p => tSum T p set) m)), some (.int (nI m))], [], mkH xs s)) (fun m hm => by
    have hc : ¬ nI (tP T) ≤ nI m := nI_ge hm (by omega)
    simp only [w_Town_sumOfAll_0, w_Town_sumOfAll_9, w_Town_sumOfAll_12, w_Town_sumOfAll_19, w_Town_sumOfAll_27, w_Town_sumOfAll_4 (l3 := nI m), c_3, f_3_0, p_3_0, f_3_1, p_3_1, f_3_2, p_3_2, f_3_3, p_3_3, f_3_4, p_3_4, f_3_5, p_3_5, f_3_6, p_3_6, f_3_7, p_3_7, f_3_8, p_3_8, f_3_9, f_3_10, f_3_11, f_3_12, f_3_13, Option.some.injEq, exists_eq_left', exists_eq_left, Option.toList_some, Option.toList_none, List.cons_append, List.nil_append, true_and, and_true, Option.map_some, Option.map_none, t4, hc, if_false, t_sumOf (d := d) (by omega) hT hW hm, nI_1, sm]) 0 (Nat.zero_le _)
  refine key.trans ?_
  simp only [w_Town_sumOfAll_0, w_Town_sumOfAll_9, w_Town_sumOfAll_12, w_Town_sumOfAll_19, w_Town_sumOfAll_27, w_Town_sumOfAll_4 (l3 := nI (tP T)), c_3, f_3_0, p_3_0, f_3_1, p_3_1, f_3_2, p_3_2, f_3_3, p_3_3, f_3_4, p_3_4, f_3_5, p_3_5, f_3_6, p_3_6, f_3_7, p_3_7, f_3_8, p_3_8, f_3_9, f_3_10, f_3_11, f_3_12, f_3_13, Option.some.injEq, exists_eq_left', exists_eq_left, Option.toList_some, Option.toList_none, List.cons_append, List.nil_append, true_and, and_true, Option.map_some, Option.map_none, t4, show nI (tP T) ≤ nI (tP T) from Int32.le_refl _, if_true]
  exact eq_comm
theorem r_sumOfAll (hd : 2 ≤ d) (hT : refT s 111 0 T) (hW : tWf T) (set : Int32) : x_ev g_M P d 205 [.ref 110, .int set] (mkH xs s) q ↔ q = (some (.int (tAll T set)), mkH xs s) := by
  have w2 := hW.2.1
  obtain ⟨d, rfl⟩ := x_1 (d := d) (by omega)
  rw [x_ev_in rfl (Nat.le_of_ble_eq_true rfl)]
  rw [show x_ent (x_nL g_M 205) [.ref 110, .int set] = [some (.ref 110), some (.int set), none, none] from rfl]
  rw [w_Ref_sumOfAll_0]
  have key := x_up (C := x_ev g_M P d) (k := 205) (r := q) (N := tM T) (F := fun m => (4, [some (.ref 110), some (.int set), some (.int (sm (fun m => if bt set m = true then tGa T m 0 + tGa T m 1 else 0) m)), some (.int (nI m))], [], mkH xs s)) (fun m hm => by
    have hc : ¬ nI (tM T) ≤ nI m := nI_ge hm (by omega)
    simp only [w_Ref_sumOfAll_0, w_Ref_sumOfAll_9, w_Ref_sumOfAll_11, w_Ref_sumOfAll_14, w_Ref_sumOfAll_20, w_Ref_sumOfAll_26, w_Ref_sumOfAll_32, w_Ref_sumOfAll_42, w_Ref_sumOfAll_4 (l3 := nI m), c_110, f_110_0, p_110_0, f_110_1, f_110_2, f_110_3, f_110_4, f_110_5, p_110_5, f_110_6, f_110_7, p_110_7, f_110_8, p_110_8, f_110_9, p_110_9, f_110_10, p_110_10, f_110_11, p_110_11, f_110_12, p_110_12, f_110_13, p_110_13, f_110_14, f_110_15, f_110_16, p_110_16, f_110_17, f_110_18, p_110_18, f_110_19, p_110_19, f_110_20, f_110_21, p_110_21, f_110_22, p_110_22, f_110_23, f_110_24, f_110_25, p_110_25, f_110_26, f_110_27, f_110_28, f_110_29, f_110_30, f_110_31, p_110_31, f_110_32, p_110_32, f_110_33, p_110_33, f_110_34, p_110_34, f_110_35, f_110_36, f_110_37, f_110_38, e_111, i_111, Option.some.injEq, exists_eq_left', exists_eq_left, Option.toList_some, Option.toList_none, List.cons_append, List.nil_append, true_and, and_true, Option.map_some, Option.map_none, x_w4 hT, hc, if_false, r_bit (d := d) (by omega), bit_i (show m < 32 by omega), r_of2 (d := d) (by omega) hT hW hm, r_of3 (d := d) (by omega) hT hW hm, nI_1, sm]
    by_cases hb : bt set m = true
    · simp only [hb, if_true, Int32.one_mul]
    · simp only [hb, if_false, Int32.zero_mul, Bool.false_eq_true]) 0 (Nat.zero_le _)
  refine key.trans ?_
  simp only [w_Ref_sumOfAll_0, w_Ref_sumOfAll_9, w_Ref_sumOfAll_11, w_Ref_sumOfAll_14, w_Ref_sumOfAll_20, w_Ref_sumOfAll_26, w_Ref_sumOfAll_32, w_Ref_sumOfAll_42, w_Ref_sumOfAll_4 (l3 := nI (tM T)), c_110, f_110_0, p_110_0, f_110_1, f_110_2, f_110_3, f_110_4, f_110_5, p_110_5, f_110_6, f_110_7, p_110_7, f_110_8, p_110_8, f_110_9, p_110_9, f_110_10, p_110_10, f_110_11, p_110_11, f_110_12, p_110_12, f_110_13, p_110_13, f_110_14, f_110_15, f_110_16, p_110_16, f_110_17, f_110_18, p_110_18, f_110_19, p_110_19, f_110_20, f_110_21, p_110_21, f_110_22, p_110_22, f_110_23, f_110_24, f_110_25, p_110_25, f_110_26, f_110_27, f_110_28, f_110_29, f_110_30, f_110_31, p_110_31, f_110_32, p_110_32, f_110_33, p_110_33, f_110_34, p_110_34, f_110_35, f_110_36, f_110_37, f_110_38, e_111, i_111, Option.some.injEq, exists_eq_left', exists_eq_left, Option.toList_some, Option.toList_none, List.cons_append, List.nil_append, true_and, and_true, Option.map_some, Option.map_none, x_w4 hT, show nI (tM T) ≤ nI (tM T) from Int32.le_refl _, if_true]
  exact eq_comm
theorem t_restsOf (hd : 2 ≤ d) (hT : clsT s 3 T) (hW : tWf T) {m : Nat} (hm : m < tM T) : x_ev g_M P d 99 [.ref 3, .int (nI m)] (mkH xs s) q ↔ q = (some (.int (tRst T m)), mkH xs s) := by
  have w2 := hW.2.1
  have t12 := hT.2.2.2.2.2.2.2.1
  have hx : ∀ n, n < tM T → x_rd (s.1 7) 8 (nI n) = some (tOn T n) := fun n hn => by rw [x_rd_nI (by omega) (by omega), t12 n hn]
  obtain ⟨d, rfl⟩ := x_1 (d := d) (by omega)
  rw [x_ev_in rfl (Nat.le_of_ble_eq_true rfl)]
  rw [show x_ent (x_nL g_M 99) [.ref 3, .int (nI m)] = [some (.ref 3), some (.int (nI m)), none, none] from rfl]
  have key := x_dn (C := x_ev g_M P d) (k := 99) (r := q) (N := m) (f := fun k b => if bt b k = true then b ||| tOn T k else b) (F := fun n b => (11, [some (.ref 3), some (.int (nI m)), some (.int b), some (.int (nI n - 1))], [], mkH xs s)) (fun n b hn => by
    simp only [nI_pred]
    simp only [w_Town_restsOf_0, w_Town_restsOf_4, w_Town_restsOf_6, w_Town_restsOf_15, w_Town_restsOf_20, w_Town_restsOf_24, w_Town_restsOf_29, w_Town_restsOf_31, w_Town_restsOf_33, w_Town_restsOf_39, w_Town_restsOf_11 (l3 := nI n), c_3, f_3_0, p_3_0, f_3_1, p_3_1, f_3_2, p_3_2, f_3_3, p_3_3, f_3_4, p_3_4, f_3_5, p_3_5, f_3_6, p_3_6, f_3_7, p_3_7, f_3_8, p_3_8, f_3_9, f_3_10, f_3_11, f_3_12, f_3_13, e_7, i_7, Option.some.injEq, exists_eq_left', exists_eq_left, Option.toList_some, Option.toList_none, List.cons_append, List.nil_append, true_and, and_true, Option.map_some, Option.map_none, nI_pos (show n < 2 ^ 31 by omega), if_false, t_bitOf (d := d) (by omega), bit_1 (show n < 32 by omega), hx n (by omega), nI_dn]
    by_cases hb : bt b n = true
    · simp only [hb, not_true_eq_false, if_false, if_true]
    · simp only [hb, not_false_eq_true, if_true, Bool.false_eq_true, if_false]) m (tOn T m) (Nat.le_refl _)
  simp only [w_Town_restsOf_0, w_Town_restsOf_4, w_Town_restsOf_6, w_Town_restsOf_15, w_Town_restsOf_20, w_Town_restsOf_24, w_Town_restsOf_29, w_Town_restsOf_31, w_Town_restsOf_33, w_Town_restsOf_39, c_3, f_3_0, p_3_0, f_3_1, p_3_1, f_3_2, p_3_2, f_3_3, p_3_3, f_3_4, p_3_4, f_3_5, p_3_5, f_3_6, p_3_6, f_3_7, p_3_7, f_3_8, p_3_8, f_3_9, f_3_10, f_3_11, f_3_12, f_3_13, e_7, i_7, Option.some.injEq, exists_eq_left', exists_eq_left, Option.toList_some, Option.toList_none, List.cons_append, List.nil_append, true_and, and_true, Option.map_some, Option.map_none, hx m hm]
  refine key.trans ?_
  simp only [w_Town_restsOf_0, w_Town_restsOf_4, w_Town_restsOf_6, w_Town_restsOf_15, w_Town_restsOf_20, w_Town_restsOf_24, w_Town_restsOf_29, w_Town_restsOf_31, w_Town_restsOf_33, w_Town_restsOf_39, w_Town_restsOf_11 (l3 := nI 0 - 1), show nI 0 - 1 < 0 by decide, if_true, tRst]
  exact eq_comm
theorem r_restsOf (hd : 2 ≤ d) (hT : refT s 111 0 T) (hW : tWf T) (set : Int32) : x_ev g_M P d 270 [.ref 110, .int set] (mkH xs s) q ↔ q = (some (.int (tRsS T set)), mkH xs s) := by
  have w2 := hW.2.1
  obtain ⟨d, rfl⟩ := x_1 (d := d) (by omega)
  rw [x_ev_in rfl (Nat.le_of_ble_eq_true rfl)]
  rw [show x_ent (x_nL g_M 270) [.ref 110, .int set] = [some (.ref 110), some (.int set), none, none] from rfl]
  have key := x_dn (C := x_ev g_M P d) (k := 270) (r := q) (N := tM T) (f := fun k b => if bt (set ||| b) k = true then b ||| tOn T k else b) (F := fun n b => (11, [some (.ref 110), some (.int set), some (.int b), some (.int (nI n - 1))], [], mkH xs s)) (fun n b hn => by
    simp only [nI_pred]
    simp only [w_Ref_restsOf_0, w_Ref_restsOf_6, w_Ref_restsOf_8, w_Ref_restsOf_15, w_Ref_restsOf_23, w_Ref_restsOf_27, w_Ref_restsOf_33, w_Ref_restsOf_36, w_Ref_restsOf_37, w_Ref_restsOf_45, w_Ref_restsOf_11 (l3 := nI n), c_110, f_110_0, p_110_0, f_110_1, f_110_2, f_110_3, f_110_4, f_110_5, p_110_5, f_110_6, f_110_7, p_110_7, f_110_8, p_110_8, f_110_9, p_110_9, f_110_10, p_110_10, f_110_11, p_110_11, f_110_12, p_110_12, f_110_13, p_110_13, f_110_14, f_110_15, f_110_16, p_110_16, f_110_17, f_110_18, p_110_18, f_110_19, p_110_19, f_110_20, f_110_21, p_110_21, f_110_22, p_110_22, f_110_23, f_110_24, f_110_25, p_110_25, f_110_26, f_110_27, f_110_28, f_110_29, f_110_30, f_110_31, p_110_31, f_110_32, p_110_32, f_110_33, p_110_33, f_110_34, p_110_34, f_110_35, f_110_36, f_110_37, f_110_38, e_111, i_111, Option.some.injEq, exists_eq_left', exists_eq_left, Option.toList_some, Option.toList_none, List.cons_append, List.nil_append, true_and, and_true, Option.map_some, Option.map_none, nI_pos (show n < 2 ^ 31 by omega), if_false, r_bit (d := d) (by omega), bit_1 (show n < 32 by omega), r_of4 (d := d) (by omega) hT hW hn, nI_dn]
    by_cases hb : bt (set ||| b) n = true
    · simp only [hb, not_true_eq_false, if_false, if_true]
    · simp only [hb, not_false_eq_true, if_true, Bool.false_eq_true, if_false, Int32.or_zero]) (tM T) 0 (Nat.le_refl _)
  simp only [w_Ref_restsOf_0, w_Ref_restsOf_6, w_Ref_restsOf_8, w_Ref_restsOf_15, w_Ref_restsOf_23, w_Ref_restsOf_27, w_Ref_restsOf_33, w_Ref_restsOf_36, w_Ref_restsOf_37, w_Ref_restsOf_45, c_110, f_110_0, p_110_0, f_110_1, f_110_2, f_110_3, f_110_4, f_110_5, p_110_5, f_110_6, f_110_7, p_110_7, f_110_8, p_110_8, f_110_9, p_110_9, f_110_10, p_110_10, f_110_11, p_110_11, f_110_12, p_110_12, f_110_13, p_110_13, f_110_14, f_110_15, f_110_16, p_110_16, f_110_17, f_110_18, p_110_18, f_110_19, p_110_19, f_110_20, f_110_21, p_110_21, f_110_22, p_110_22, f_110_23, f_110_24, f_110_25, p_110_25, f_110_26, f_110_27, f_110_28, f_110_29, f_110_30, f_110_31, p_110_31, f_110_32, p_110_32, f_110_33, p_110_33, f_110_34, p_110_34, f_110_35, f_110_36, f_110_37, f_110_38, e_111, i_111, Option.some.injEq, exists_eq_left', exists_eq_left, Option.toList_some, Option.toList_none, List.cons_append, List.nil_append, true_and, and_true, Option.map_some, Option.map_none, x_w4 hT]
  refine key.trans ?_
  simp only [w_Ref_restsOf_0, w_Ref_restsOf_6, w_Ref_restsOf_8, w_Ref_restsOf_15, w_Ref_restsOf_23, w_Ref_restsOf_27, w_Ref_restsOf_33, w_Ref_restsOf_36, w_Ref_restsOf_37, w_Ref_restsOf_45, w_Ref_restsOf_11 (l3 := nI 0 - 1), show nI 0 - 1 < 0 by decide, if_true, tRsS]
  exact eq_comm
theorem t_bearsOf (hd : 2 ≤ d) (hT : clsT s 3 T) (hW : tWf T) {m : Nat} (hm : m < tM T) : x_ev g_M P d 100 [.ref 3, .int (nI m)] (mkH xs s) q ↔ q = (some (.int (tBear T m)), mkH xs s) := by
  have w2 := hW.2.1
  have t5 := hT.1.2.2.2.2.2
  obtain ⟨d, rfl⟩ := x_1 (d := d) (by omega)
  rw [x_ev_in rfl (Nat.le_of_ble_eq_true rfl)]
  rw [show x_ent (x_nL g_M 100) [.ref 3, .int (nI m)] = [some (.ref 3), some (.int (nI m))] from rfl]
  simp only [w_Town_bearsOf_0, w_Town_bearsOf_6, w_Town_bearsOf_13, c_3, f_3_0, p_3_0, f_3_1, p_3_1, f_3_2, p_3_2, f_3_3, p_3_3, f_3_4, p_3_4, f_3_5, p_3_5, f_3_6, p_3_6, f_3_7, p_3_7, f_3_8, p_3_8, f_3_9, f_3_10, f_3_11, f_3_12, f_3_13, Option.some.injEq, exists_eq_left', exists_eq_left, Option.toList_some, Option.toList_none, List.cons_append, List.nil_append, true_and, and_true, Option.map_some, Option.map_none, t5, sh1 (tM T) (by omega), t_fallIn (d := d) (by omega) hT hW hm]
  exact eq_comm
theorem r_bearsOf (hd : 3 ≤ d) (hT : refT s 111 0 T) (hW : tWf T) {m : Nat} (hm : m < tM T) : x_ev g_M P d 272 [.ref 110, .int (nI m)] (mkH xs s) q ↔ q = (some (.int (tBear T m)), mkH xs s) := by
  obtain ⟨d, rfl⟩ := x_1 (d := d) (by omega)
  rw [x_ev_in rfl (Nat.le_of_ble_eq_true rfl)]
  rw [show x_ent (x_nL g_M 272) [.ref 110, .int (nI m)] = [some (.ref 110), some (.int (nI m))] from rfl]
  simp only [w_Ref_bearsOf_0, w_Ref_bearsOf_5, w_Ref_bearsOf_9, c_110, f_110_0, p_110_0, f_110_1, f_110_2, f_110_3, f_110_4, f_110_5, p_110_5, f_110_6, f_110_7, p_110_7, f_110_8, p_110_8, f_110_9, p_110_9, f_110_10, p_110_10, f_110_11, p_110_11, f_110_12, p_110_12, f_110_13, p_110_13, f_110_14, f_110_15, f_110_16, p_110_16, f_110_17, f_110_18, p_110_18, f_110_19, p_110_19, f_110_20, f_110_21, p_110_21, f_110_22, p_110_22, f_110_23, f_110_24, f_110_25, p_110_25, f_110_26, f_110_27, f_110_28, f_110_29, f_110_30, f_110_31, p_110_31, f_110_32, p_110_32, f_110_33, p_110_33, f_110_34, p_110_34, f_110_35, f_110_36, f_110_37, f_110_38, Option.some.injEq, exists_eq_left', exists_eq_left, Option.toList_some, Option.toList_none, List.cons_append, List.nil_append, true_and, and_true, Option.map_some, Option.map_none, r_allMatters (d := d) (by omega) hT hW, r_fallIn (d := d) (by omega) hT hW hm]
  exact eq_comm
end SETS
