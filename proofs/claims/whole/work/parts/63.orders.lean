/-! ORDERS of a set: all of them, those that stand, how many, the first (own work) -/
theorem bt_nI {j i : Nat} (hj : j < 2 ^ 32) (hi : i < 32) : bt (nI j) i = j.testBit i := by
  unfold bt nI
  show (BitVec.ofNat 32 j).getLsbD i = _
  rw [BitVec.getLsbD_ofNat]
  simp [hi]
def mnus (x : Int32) (m : Nat) : Int32 := x &&& (on1 m ^^^ (-1))
theorem b_mnus {x : Int32} {m i : Nat} (hm : m < 32) (hi : i < 32) : bt (mnus x m) i = (bt x i && !decide (i = m)) := by
  unfold mnus
  rw [b_and, b_not hi, b_on hm hi]
def lst (n : Nat) (x : Int32) : List Nat := (List.range n).filter (fun m => bt x m)
theorem mem_lst {n : Nat} {x : Int32} {m : Nat} : m ∈ lst n x ↔ m < n ∧ bt x m = true := by
  unfold lst
  rw [List.mem_filter, List.mem_range]
theorem lst_sorted (n : Nat) (x : Int32) : (lst n x).Pairwise (· < ·) := List.Pairwise.filter _ List.pairwise_lt_range
theorem lst_mnus {n : Nat} (hn : n ≤ 8) {x : Int32} {m : Nat} {R1 R2 : List Nat} (h : lst n x = R1 ++ m :: R2) : lst n (mnus x m) = R1 ++ R2 := by
  have hm : m ∈ lst n x := by rw [h]; simp
  have hmn := (mem_lst.mp hm).1
  have hs := lst_sorted n x
  rw [h, List.pairwise_append] at hs
  obtain ⟨s1, s2, s3⟩ := hs
  rw [List.pairwise_cons] at s2
  have e : lst n (mnus x m) = (lst n x).filter (fun i => !decide (i = m)) := by
    unfold lst
    rw [List.filter_filter]
    apply List.filter_congr
    intro i hi
    rw [List.mem_range] at hi
    rw [b_mnus (by omega) (by omega), Bool.and_comm]
  rw [e, h, List.filter_append, List.filter_cons]
  have e1 : R1.filter (fun i => !decide (i = m)) = R1 := by
    rw [List.filter_eq_self]
    intro a ha
    have := s3 a ha m List.mem_cons_self
    simp
    omega
  have e2 : R2.filter (fun i => !decide (i = m)) = R2 := by
    rw [List.filter_eq_self]
    intro a ha
    have := s2.1 a ha
    simp
    omega
  rw [e1, e2]
  simp
/-- all orders of the bits of x -/
def pm (n : Nat) : Nat → Int32 → List (List Nat)
  | 0, _ => [[]]
  | k + 1, x => (lst n x).flatMap (fun m => (pm n k (mnus x m)).map (fun t => m :: t))
theorem pm_mem {n : Nat} (hn : n ≤ 8) : ∀ k x t, (lst n x).length = k → t ∈ pm n k x → t.length = k ∧ t.Nodup ∧ ∀ m, m ∈ t ↔ (m < n ∧ bt x m = true) := by
  intro k
  induction k with
  | zero =>
    intro x t hk ht
    rw [pm, List.mem_singleton] at ht
    subst ht
    refine ⟨rfl, List.nodup_nil, fun m => ?_⟩
    have : lst n x = [] := List.eq_nil_of_length_eq_zero hk
    rw [← mem_lst, this]
  | succ k ih =>
    intro x t hk ht
    rw [pm, List.mem_flatMap] at ht
    obtain ⟨m, hm, ht⟩ := ht
    rw [List.mem_map] at ht
    obtain ⟨u, hu, rfl⟩ := ht
    obtain ⟨R1, R2, hR⟩ := List.append_of_mem hm
    have hl := lst_mnus hn hR
    have hmn := mem_lst.mp hm
    have hk2 : (lst n (mnus x m)).length = k := by
      rw [hl, List.length_append]
      rw [hR, List.length_append, List.length_cons] at hk
      omega
    obtain ⟨u1, u2, u3⟩ := ih _ _ hk2 hu
    refine ⟨by rw [List.length_cons, u1], ?_, fun i => ?_⟩
    · rw [List.nodup_cons]
      refine ⟨?_, u2⟩
      intro hz
      have := (u3 m).mp hz
      rw [b_mnus (by omega) (by omega)] at this
      simp at this
    · rw [List.mem_cons, u3 i]
      constructor
      · rintro (rfl | ⟨h1, h2⟩)
        · exact hmn
        · rw [b_mnus (by omega) (by omega)] at h2
          simp at h2
          exact ⟨h1, h2.1⟩
      · rintro ⟨h1, h2⟩
        by_cases hi : i = m
        · exact Or.inl hi
        · right
          refine ⟨h1, ?_⟩
          rw [b_mnus (by omega) (by omega)]
          simp [h2, hi]
/-- whether one wishes to drink m back, were it its LAST, all of S being settled -/
def wsh (T : Tw) (A : As) (S : Int32) (m p : Nat) : Bool := decide (0 < A.2.2.1) && (decide (0 < A.2.2.2 p) && decide (0 < tGbf T S m p))
def mineM (T : Tw) (p : Nat) : Int32 := mkM (fun m => tIs T p m) (tM T)
def badX (T : Tw) (A : As) (S : Int32) (m : Nat) (y : Int32) (k : Nat) : Bool := wsh T A S m (tPa T m k) && decide ((mineM T (tPa T m k) &&& y) = 0)
def fitX (T : Tw) (A : As) (S dn x : Int32) (m : Nat) : Bool := bt x m && (decide ((tOn T m &&& (dn ^^^ (-1))) = 0) && (!badX T A S m (mnus x m) 0 && !badX T A S m (mnus x m) 1))
def fcX (T : Tw) (A : As) (S : Int32) : Int32 → Int32 → List Nat → Bool
  | _, _, [] => true
  | dn, x, m :: t => fitX T A S dn x m && fcX T A S (dn ||| on1 m) (mnus x m) t
/-- in how many orders the rest x can come behind the done ones -/
def wyX (T : Tw) (A : As) (S : Int32) (k : Nat) (dn x : Int32) : Nat := ((pm (tM T) k x).filter (fun t => fcX T A S dn x t)).length
def hdX (T : Tw) (A : As) (S : Int32) (k : Nat) (dn x : Int32) : Option (List Nat) := ((pm (tM T) k x).filter (fun t => fcX T A S dn x t)).head?
theorem flt_cons (p : List Nat → Bool) (b : Bool) (q : List Nat → Bool) (m : Nat) (h : ∀ t, p (m :: t) = (b && q t)) : ∀ l : List (List Nat), (l.map (fun t => m :: t)).filter p = if b = true then (l.filter q).map (fun t => m :: t) else [] := by
  intro l
  induction l with
  | nil => simp
  | cons t l ih =>
    rw [List.map_cons, List.filter_cons, ih, h t, List.filter_cons]
    cases b
    · simp
    · cases q t <;> simp
theorem flt_fm (n : Nat) (f : Nat → Bool) (g : Nat → List (List Nat)) (p : List Nat → Bool) : ((((List.range n).filter f).flatMap g).filter p).length = nsm (fun m => if f m = true then ((g m).filter p).length else 0) n := by
  induction n with
  | zero => rfl
  | succ n ih =>
    rw [List.range_succ, List.filter_append, List.flatMap_append, List.filter_append, List.length_append, ih, nsm]
    congr 1
    rw [List.filter_cons]
    by_cases h : f n = true
    · rw [if_pos h, if_pos h]
      simp
    · rw [if_neg h, if_neg h]
      simp
theorem wyX_s (T : Tw) (A : As) (S : Int32) (k : Nat) (dn x : Int32) : wyX T A S (k + 1) dn x = nsm (fun m => if fitX T A S dn x m = true then wyX T A S k (dn ||| on1 m) (mnus x m) else 0) (tM T) := by
  unfold wyX
  rw [pm]
  unfold lst
  rw [flt_fm]
  apply nsm_eq
  intro m _
  rw [flt_cons (fun t => fcX T A S dn x t) (fitX T A S dn x m) (fun t => fcX T A S (dn ||| on1 m) (mnus x m) t) m (fun t => rfl)]
  by_cases h1 : bt x m = true
  · rw [if_pos h1]
    by_cases h2 : fitX T A S dn x m = true
    · rw [if_pos h2, if_pos h2, List.length_map]
    · rw [if_neg h2, if_neg h2]
      rfl
  · rw [if_neg h1, if_neg]
    intro h2
    unfold fitX at h2
    simp only [Bool.and_eq_true] at h2
    exact h1 h2.1
theorem nsm_b {f : Nat → Nat} {B : Nat} (h : ∀ i, f i ≤ B) : ∀ n, nsm f n ≤ n * B := by
  intro n
  induction n with
  | zero => simp [nsm]
  | succ n ih =>
    rw [nsm, Nat.succ_mul]
    have := h n
    omega
theorem wyX_b {T : Tw} (hW : tWf T) (A : As) (S : Int32) : ∀ k dn x, wyX T A S k dn x ≤ 8 ^ k := by
  have w2 := hW.2.1
  intro k
  induction k with
  | zero =>
    intro dn x
    unfold wyX
    rw [pm]
    exact Nat.le_trans (List.length_filter_le _ _) (by simp)
  | succ k ih =>
    intro dn x
    rw [wyX_s]
    refine Nat.le_trans (nsm_b (B := 8 ^ k) (fun i => ?_) _) ?_
    · split
      · exact ih _ _
      · exact Nat.zero_le _
    · rw [Nat.pow_succ, Nat.mul_comm (8 ^ k)]
      exact Nat.mul_le_mul_right _ w2
theorem nI_nsm (f : Nat → Nat) : ∀ n, nI (nsm f n) = sm (fun i => nI (f i)) n := by
  intro n
  induction n with
  | zero => rfl
  | succ n ih => rw [nsm, sm, ← ih, nI_add]
theorem hd_fm (f : Nat → Bool) (g : Nat → List (List Nat)) (p : List Nat → Bool) : ∀ n, ((((List.range n).filter f).flatMap g).filter p).head? = (frst (fun m => f m && !((g m).filter p).isEmpty) 0 n).bind (fun m => ((g m).filter p).head?) := by
  intro n
  induction n with
  | zero => rfl
  | succ n ih =>
    rw [List.range_succ, List.filter_append, List.flatMap_append, List.filter_append, List.head?_append, ih, frst_sn]
    cases hf : frst (fun m => f m && !((g m).filter p).isEmpty) 0 n with
    | some m =>
      obtain ⟨-, -, h3, -⟩ := frst_some hf
      simp only [Bool.and_eq_true, Bool.not_eq_true', List.isEmpty_eq_false_iff] at h3
      obtain ⟨a, l, hl⟩ := List.exists_cons_of_ne_nil h3.2
      simp only [Option.bind_some, hl, List.head?_cons, Option.some_or]
    | none =>
      rw [List.filter_cons]
      simp only [Nat.zero_add]
      by_cases h : f n = true
      · rw [if_pos h, show List.flatMap g (n :: List.filter f []) = g n by simp]
        cases hl : (g n).filter p with
        | nil => simp [h, hl]
        | cons a l => simp only [Option.bind_none, Option.none_or, h, hl, List.isEmpty_cons, Bool.not_false, Bool.and_self, if_true, Option.bind_some, List.head?_cons]
      · rw [if_neg h]
        simp [h]
theorem hdX_s (T : Tw) (A : As) (S : Int32) (k : Nat) (dn x : Int32) : hdX T A S (k + 1) dn x = (frst (fun m => fitX T A S dn x m && decide (0 < wyX T A S k (dn ||| on1 m) (mnus x m))) 0 (tM T)).bind (fun m => (hdX T A S k (dn ||| on1 m) (mnus x m)).map (fun t => m :: t)) := by
  have e : ∀ m, ((pm (tM T) k (mnus x m)).map (fun t => m :: t)).filter (fun t => fcX T A S dn x t) = if fitX T A S dn x m = true then ((pm (tM T) k (mnus x m)).filter (fun t => fcX T A S (dn ||| on1 m) (mnus x m) t)).map (fun t => m :: t) else [] := fun m => flt_cons (fun t => fcX T A S dn x t) (fitX T A S dn x m) (fun t => fcX T A S (dn ||| on1 m) (mnus x m) t) m (fun t => rfl) _
  unfold hdX
  rw [pm]
  unfold lst
  rw [hd_fm]
  have e2 : frst (fun m => bt x m && !(((pm (tM T) k (mnus x m)).map (fun t => m :: t)).filter (fun t => fcX T A S dn x t)).isEmpty) 0 (tM T) = frst (fun m => fitX T A S dn x m && decide (0 < wyX T A S k (dn ||| on1 m) (mnus x m))) 0 (tM T) := by
    apply frst_ext
    intro m _ _
    rw [e m]
    by_cases h2 : fitX T A S dn x m = true
    · have h1 : bt x m = true := by
        have h3 := h2
        unfold fitX at h3
        simp only [Bool.and_eq_true] at h3
        exact h3.1
      rw [if_pos h2, h1, h2]
      unfold wyX
      cases (pm (tM T) k (mnus x m)).filter (fun t => fcX T A S (dn ||| on1 m) (mnus x m) t) <;> simp
    · rw [if_neg h2]
      simp [h2]
  rw [e2]
  cases hf : frst (fun m => fitX T A S dn x m && decide (0 < wyX T A S k (dn ||| on1 m) (mnus x m))) 0 (tM T) with
  | none => rfl
  | some m =>
    obtain ⟨-, -, h3, -⟩ := frst_some hf
    simp only [Bool.and_eq_true] at h3
    simp only [Option.bind_some]
    rw [e m, if_pos h3.1, List.head?_map]
theorem hdX_wy (T : Tw) (A : As) (S : Int32) (k : Nat) (dn x : Int32) : (hdX T A S k dn x).isSome = true ↔ 0 < wyX T A S k dn x := by
  unfold hdX wyX
  cases (pm (tM T) k x).filter (fun t => fcX T A S dn x t) <;> simp
/-- what the reference asks of an order -/
def lawN (T : Tw) : Int32 → List Nat → Bool
  | _, [] => true
  | dn, m :: t => decide ((tOn T m &&& (dn ^^^ (-1))) = 0) && lawN T (dn ||| on1 m) t
def lastL (T : Tw) (p : Nat) : List Nat → Option Nat
  | [] => none
  | m :: t => match lastL T p t with
    | some z => some z
    | none => if tIs T p m = true then some m else none
theorem lastL_app (T : Tw) (p m : Nat) : ∀ l, lastL T p (l ++ [m]) = if tIs T p m = true then some m else lastL T p l := by
  intro l
  induction l with
  | nil => simp [lastL]
  | cons a l ih =>
    rw [List.cons_append, lastL, ih]
    by_cases h : tIs T p m = true
    · simp [h]
    · simp only [h]
      rfl
theorem lastN_L (T : Tw) (L : List Nat) (p : Nat) : ∀ n, n ≤ L.length → lastN T L p n = lastL T p (L.take n) := by
  intro n
  induction n with
  | zero => intro _; simp [lastN, lastL]
  | succ n ih =>
    intro hn
    rw [lastN, take_snoc L (by omega), lastL_app, ih (by omega)]
theorem lastL_any (T : Tw) (p : Nat) : ∀ l, (lastL T p l).isSome = l.any (fun m => tIs T p m) := by
  intro l
  induction l with
  | nil => rfl
  | cons a l ih =>
    rw [lastL, List.any_cons, ← ih]
    cases lastL T p l with
    | some z => simp
    | none =>
      by_cases h : tIs T p a = true
      · simp [h]
      · simp [h]
def lokB (T : Tw) (A : As) (S : Int32) : List Nat → Bool
  | [] => true
  | m :: t => (!(wsh T A S m (tPa T m 0) && !t.any (fun i => tIs T (tPa T m 0) i)) && !(wsh T A S m (tPa T m 1) && !t.any (fun i => tIs T (tPa T m 1) i))) && lokB T A S t
theorem lokB_iff {T : Tw} (hW : tWf T) (A : As) (S : Int32) : ∀ l, (∀ m ∈ l, m < tM T) → (lokB T A S l = true ↔ ∀ p, p < tP T → ∀ m, lastL T p l = some m → wsh T A S m p = false) := by
  intro l
  induction l with
  | nil => intro _; simp [lokB, lastL]
  | cons a l ih =>
    intro hl
    have ha := hl a List.mem_cons_self
    have hq := hW.2.2.1 a ha
    have ih := ih (fun m hm => hl m (List.mem_cons_of_mem _ hm))
    rw [lokB, Bool.and_eq_true, ih]
    constructor
    · rintro ⟨h1, h2⟩ p hp m hm
      rw [lastL] at hm
      cases hL : lastL T p l with
      | some z =>
        rw [hL] at hm
        cases hm
        exact h2 p hp m hL
      | none =>
        rw [hL] at hm
        simp only at hm
        split at hm
        · rename_i hi
          cases hm
          have hany : l.any (fun i => tIs T p i) = false := by rw [← lastL_any, hL]; rfl
          unfold tIs at hi
          simp only [Bool.or_eq_true, decide_eq_true_eq] at hi
          simp only [Bool.and_eq_true, Bool.not_eq_true'] at h1
          rcases hi with rfl | rfl
          · have := h1.1
            rw [hany] at this
            simpa using this
          · have := h1.2
            rw [hany] at this
            simpa using this
        · cases hm
    · intro h
      refine ⟨?_, fun p hp m hm => h p hp m (by rw [lastL, hm])⟩
      have key : ∀ k, k < 2 → (wsh T A S a (tPa T a k) && !l.any (fun i => tIs T (tPa T a k) i)) = false := by
        intro k hk
        have hp : tPa T a k < tP T := by
          rcases (show k = 0 ∨ k = 1 by omega) with rfl | rfl
          · exact hq.1
          · exact hq.2.1
        have his : tIs T (tPa T a k) a = true := by
          unfold tIs
          rcases (show k = 0 ∨ k = 1 by omega) with rfl | rfl <;> simp
        cases hany : l.any (fun i => tIs T (tPa T a k) i) with
        | true => simp
        | false =>
          have hn : lastL T (tPa T a k) l = none := by
            have := lastL_any T (tPa T a k) l
            rw [hany] at this
            simpa using this
          have := h _ hp a (by rw [lastL, hn]; simp [his])
          simp [this]
      rw [key 0 (by omega), key 1 (by omega)]
      rfl
theorem i_pos1 (x : Int32) : x < 1 ↔ ¬ 0 < x := by
  rw [Int32.lt_iff_toInt_lt, Int32.lt_iff_toInt_lt]
  have e1 : (1 : Int32).toInt = 1 := rfl
  have e0 : (0 : Int32).toInt = 0 := rfl
  omega
theorem aWil_wsh {T : Tw} {A : As} {σ : List Nat} {p : Nat} : aWil T (σ, 0, A.2.2.1, A.2.2.2) p = (match lastL T p σ with
    | none => false
    | some m => wsh T A (msk σ) m p) := by
  have hl : aLast T (σ, 0, A.2.2.1, A.2.2.2) p = lastL T p σ := by
    unfold aLast
    rw [lastN_L T σ p _ (Nat.le_refl _), List.take_length]
  unfold aWil aWhy
  rw [hl]
  cases lastL T p σ with
  | none => rfl
  | some m =>
    simp only [b_0, Bool.false_eq_true, if_false, i_pos1]
    unfold wsh tGbf
    by_cases h1 : tDry T m = true
    · simp [h1]
    · by_cases h3 : 0 < A.2.2.2 p
      · by_cases h4 : 0 < A.2.2.1
        · by_cases h5 : tAgr T (tOth T p m) m (-tSum T (tOth T p m) (tFall T (msk σ) m)) = true
          · simp [h1, h3, h4, h5]
          · simp [h1, h3, h4, h5]
        · simp [h1, h3, h4]
      · simp [h1, h3]
theorem rest_lok {T : Tw} (hW : tWf T) {A : As} {σ : List Nat} (hσ : ∀ m ∈ σ, m < tM T) : (frst (fun p => aWil T (σ, 0, A.2.2.1, A.2.2.2) p) 0 (tP T)).isNone = lokB T A (msk σ) σ := by
  have h := lokB_iff hW A (msk σ) σ hσ
  cases hf : frst (fun p => aWil T (σ, 0, A.2.2.1, A.2.2.2) p) 0 (tP T) with
  | none =>
    have hn := frst_none hf
    have : lokB T A (msk σ) σ = true := h.mpr (fun p hp m hm => by
      have := hn p (by omega) (by omega)
      rw [aWil_wsh, hm] at this
      exact this)
    rw [this]
    rfl
  | some p =>
    obtain ⟨-, h2, h3, -⟩ := frst_some hf
    rw [aWil_wsh] at h3
    cases hm : lastL T p σ with
    | none => rw [hm] at h3; cases h3
    | some m =>
      rw [hm] at h3
      have : ¬ lokB T A (msk σ) σ = true := fun z => by
        have := h.mp z p (by omega) m hm
        have h4 : wsh T A (msk σ) m p = true := h3
        rw [this] at h4
        cases h4
      simp only [Option.isNone_some]
      simpa using this
theorem mine_any {T : Tw} (hW : tWf T) {p : Nat} {y : Int32} {t : List Nat} (ht : ∀ m, m ∈ t ↔ (m < tM T ∧ bt y m = true)) : decide ((mineM T p &&& y) = 0) = !t.any (fun i => tIs T p i) := by
  have w2 := hW.2.1
  by_cases h : (mineM T p &&& y) = 0
  · have : t.any (fun i => tIs T p i) = false := by
      rw [List.any_eq_false]
      intro i hi his
      obtain ⟨h1, h2⟩ := (ht i).mp hi
      have := b_eq0.mp h i (by omega)
      rw [b_and, h2, Bool.and_true] at this
      unfold mineM at this
      rw [b_mkM (by omega) _ (by omega)] at this
      simp [h1, his] at this
    rw [this]
    simp [h]
  · obtain ⟨i, hi, hb⟩ := b_ne0.mp h
    rw [b_and, Bool.and_eq_true] at hb
    obtain ⟨hb1, hb2⟩ := hb
    unfold mineM at hb1
    rw [b_mkM hi _ (by omega)] at hb1
    simp only [Bool.and_eq_true, decide_eq_true_eq] at hb1
    have : t.any (fun i => tIs T p i) = true := by
      rw [List.any_eq_true]
      exact ⟨i, (ht i).mpr ⟨hb1.1, hb2⟩, hb1.2⟩
    rw [this]
    simp [h]
theorem fcX_ok {T : Tw} (hW : tWf T) (A : As) (S : Int32) : ∀ k dn x t, (lst (tM T) x).length = k → t ∈ pm (tM T) k x → fcX T A S dn x t = (lawN T dn t && lokB T A S t) := by
  have w2 := hW.2.1
  intro k
  induction k with
  | zero =>
    intro dn x t hk ht
    rw [pm, List.mem_singleton] at ht
    subst ht
    rfl
  | succ k ih =>
    intro dn x t hk ht
    rw [pm, List.mem_flatMap] at ht
    obtain ⟨m, hm, ht⟩ := ht
    rw [List.mem_map] at ht
    obtain ⟨u, hu, rfl⟩ := ht
    obtain ⟨R1, R2, hR⟩ := List.append_of_mem hm
    have hk2 : (lst (tM T) (mnus x m)).length = k := by
      rw [lst_mnus w2 hR, List.length_append]
      rw [hR, List.length_append, List.length_cons] at hk
      omega
    have hmm := (pm_mem w2 k (mnus x m) u hk2 hu).2.2
    rw [fcX, ih _ _ _ hk2 hu, lawN, lokB]
    unfold fitX badX
    rw [mine_any hW hmm, mine_any hW hmm, (mem_lst.mp hm).2, Bool.true_and]
    cases decide ((tOn T m &&& (dn ^^^ (-1))) = 0) <;> cases lawN T (dn ||| on1 m) u <;> simp
theorem msk_pm {T : Tw} (hW : tWf T) {S : Int32} {σ : List Nat} {k : Nat} (hS : ∀ i, i < 32 → tM T ≤ i → bt S i = false) (hk : (lst (tM T) S).length = k) (h : σ ∈ pm (tM T) k S) : msk σ = S := by
  have w2 := hW.2.1
  have hm := (pm_mem w2 k S σ hk h).2.2
  apply b_ext
  intro i hi
  rw [b_msk hi (fun x hx => by have := ((hm x).mp hx).1; omega)]
  by_cases h1 : i < tM T
  · by_cases h2 : bt S i = true
    · rw [h2]
      simp [(hm i).mpr ⟨h1, h2⟩]
    · have h3 : ¬ i ∈ σ := fun z => h2 ((hm i).mp z).2
      simp only [Bool.not_eq_true] at h2
      rw [h2]
      simp [h3]
  · rw [hS i hi (by omega)]
    have h3 : ¬ i ∈ σ := fun z => h1 ((hm i).mp z).1
    simp [h3]
/-- an order that is lawful and rests -/
def okR (T : Tw) (A : As) (σ : List Nat) : Bool := lawN T 0 σ && (frst (fun p => aWil T (σ, 0, A.2.2.1, A.2.2.2) p) 0 (tP T)).isNone
theorem okR_fc {T : Tw} (hW : tWf T) {A : As} {S : Int32} {σ : List Nat} (hS : ∀ i, i < 32 → tM T ≤ i → bt S i = false) (h : σ ∈ pm (tM T) (lst (tM T) S).length S) : okR T A σ = fcX T A S 0 S σ := by
  have hm := (pm_mem hW.2.1 _ S σ rfl h).2.2
  rw [fcX_ok hW A S _ 0 S σ rfl h]
  unfold okR
  rw [rest_lok hW (fun m hmm => ((hm m).mp hmm).1), msk_pm hW hS rfl h]
theorem law_clo {T : Tw} (hW : tWf T) {S : Int32} : ∀ t dn, lawN T dn t = true → (∀ i, i < 32 → bt dn i = true → bt S i = true) → (∀ m ∈ t, m < tM T ∧ bt S m = true) → ∀ m ∈ t, (tOn T m &&& (S ^^^ (-1))) = 0 := by
  have w2 := hW.2.1
  intro t
  induction t with
  | nil => intro dn _ _ _ m hm; cases hm
  | cons a t ih =>
    intro dn h1 h2 h3 m hm
    rw [lawN, Bool.and_eq_true, decide_eq_true_eq] at h1
    have ha := h3 a List.mem_cons_self
    rcases List.mem_cons.mp hm with rfl | hm
    · rw [b_eq0]
      intro i hi
      have := b_eq0.mp h1.1 i hi
      rw [b_and, b_not hi] at this ⊢
      cases ho : bt (tOn T m) i
      · rfl
      · rw [ho, Bool.true_and, Bool.not_eq_false'] at this
        rw [h2 i hi this]
        rfl
    · exact ih (dn ||| on1 a) h1.2 (fun i hi hb => by
        rw [b_or, b_on (by omega) hi, Bool.or_eq_true, decide_eq_true_eq] at hb
        rcases hb with hb | rfl
        · exact h2 i hi hb
        · exact ha.2) (fun x hx => h3 x (List.mem_cons_of_mem _ hx)) m hm
