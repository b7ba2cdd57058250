/-! elected (own work) -/
section LOOPS5
variable {C : Nat → List Value → xH → Option Value × xH → Prop} {k : Nat}
theorem x_fstO {r : Option Value × xH} {β : Type} {N : Nat} {F : Nat → β → xF} {f : Nat → Bool} {K : Nat → Prop} {E : Prop} (hs : ∀ m o, m < N → f m = false → ∃ o', (x_R C k (F m o) r ↔ x_R C k (F (m + 1) o') r)) (hx : ∀ m o, m < N → f m = true → (x_R C k (F m o) r ↔ K m)) (he : ∀ o, x_R C k (F N o) r ↔ E) :
    ∀ n i o, i + n = N → (x_R C k (F i o) r ↔ (match frst f i n with | none => E | some m => K m)) := by
  intro n
  induction n with
  | zero => intro i o hi; obtain rfl : i = N := by omega
            exact he o
  | succ n ih =>
    intro i o hi
    rw [frst]
    by_cases hf : f i = true
    · rw [if_pos hf]
      exact hx i o (by omega) hf
    · rw [if_neg hf]
      obtain ⟨o', e⟩ := hs i o (by omega) (by simpa using hf)
      exact e.trans (ih (i + 1) o' (by omega))
/-- a loop upwards with what holds at each turn -/
theorem x_upY {β : Type} {N : Nat} {F : Nat → β → xF} {R : Nat → β → Prop} (hs : ∀ m o, m < N → R m o → ∃ o', R (m + 1) o' ∧ ∀ r, (x_R C k (F m o) r ↔ x_R C k (F (m + 1) o') r)) : ∀ n m o, m + n = N → R m o → ∃ o', R N o' ∧ ∀ r, (x_R C k (F m o) r ↔ x_R C k (F N o') r) := by
  intro n
  induction n with
  | zero => intro m o h hR; obtain rfl : m = N := by omega
            exact ⟨o, hR, fun _ => Iff.rfl⟩
  | succ n ih =>
    intro m o h hR
    obtain ⟨o', hR', e⟩ := hs m o (by omega) hR
    obtain ⟨o2, hR2, e2⟩ := ih (m + 1) o' (by omega) hR'
    exact ⟨o2, hR2, fun r => (e r).trans (e2 r)⟩
end LOOPS5
theorem frst_no {f : Nat → Bool} : ∀ {n i : Nat}, (∀ k, i ≤ k → k < i + n → f k = false) → frst f i n = none := by
  intro n
  induction n with
  | zero => intro i _; rfl
  | succ n ih =>
    intro i h
    rw [frst, h i (Nat.le_refl _) (by omega)]
    exact ih (fun k h1 h2 => h k (by omega) (by omega))
theorem frst_sn (f : Nat → Bool) : ∀ n i, frst f i (n + 1) = match frst f i n with
    | some m => some m
    | none => if f (i + n) = true then some (i + n) else none := by
  intro n
  induction n with
  | zero => intro i; simp [frst]
  | succ n ih =>
    intro i
    rw [frst]
    by_cases hf : f i = true
    · rw [if_pos hf]
      have : frst f i (n + 1) = some i := by rw [frst, if_pos hf]
      rw [this]
    · rw [if_neg hf, ih (i + 1)]
      have : frst f i (n + 1) = frst f (i + 1) n := by rw [frst, if_neg hf]
      rw [this, show i + 1 + n = i + (n + 1) by omega]
theorem fL_mem (T : Tw) : ∀ n x, x ∈ fL T n ↔ (x < n ∧ tFirm T (nI x) = true) := by
  intro n
  induction n with
  | zero => intro x; simp [fL]
  | succ n ih =>
    intro x
    rw [fL]
    by_cases hf : tFirm T (nI n) = true
    · rw [if_pos hf, List.mem_append, List.mem_singleton, ih]
      constructor
      · rintro (h | rfl)
        · exact ⟨by omega, h.2⟩
        · exact ⟨by omega, hf⟩
      · rintro ⟨h1, h2⟩
        by_cases h3 : x = n
        · exact Or.inr h3
        · exact Or.inl ⟨by omega, h2⟩
    · rw [if_neg hf, ih]
      constructor
      · rintro h; exact ⟨by omega, h.2⟩
      · rintro ⟨h1, h2⟩
        have h3 : x ≠ n := by rintro rfl; exact hf h2
        exact ⟨by omega, h2⟩
theorem fL_first (T : Tw) (g : Nat → Bool) : ∀ n, (frst (fun i => g (lo (fL T n) i)) 0 (fL T n).length).map (lo (fL T n)) = frst (fun x => tFirm T (nI x) && g x) 0 n := by
  intro n
  induction n with
  | zero => rfl
  | succ n ih =>
    rw [frst_sn, ← ih, fL]
    by_cases hf : tFirm T (nI n) = true
    · rw [if_pos hf, List.length_append, List.length_singleton, frst_sn]
      have e : lo (fL T n ++ [n]) (fL T n).length = n := by rw [lo_app _ n (by simp), if_neg (Nat.lt_irrefl _)]
      rw [frst_ext (g := fun i => g (lo (fL T n) i)) (fun k _ hk => by show g (lo (fL T n ++ [n]) k) = g (lo (fL T n) k); rw [lo_ap (by omega)])]
      cases hq : frst (fun i => g (lo (fL T n) i)) 0 (fL T n).length with
      | some m =>
        obtain ⟨-, hm, -⟩ := frst_some hq
        simp only [Option.map_some]
        rw [lo_ap (by omega)]
      | none =>
        simp only [Option.map_none, Nat.zero_add, e, hf, Bool.true_and]
        split
        · simp [e]
        · rfl
    · rw [if_neg hf]
      cases hq : frst (fun i => g (lo (fL T n) i)) 0 (fL T n).length with
      | some m => rfl
      | none => simp [hf]
def sgE (x : Int32) : Int32 := (x >>> (31 &&& 31)) ||| (Int32.toUInt32 (-x) >>> (Int32.toUInt32 31 &&& Int32.toUInt32 31)).toInt32
set_option maxRecDepth 100000 in
theorem sgE_p : ∀ n, n < 1600 → sgE (nI n) = (if n = 0 then 0 else 1) := by decide +kernel
set_option maxRecDepth 100000 in
theorem sgE_n : ∀ n, n < 1600 → sgE (-(nI n)) = (if n = 0 then 0 else -1) := by decide +kernel
theorem toInt_add_s {a b : Int32} {m n : Int} (ha : -m ≤ a.toInt ∧ a.toInt ≤ m) (hb : -n ≤ b.toInt ∧ b.toInt ≤ n) (h : m + n < 2 ^ 31) : (a + b).toInt = a.toInt + b.toInt := by
  rw [Int32.toInt_add]
  apply Int.bmod_eq_of_le <;> omega
theorem toInt_sub_s {a b : Int32} {m n : Int} (ha : -m ≤ a.toInt ∧ a.toInt ≤ m) (hb : -n ≤ b.toInt ∧ b.toInt ≤ n) (h : m + n < 2 ^ 31) : (a - b).toInt = a.toInt - b.toInt := by
  rw [Int32.toInt_sub]
  apply Int.bmod_eq_of_le <;> omega
theorem tSum_bd {T : Tw} (hK : tOk T) (p : Nat) (set : Int32) : -792 ≤ (tSum T p set).toInt ∧ (tSum T p set).toInt ≤ 792 := by
  have w2 := hK.1.2.1
  have hg := hK.2.2.2.2.2.1
  have g1 : ∀ m, m < tM T → -99 ≤ (if bt set m = true then tGain T p m else 0).toInt ∧ (if bt set m = true then tGain T p m else 0).toInt ≤ 99 := by
    intro m hm
    have a0 := hg m hm 0 (by omega)
    have a1 := hg m hm 1 (by omega)
    rw [Int32.le_iff_toInt_le, Int32.le_iff_toInt_le] at a0 a1
    have e1 : (-99 : Int32).toInt = -99 := rfl
    have e2 : (99 : Int32).toInt = 99 := rfl
    have e0 : (0 : Int32).toInt = 0 := rfl
    rw [e1, e2] at a0 a1
    split
    · unfold tGain
      split
      · exact a0
      · split
        · exact a1
        · rw [e0]; omega
    · rw [e0]; omega
  have key : ∀ n, n ≤ tM T → -(99 * (n : Int)) ≤ (sm (fun m => if bt set m = true then tGain T p m else 0) n).toInt ∧ (sm (fun m => if bt set m = true then tGain T p m else 0) n).toInt ≤ 99 * n := by
    intro n
    induction n with
    | zero => intro _; simp [sm]
    | succ n ih =>
      intro hn
      have i1 := ih (by omega)
      have i2 := g1 n (by omega)
      rw [sm, toInt_add_s i1 i2 (by omega)]
      omega
  have := key (tM T) (Nat.le_refl _)
  unfold tSum
  omega
theorem sgE_s {a b : Int32} (ha : -792 ≤ a.toInt ∧ a.toInt ≤ 792) (hb : -792 ≤ b.toInt ∧ b.toInt ≤ 792) : sgE (a - b) = (if b < a then 1 else 0) - (if a < b then 1 else 0) := by
  have e := toInt_sub_s (m := 792) (n := 792) ha hb (by omega)
  have l1 : b < a ↔ b.toInt < a.toInt := Int32.lt_iff_toInt_lt
  have l2 : a < b ↔ a.toInt < b.toInt := Int32.lt_iff_toInt_lt
  by_cases h : 0 ≤ (a - b).toInt
  · have e2 : a - b = nI ((a - b).toInt.toNat) := by
      apply Int32.toInt_inj.mp
      rw [nI_toInt (by omega)]
      omega
    rw [e2, sgE_p _ (by omega)]
    by_cases h0 : a.toInt = b.toInt
    · rw [if_pos (by omega), if_neg (fun z => by have := l1.mp z; omega), if_neg (fun z => by have := l2.mp z; omega)]; rfl
    · rw [if_neg (by omega), if_pos (l1.mpr (by omega)), if_neg (fun z => by have := l2.mp z; omega)]; rfl
  · have e2 : a - b = -(nI ((b - a).toInt.toNat)) := by
      have e3 := toInt_sub_s (m := 792) (n := 792) hb ha (by omega)
      apply Int32.toInt_inj.mp
      rw [Int32.toInt_neg, nI_toInt (by omega)]
      rw [Int.bmod_eq_of_le (by omega) (by omega)]
      omega
    have e3 := toInt_sub_s (m := 792) (n := 792) hb ha (by omega)
    rw [e2, sgE_n _ (by omega), if_neg (by omega), if_neg (fun z => by have := l1.mp z; omega), if_pos (l2.mpr (by omega))]
    rfl
def ldr (T : Tw) (a b : Int32) : Int32 := sm (fun p => sgE (tSum T p a - tSum T p b)) (tP T)
def cnt2 (T : Tw) (a b : Int32) : Int32 := sm (fun k => if bt (mkM (fun p => decide (tSum T p b < tSum T p a)) (tP T)) k = true then 1 else 0) 8
theorem cnt2_eq {T : Tw} (hW : tWf T) (a b : Int32) : cnt2 T a b = sm (fun p => if tSum T p b < tSum T p a then 1 else 0) (tP T) := by
  have w1 := hW.1
  unfold cnt2
  have e : ∀ k, k < 8 → (if bt (mkM (fun p => decide (tSum T p b < tSum T p a)) (tP T)) k = true then (1 : Int32) else 0) = if k < tP T ∧ tSum T k b < tSum T k a then 1 else 0 := by
    intro k hk
    rw [b_mkM (by omega) _ (by omega)]
    simp
  rw [sm_eq e]
  have key : ∀ n, n ≤ 8 → sm (fun k => if k < tP T ∧ tSum T k b < tSum T k a then (1 : Int32) else 0) n = sm (fun p => if tSum T p b < tSum T p a then 1 else 0) (min n (tP T)) := by
    intro n
    induction n with
    | zero => intro _; simp [sm]
    | succ n ih =>
      intro hn
      rw [sm, ih (by omega)]
      by_cases h : n < tP T
      · rw [show min (n + 1) (tP T) = n + 1 by omega, show min n (tP T) = n by omega, sm]
        simp [h]
      · rw [show min (n + 1) (tP T) = tP T by omega, show min n (tP T) = tP T by omega]
        simp [h]
  rw [key 8 (Nat.le_refl _), show min 8 (tP T) = tP T by omega]
theorem sm_sub (f g : Nat → Int32) : ∀ n, sm (fun i => f i - g i) n = sm f n - sm g n := by
  intro n
  induction n with
  | zero => simp [sm]
  | succ n ih =>
    rw [sm, sm, sm, ih]
    simp only [Int32.sub_eq_add_neg, Int32.neg_add]
    ac_rfl
theorem ldr_lt {T : Tw} (hK : tOk T) (a b : Int32) : ldr T a b < 0 ↔ cnt2 T a b < cnt2 T b a := by
  have w1 := hK.1.1
  rw [cnt2_eq hK.1, cnt2_eq hK.1]
  unfold ldr
  rw [sm_eq (fun p _ => sgE_s (tSum_bd hK p a) (tSum_bd hK p b)), sm_sub]
  obtain ⟨x, hx, ex⟩ := sm01 (fun p => decide (tSum T p b < tSum T p a)) (tP T) (by omega)
  obtain ⟨y, hy, ey⟩ := sm01 (fun p => decide (tSum T p a < tSum T p b)) (tP T) (by omega)
  simp only [decide_eq_true_eq] at ex ey
  rw [ex, ey]
  rw [Int32.lt_iff_toInt_lt, nI_ltI (by omega) (by omega), pk_sub_toInt (by omega) (by omega)]
  show (x : Int) - y < 0 ↔ _
  omega
/-- none that is FIRM beats it -/
def ubR (T : Tw) (N n : Nat) : Bool := (frst (fun o => tFirm T (nI o) && decide (cnt2 T (nI n) (nI o) < cnt2 T (nI o) (nI n))) 0 N).isNone
def ubC (T : Tw) (L : List Nat) (x : Nat) : Bool := (frst (fun k => decide (ldr T (nI x) (nI (lo L k)) < 0)) 0 L.length).isNone
theorem mem_lo {L : List Nat} {x : Nat} (h : x ∈ L) : ∃ i, i < L.length ∧ lo L i = x := by
  obtain ⟨i, hi, e⟩ := List.getElem_of_mem h
  refine ⟨i, hi, ?_⟩
  unfold lo
  rw [List.getD_eq_getElem?_getD, List.getElem?_eq_getElem hi, e]
  rfl
theorem ubC_R {T : Tw} (hK : tOk T) (N x : Nat) : ubC T (fL T N) x = ubR T N x := by
  unfold ubC ubR
  rw [Bool.eq_iff_iff, Option.isNone_iff_eq_none, Option.isNone_iff_eq_none]
  constructor
  · intro h
    refine frst_no (fun k _ hk => ?_)
    cases hf : tFirm T (nI k)
    · rfl
    · obtain ⟨i, hi, e⟩ := mem_lo ((fL_mem T N k).mpr ⟨by omega, hf⟩)
      have := frst_none h i (by omega) (by omega)
      rw [e] at this
      simp only [decide_eq_false_iff_not, ldr_lt hK] at this
      simp [this]
  · intro h
    refine frst_no (fun k _ hk => ?_)
    have hm := (fL_mem T N _).mp (lo_mem (L := fL T N) (i := k) (by omega))
    have := frst_none h (lo (fL T N) k) (by omega) (by omega)
    rw [hm.2, Bool.true_and] at this
    simp only [decide_eq_false_iff_not] at this ⊢
    rw [ldr_lt hK]
    exact this
def elc (T : Tw) (N : Nat) : Int32 := optI (frst (fun x => tFirm T (nI x) && ubR T N x) 0 N)
theorem elc_c {T : Tw} (hK : tOk T) (N : Nat) : (frst (fun i => ubC T (fL T N) (lo (fL T N) i)) 0 (fL T N).length).elim (-1) (fun i => nI (lo (fL T N) i)) = elc T N := by
  unfold elc
  rw [← fL_first T (fun x => ubR T N x) N]
  rw [frst_ext (g := fun i => ubR T N (lo (fL T N) i)) (fun k _ _ => ubC_R hK N _)]
  cases frst (fun i => ubR T N (lo (fL T N) i)) 0 (fL T N).length <;> rfl
/-- the SUMS of the first i of some sets -/
def suI (T : Tw) (x i : Nat) (s : xS) : Nat → xS := fo (fun p s' => s_p s' 29 (i * 6 + p) (tSum T p (nI x))) s
def suS (T : Tw) (L : List Nat) (s : xS) : Nat → xS := fo (fun i s' => suI T (lo L i) i s' (tP T)) s
theorem suI_f (T : Tw) (x i : Nat) (s : xS) : ∀ n, (∀ q, q ≠ 29 → (suI T x i s n).1 q = s.1 q) ∧ (suI T x i s n).2 = s.2 ∧ (∀ p, p < n → (suI T x i s n).1 29 (i * 6 + p) = tSum T p (nI x)) ∧ ∀ k, k < i * 6 → (suI T x i s n).1 29 k = s.1 29 k := by
  intro n
  induction n with
  | zero => exact ⟨fun _ _ => rfl, rfl, fun p hp => absurd hp (Nat.not_lt_zero _), fun _ _ => rfl⟩
  | succ n ih =>
    obtain ⟨i1, i2, i3, i4⟩ := ih
    have e : suI T x i s (n + 1) = s_p (suI T x i s n) 29 (i * 6 + n) (tSum T n (nI x)) := rfl
    rw [e]
    refine ⟨fun q hq => ?_, i2, fun p hp => ?_, fun k hk => ?_⟩
    · rw [← i1 q hq]; funext k; simp [s_p, hq]
    · by_cases h : p = n
      · subst h; simp [s_p]
      · rw [← i3 p (by omega)]
        have : ¬ i * 6 + p = i * 6 + n := by omega
        simp [s_p]
        omega
    · rw [← i4 k hk]
      have : ¬ k = i * 6 + n := by omega
      simp [s_p, this]
theorem suS_f {T : Tw} (hW : tWf T) (L : List Nat) (s : xS) : ∀ n, (∀ q, q ≠ 29 → (suS T L s n).1 q = s.1 q) ∧ (suS T L s n).2 = s.2 ∧ ∀ i, i < n → ∀ p, p < tP T → (suS T L s n).1 29 (i * 6 + p) = tSum T p (nI (lo L i)) := by
  have w1 := hW.1
  intro n
  induction n with
  | zero => exact ⟨fun _ _ => rfl, rfl, fun i hi => absurd hi (Nat.not_lt_zero _)⟩
  | succ n ih =>
    obtain ⟨i1, i2, i3⟩ := ih
    have e : suS T L s (n + 1) = suI T (lo L n) n (suS T L s n) (tP T) := rfl
    rw [e]
    obtain ⟨j1, j2, j3, j4⟩ := suI_f T (lo L n) n (suS T L s n) (tP T)
    refine ⟨fun q hq => (j1 q hq).trans (i1 q hq), j2.trans i2, fun i hi p hp => ?_⟩
    by_cases h : i = n
    · subst h; exact j3 p hp
    · rw [j4 _ (by omega)]; exact i3 i (by omega) p hp
section ELECT
variable {P : Nat → List Value → Option Value} {d : Nat} {xs : List Int32} {s : xS} {T : Tw}
theorem t_signum (hd : 1 ≤ d) (x : Int32) {q : Option Value × xH} : x_ev g_M P d 339 [.int x] (mkH xs s) q ↔ q = (some (.int (sgE x)), mkH xs s) := by
  obtain ⟨d, rfl⟩ := x_1 (d := d) (by omega)
  rw [x_ev_in rfl (Nat.le_of_ble_eq_true rfl)]
  rw [show x_ent (x_nL g_M 339) [.int x] = [some (.int x)] from rfl]
  simp only [w_Integer_signum_0f7a4_0]
  exact eq_comm
theorem s_isUnbeaten (hd : 2 ≤ d) (hT : clsT s 3 T) (hW : tWf T) {L : List Nat} (hL : L.length ≤ 256) (h7 : s.1 25 7 = nI L.length) (hs : ∀ i, i < L.length → ∀ p, p < tP T → s.1 29 (i * 6 + p) = tSum T p (nI (lo L i))) {i : Nat} (hi : i < L.length) {q : Option Value × xH} : x_ev g_M P d 53 [.ref 25, .int (nI i)] (mkH xs s) q ↔ q = (some (.int (b01 (ubC T L (lo L i)))), mkH xs s) := by
  have w1 := hW.1
  have t4 := hT.1.2.2.2.2.1
  obtain ⟨d, rfl⟩ := x_1 (d := d) (by omega)
  rw [x_ev_in rfl (Nat.le_of_ble_eq_true rfl)]
  rw [show x_ent (x_nL g_M 53) [.ref 25, .int (nI i)] = [some (.ref 25), some (.int (nI i)), none, none, none] from rfl]
  rw [w_Sets_isUnbeaten_0]
  have inner : ∀ k, k < L.length → (x_R (x_ev g_M P d) 53 (15, [some (.ref 25), some (.int (nI i)), some (.int (nI k)), some (.int 0), some (.int 0)], [], mkH xs s) q ↔ x_R (x_ev g_M P d) 53 (64, [some (.ref 25), some (.int (nI i)), some (.int (nI k)), some (.int (ldr T (nI (lo L i)) (nI (lo L k)))), some (.int (nI (tP T)))], [], mkH xs s) q) := by
    intro k hk
    have key := x_up (C := x_ev g_M P d) (k := 53) (r := q) (N := tP T) (F := fun p => (15, [some (.ref 25), some (.int (nI i)), some (.int (nI k)), some (.int (sm (fun p => sgE (tSum T p (nI (lo L i)) - tSum T p (nI (lo L k)))) p)), some (.int (nI p))], [], mkH xs s)) (fun p hp => by
      have hc : ¬ nI (tP T) ≤ nI p := nI_ge hp (by omega)
      have e1 : x_rd (s.1 29) 1536 (nI i * 6 + nI p) = some (tSum T p (nI (lo L i))) := by rw [show (6 : Int32) = nI 6 from rfl, pk_mul, nI_add, x_rd_nI (by omega) (by omega), hs i hi p hp]
      have e2 : x_rd (s.1 29) 1536 (nI k * 6 + nI p) = some (tSum T p (nI (lo L k))) := by rw [show (6 : Int32) = nI 6 from rfl, pk_mul, nI_add, x_rd_nI (by omega) (by omega), hs k hk p hp]
      simp only [w_Sets_isUnbeaten_0, w_Sets_isUnbeaten_7, w_Sets_isUnbeaten_10, w_Sets_isUnbeaten_21, w_Sets_isUnbeaten_24, w_Sets_isUnbeaten_27, w_Sets_isUnbeaten_32, w_Sets_isUnbeaten_40, w_Sets_isUnbeaten_44, w_Sets_isUnbeaten_52, w_Sets_isUnbeaten_56, w_Sets_isUnbeaten_64, w_Sets_isUnbeaten_68, w_Sets_isUnbeaten_70, w_Sets_isUnbeaten_76, w_Sets_isUnbeaten_15 (l4 := nI p), c_3, f_3_0, p_3_0, f_3_1, p_3_1, f_3_2, p_3_2, f_3_3, p_3_3, f_3_4, p_3_4, f_3_5, p_3_5, f_3_6, p_3_6, f_3_7, p_3_7, f_3_8, p_3_8, f_3_9, f_3_10, f_3_11, f_3_12, f_3_13, c_25, f_25_0, f_25_1, f_25_2, f_25_3, f_25_4, f_25_5, f_25_6, f_25_7, p_25_7, e_29, i_29, Option.some.injEq, exists_eq_left', exists_eq_left, Option.toList_some, Option.toList_none, List.cons_append, List.nil_append, true_and, and_true, Option.map_some, Option.map_none, t4, hc, if_false, e1, e2, t_signum (d := d) (by omega), nI_1, sm]) 0 (Nat.zero_le _)
    refine key.trans ?_
    simp only [w_Sets_isUnbeaten_15 (l4 := nI (tP T)), w_Sets_isUnbeaten_21, w_Sets_isUnbeaten_24, c_3, f_3_0, p_3_0, f_3_1, p_3_1, f_3_2, p_3_2, f_3_3, p_3_3, f_3_4, p_3_4, f_3_5, p_3_5, f_3_6, p_3_6, f_3_7, p_3_7, f_3_8, p_3_8, f_3_9, f_3_10, f_3_11, f_3_12, f_3_13, c_25, f_25_0, f_25_1, f_25_2, f_25_3, f_25_4, f_25_5, f_25_6, f_25_7, p_25_7, e_29, i_29, Option.some.injEq, exists_eq_left', exists_eq_left, Option.toList_some, Option.toList_none, List.cons_append, List.nil_append, true_and, and_true, Option.map_some, Option.map_none, t4, show nI (tP T) ≤ nI (tP T) from Int32.le_refl _, if_true]
    exact Iff.rfl
  have key := x_fstO (C := x_ev g_M P d) (k := 53) (r := q) (N := L.length) (f := fun k => decide (ldr T (nI (lo L i)) (nI (lo L k)) < 0)) (K := fun _ => q = (some (.int 0), mkH xs s)) (E := q = (some (.int 1), mkH xs s)) (F := fun k (o : Option Value × Option Value) => (2, [some (.ref 25), some (.int (nI i)), some (.int (nI k)), o.1, o.2], [], mkH xs s)) (fun k o hk hf => ⟨(some (.int (ldr T (nI (lo L i)) (nI (lo L k)))), some (.int (nI (tP T)))), by
      have hc : ¬ nI L.length ≤ nI k := nI_ge hk (by omega)
      have h0 : 0 ≤ ldr T (nI (lo L i)) (nI (lo L k)) := Int32.not_lt.mp (by simpa using hf)
      simp only [w_Sets_isUnbeaten_2 (l2 := nI k), w_Sets_isUnbeaten_7, w_Sets_isUnbeaten_10, c_25, f_25_0, f_25_1, f_25_2, f_25_3, f_25_4, f_25_5, f_25_6, f_25_7, p_25_7, Option.some.injEq, exists_eq_left', exists_eq_left, Option.toList_some, Option.toList_none, List.cons_append, List.nil_append, true_and, and_true, Option.map_some, Option.map_none, h7, hc, if_false, inner k hk, w_Sets_isUnbeaten_64, h0, if_true, w_Sets_isUnbeaten_70, nI_1]⟩) (fun k o hk hf => by
      have hc : ¬ nI L.length ≤ nI k := nI_ge hk (by omega)
      have h0 : ¬ 0 ≤ ldr T (nI (lo L i)) (nI (lo L k)) := Int32.not_le.mpr (by simpa using hf)
      simp only [w_Sets_isUnbeaten_2 (l2 := nI k), w_Sets_isUnbeaten_7, w_Sets_isUnbeaten_10, c_25, f_25_0, f_25_1, f_25_2, f_25_3, f_25_4, f_25_5, f_25_6, f_25_7, p_25_7, Option.some.injEq, exists_eq_left', exists_eq_left, Option.toList_some, Option.toList_none, List.cons_append, List.nil_append, true_and, and_true, Option.map_some, Option.map_none, h7, hc, if_false, inner k hk, w_Sets_isUnbeaten_64, h0, w_Sets_isUnbeaten_68, x_nb0]
      exact eq_comm) (fun o => by
      simp only [w_Sets_isUnbeaten_2 (l2 := nI L.length), w_Sets_isUnbeaten_7, w_Sets_isUnbeaten_76, c_25, f_25_0, f_25_1, f_25_2, f_25_3, f_25_4, f_25_5, f_25_6, f_25_7, p_25_7, Option.some.injEq, exists_eq_left', exists_eq_left, Option.toList_some, Option.toList_none, List.cons_append, List.nil_append, true_and, and_true, Option.map_some, Option.map_none, h7, show nI L.length ≤ nI L.length from Int32.le_refl _, if_true, x_nb1]
      exact eq_comm) L.length 0 (none, none) (by omega)
  refine key.trans ?_
  unfold ubC b01
  cases frst (fun k => decide (ldr T (nI (lo L i)) (nI (lo L k)) < 0)) 0 L.length <;> exact Iff.rfl
theorem s_electedOne (hd : 8 ≤ d) (hT : clsT s 3 T) (hK : tOk T) : ∃ s', x_ev g_M P d 52 [.ref 25] (mkH xs s) (some (.int (elc T (2 ^ tM T))), mkH xs s') ∧ keC s s' := by
  have hW := hK.1
  have w1 := hW.1
  have hp := p2_le (tM T) (by have := hW.2.1; omega)
  have hl := fL_len T (2 ^ tM T)
  obtain ⟨f1, f2, f3, f4⟩ := ffS_f T s (2 ^ tM T)
  obtain ⟨d, rfl⟩ := x_1 (d := d) (by omega)
  have q1 := s_findFirm (P := P) (d := d) (xs := xs) (by omega) hT hW
  rw [← elc_c hK]
  have hke := ffS_ke T s (2 ^ tM T)
  generalize hs' : ffS T s (2 ^ tM T) = s0 at *
  generalize hL : fL T (2 ^ tM T) = L at *
  have hT0 : clsT s0 3 T := clsT_off (fun q a b => f3 q (by omega) (by omega)) hT
  obtain ⟨u1, u2, u3⟩ := suS_f hW L s0 L.length
  have hTn : ∀ n, clsT (suS T L s0 n) 3 T := fun n => clsT_off (fun q a b => (suS_f hW L s0 n).1 q (by omega)) hT0
  refine ⟨suS T L s0 L.length, ?_, hke.tr (fun q hq => ⟨u1 q (by omega), by rw [u2]⟩)⟩
  rw [x_ev_in rfl (Nat.le_of_ble_eq_true rfl)]
  rw [show x_ent (x_nL g_M 52) [.ref 25] = [some (.ref 25), none, none] from rfl]
  simp only [w_Sets_electedOne_0, w_Sets_electedOne_4, c_25, f_25_0, f_25_1, f_25_2, f_25_3, f_25_4, f_25_5, f_25_6, f_25_7, p_25_7, Option.some.injEq, exists_eq_left', exists_eq_left, Option.toList_some, Option.toList_none, List.cons_append, List.nil_append, true_and, and_true, Option.map_some, Option.map_none, x_ev_iff q1]
  have t4 := hT0.1.2.2.2.2.1
  have fill := x_upO (C := x_ev g_M P d) (k := 52) (r := (some (.int ((frst (fun i => ubC T L (lo L i)) 0 L.length).elim (-1) (fun i => nI (lo L i)))), mkH xs (suS T L s0 L.length))) (N := L.length) (E := True) (F := fun i o => (7, [some (.ref 25), some (.int (nI i)), o], [], mkH xs (suS T L s0 i))) (fun i o hi => ⟨some (.int (nI (tP T))), by
    have hc : ¬ nI L.length ≤ nI i := nI_ge hi (by omega)
    have v1 : ∀ p, (suI T (lo L i) i (suS T L s0 i) p).1 25 7 = nI L.length := fun p => by rw [(suI_f T _ i _ p).1 25 (by omega), (suS_f hW L s0 i).1 25 (by omega), f1]
    have v2 : ∀ p, (suI T (lo L i) i (suS T L s0 i) p).1 28 i = nI (lo L i) := fun p => by rw [(suI_f T _ i _ p).1 28 (by omega), (suS_f hW L s0 i).1 28 (by omega), f2 i hi]
    have v3 : ∀ p, clsT (suI T (lo L i) i (suS T L s0 i) p) 3 T := fun p => clsT_off (fun q a b => (suI_f T _ i _ p).1 q (by omega)) (hTn i)
    have key := fun r => x_up (C := x_ev g_M P d) (k := 52) (r := r) (N := tP T) (F := fun p => (17, [some (.ref 25), some (.int (nI i)), some (.int (nI p))], [], mkH xs (suI T (lo L i) i (suS T L s0 i) p))) (fun p hp => by
      have hc : ¬ nI (tP T) ≤ nI p := nI_ge hp (by omega)
      have t4' := (v3 p).1.2.2.2.2.1
      have e1 : x_rd ((suI T (lo L i) i (suS T L s0 i) p).1 28) 256 (nI i) = some (nI (lo L i)) := by rw [x_rd_nI (by omega) (by omega), v2 p]
      have e2 : x_rd ((suI T (lo L i) i (suS T L s0 i) p).1 29) 1536 (nI i * 6 + nI p) = some ((suI T (lo L i) i (suS T L s0 i) p).1 29 (i * 6 + p)) := by rw [show (6 : Int32) = nI 6 from rfl, pk_mul, nI_add, x_rd_nI (by omega) (by omega)]
      have e3 : (nI i * 6 + nI p).toNatClampNeg = i * 6 + p := by rw [show (6 : Int32) = nI 6 from rfl, pk_mul, nI_add, nI_clamp (by omega)]
      simp only [w_Sets_electedOne_0, w_Sets_electedOne_4, w_Sets_electedOne_12, w_Sets_electedOne_15, w_Sets_electedOne_22, w_Sets_electedOne_25, w_Sets_electedOne_28, w_Sets_electedOne_32, w_Sets_electedOne_42, w_Sets_electedOne_47, w_Sets_electedOne_49, w_Sets_electedOne_52, w_Sets_electedOne_53, w_Sets_electedOne_59, w_Sets_electedOne_65, w_Sets_electedOne_72, w_Sets_electedOne_75, w_Sets_electedOne_80, w_Sets_electedOne_83, w_Sets_electedOne_87, w_Sets_electedOne_89, w_Sets_electedOne_90, w_Sets_electedOne_96, w_Sets_electedOne_17 (l2 := nI p), c_3, f_3_0, p_3_0, f_3_1, p_3_1, f_3_2, p_3_2, f_3_3, p_3_3, f_3_4, p_3_4, f_3_5, p_3_5, f_3_6, p_3_6, f_3_7, p_3_7, f_3_8, p_3_8, f_3_9, f_3_10, f_3_11, f_3_12, f_3_13, c_25, f_25_0, f_25_1, f_25_2, f_25_3, f_25_4, f_25_5, f_25_6, f_25_7, p_25_7, e_28, i_28, e_29, i_29, Option.some.injEq, exists_eq_left', exists_eq_left, Option.toList_some, Option.toList_none, List.cons_append, List.nil_append, true_and, and_true, Option.map_some, Option.map_none, t4', hc, if_false, e1, t_sumOf (d := d) (by omega) (v3 p) hW hp, e2, e3, nI_1]
      exact Iff.rfl) 0 (Nat.zero_le _)
    have e7 := v1 0
    have t4' := (v3 (tP T)).1.2.2.2.2.1
    simp only [w_Sets_electedOne_7 (l1 := nI i), w_Sets_electedOne_12, w_Sets_electedOne_15, c_3, f_3_0, p_3_0, f_3_1, p_3_1, f_3_2, p_3_2, f_3_3, p_3_3, f_3_4, p_3_4, f_3_5, p_3_5, f_3_6, p_3_6, f_3_7, p_3_7, f_3_8, p_3_8, f_3_9, f_3_10, f_3_11, f_3_12, f_3_13, c_25, f_25_0, f_25_1, f_25_2, f_25_3, f_25_4, f_25_5, f_25_6, f_25_7, p_25_7, Option.some.injEq, exists_eq_left', exists_eq_left, Option.toList_some, Option.toList_none, List.cons_append, List.nil_append, true_and, and_true, Option.map_some, Option.map_none, show (suS T L s0 i).1 25 7 = nI L.length from e7, hc, if_false]
    refine (key _).trans ?_
    simp only [w_Sets_electedOne_17 (l2 := nI (tP T)), w_Sets_electedOne_22, w_Sets_electedOne_25, w_Sets_electedOne_59, c_3, f_3_0, p_3_0, f_3_1, p_3_1, f_3_2, p_3_2, f_3_3, p_3_3, f_3_4, p_3_4, f_3_5, p_3_5, f_3_6, p_3_6, f_3_7, p_3_7, f_3_8, p_3_8, f_3_9, f_3_10, f_3_11, f_3_12, f_3_13, c_25, f_25_0, f_25_1, f_25_2, f_25_3, f_25_4, f_25_5, f_25_6, f_25_7, p_25_7, Option.some.injEq, exists_eq_left', exists_eq_left, Option.toList_some, Option.toList_none, List.cons_append, List.nil_append, true_and, and_true, Option.map_some, Option.map_none, t4', show nI (tP T) ≤ nI (tP T) from Int32.le_refl _, if_true, nI_1]
    exact Iff.rfl⟩) (fun o => by
    have e7 : (suS T L s0 L.length).1 25 7 = nI L.length := by rw [u1 25 (by omega), f1]
    simp only [w_Sets_electedOne_7 (l1 := nI L.length), w_Sets_electedOne_12, w_Sets_electedOne_65, c_25, f_25_0, f_25_1, f_25_2, f_25_3, f_25_4, f_25_5, f_25_6, f_25_7, p_25_7, Option.some.injEq, exists_eq_left', exists_eq_left, Option.toList_some, Option.toList_none, List.cons_append, List.nil_append, true_and, and_true, Option.map_some, Option.map_none, e7, show nI L.length ≤ nI L.length from Int32.le_refl _, if_true]
    have fin := x_fstI (C := x_ev g_M P d) (k := 52) (r := (some (.int ((frst (fun i => ubC T L (lo L i)) 0 L.length).elim (-1) (fun i => nI (lo L i)))), mkH xs (suS T L s0 L.length))) (N := L.length) (f := fun i => ubC T L (lo L i)) (e := -1) (g := fun i => nI (lo L i)) (H := mkH xs (suS T L s0 L.length)) (F := fun i => (67, [some (.ref 25), some (.int (nI i)), o], [], mkH xs (suS T L s0 L.length))) (fun i hi hf => by
      have hc : ¬ nI L.length ≤ nI i := nI_ge hi (by omega)
      simp only [w_Sets_electedOne_0, w_Sets_electedOne_4, w_Sets_electedOne_12, w_Sets_electedOne_15, w_Sets_electedOne_22, w_Sets_electedOne_25, w_Sets_electedOne_28, w_Sets_electedOne_32, w_Sets_electedOne_42, w_Sets_electedOne_47, w_Sets_electedOne_49, w_Sets_electedOne_52, w_Sets_electedOne_53, w_Sets_electedOne_59, w_Sets_electedOne_65, w_Sets_electedOne_72, w_Sets_electedOne_75, w_Sets_electedOne_80, w_Sets_electedOne_83, w_Sets_electedOne_87, w_Sets_electedOne_89, w_Sets_electedOne_90, w_Sets_electedOne_96, w_Sets_electedOne_67 (l1 := nI i), c_25, f_25_0, f_25_1, f_25_2, f_25_3, f_25_4, f_25_5, f_25_6, f_25_7, p_25_7, e_28, i_28, Option.some.injEq, exists_eq_left', exists_eq_left, Option.toList_some, Option.toList_none, List.cons_append, List.nil_append, true_and, and_true, Option.map_some, Option.map_none, e7, hc, if_false, s_isUnbeaten (d := d) (by omega) (hTn _) hW (by omega) e7 u3 hi, hf, b01, Bool.false_eq_true, if_true, nI_1]) (fun i hi hf => by
      have hc : ¬ nI L.length ≤ nI i := nI_ge hi (by omega)
      have e1 : x_rd ((suS T L s0 L.length).1 28) 256 (nI i) = some (nI (lo L i)) := by rw [x_rd_nI (by omega) (by omega), u1 28 (by omega), f2 i hi]
      simp only [w_Sets_electedOne_0, w_Sets_electedOne_4, w_Sets_electedOne_12, w_Sets_electedOne_15, w_Sets_electedOne_22, w_Sets_electedOne_25, w_Sets_electedOne_28, w_Sets_electedOne_32, w_Sets_electedOne_42, w_Sets_electedOne_47, w_Sets_electedOne_49, w_Sets_electedOne_52, w_Sets_electedOne_53, w_Sets_electedOne_59, w_Sets_electedOne_65, w_Sets_electedOne_72, w_Sets_electedOne_75, w_Sets_electedOne_80, w_Sets_electedOne_83, w_Sets_electedOne_87, w_Sets_electedOne_89, w_Sets_electedOne_90, w_Sets_electedOne_96, w_Sets_electedOne_67 (l1 := nI i), c_25, f_25_0, f_25_1, f_25_2, f_25_3, f_25_4, f_25_5, f_25_6, f_25_7, p_25_7, e_28, i_28, Option.some.injEq, exists_eq_left', exists_eq_left, Option.toList_some, Option.toList_none, List.cons_append, List.nil_append, true_and, and_true, Option.map_some, Option.map_none, e7, hc, if_false, s_isUnbeaten (d := d) (by omega) (hTn _) hW (by omega) e7 u3 hi, hf, b01, show ¬ ((1 : Int32) = 0) by decide, if_true, e1]
      exact eq_comm) (by
      simp only [w_Sets_electedOne_0, w_Sets_electedOne_4, w_Sets_electedOne_12, w_Sets_electedOne_15, w_Sets_electedOne_22, w_Sets_electedOne_25, w_Sets_electedOne_28, w_Sets_electedOne_32, w_Sets_electedOne_42, w_Sets_electedOne_47, w_Sets_electedOne_49, w_Sets_electedOne_52, w_Sets_electedOne_53, w_Sets_electedOne_59, w_Sets_electedOne_65, w_Sets_electedOne_72, w_Sets_electedOne_75, w_Sets_electedOne_80, w_Sets_electedOne_83, w_Sets_electedOne_87, w_Sets_electedOne_89, w_Sets_electedOne_90, w_Sets_electedOne_96, w_Sets_electedOne_67 (l1 := nI L.length), c_25, f_25_0, f_25_1, f_25_2, f_25_3, f_25_4, f_25_5, f_25_6, f_25_7, p_25_7, e_28, i_28, Option.some.injEq, exists_eq_left', exists_eq_left, Option.toList_some, Option.toList_none, List.cons_append, List.nil_append, true_and, and_true, Option.map_some, Option.map_none, e7, show nI L.length ≤ nI L.length from Int32.le_refl _, if_true]
      exact eq_comm)
    exact iff_of_true (fin.mpr rfl) trivial) L.length 0 none (by omega)
  exact fill.mpr trivial
end ELECT
