/-! BITS, SUMS, LOOPS (the family 'bt' is the kit's starting text; the rest own work) -/
def bt (x : Int32) (i : Nat) : Bool := x.toBitVec.getLsbD i
theorem b_ext {x y : Int32} (h : ∀ i, i < 32 → bt x i = bt y i) : x = y := Int32.toBitVec_inj.mp (BitVec.eq_of_getLsbD_eq (fun i hi => h i hi))
theorem b_or (x y : Int32) (i : Nat) : bt (x ||| y) i = (bt x i || bt y i) := by unfold bt; rw [Int32.toBitVec_or, BitVec.getLsbD_or]
theorem b_and (x y : Int32) (i : Nat) : bt (x &&& y) i = (bt x i && bt y i) := by unfold bt; rw [Int32.toBitVec_and, BitVec.getLsbD_and]
theorem b_xor (x y : Int32) (i : Nat) : bt (x ^^^ y) i = (bt x i ^^ bt y i) := by unfold bt; rw [Int32.toBitVec_xor, BitVec.getLsbD_xor]
theorem b_big {x : Int32} {i : Nat} (h : 32 ≤ i) : bt x i = false := BitVec.getLsbD_of_ge _ _ h
theorem b_m1 : ∀ i, i < 32 → bt (-1) i = true := by decide +kernel
theorem b_0 (i : Nat) : bt 0 i = false := BitVec.getLsbD_zero
theorem s_l' : ∀ n, n < 32 → ((nI n &&& 31).toBitVec.smod 32).toNat = n := by decide +kernel
theorem b_shl (n : Nat) (hn : n < 32) (x : Int32) {i : Nat} (hi : i < 32) : bt (x <<< (nI n &&& 31)) i = (decide (n ≤ i) && bt x (i - n)) := by
  unfold bt
  rw [Int32.toBitVec_shiftLeft]
  show (x.toBitVec <<< ((nI n &&& 31).toBitVec.smod 32).toNat).getLsbD i = _
  rw [s_l' n hn, BitVec.getLsbD_shiftLeft]
  rcases Nat.lt_or_ge i n with h | h
  · simp [h, Nat.not_le.mpr h]
  · simp [hi, h, Nat.not_lt.mpr h]
theorem b_sshr (n : Nat) (hn : n < 32) (x : Int32) {i : Nat} (hi : i < 32) : bt (x >>> (nI n &&& 31)) i = if n + i < 32 then bt x (n + i) else bt x 31 := by
  unfold bt
  rw [Int32.toBitVec_shiftRight]
  show (x.toBitVec.sshiftRight ((nI n &&& 31).toBitVec.smod 32).toNat).getLsbD i = _
  rw [s_l' n hn, BitVec.getLsbD_sshiftRight, BitVec.msb_eq_getLsbD_last]
  simp [hi]
theorem b_1 : ∀ i, i < 32 → bt 1 i = decide (i = 0) := by decide +kernel
/-- a bit as a number -/
theorem bit_i {m : Nat} (hm : m < 32) (x : Int32) : ((x >>> (nI m &&& 31)) &&& 1) = if bt x m = true then 1 else 0 := by
  apply b_ext
  intro i hi
  rw [b_and, b_1 i hi]
  by_cases h : i = 0
  · subst h
    rw [b_sshr m hm x hi]
    simp only [Nat.add_zero, hm, if_true, decide_true, Bool.and_true]
    cases bt x m
    · simp [b_0]
    · rw [if_pos rfl, b_1 0 hi]; rfl
  · simp only [h, decide_false, Bool.and_false]
    cases bt x m
    · simp [b_0]
    · rw [if_pos rfl, b_1 i hi]; simp [h]
theorem bit_1 {m : Nat} (hm : m < 32) (x : Int32) : ((x >>> (nI m &&& 31)) &&& 1) = 1 ↔ bt x m = true := by
  rw [bit_i hm]
  cases bt x m <;> simp
theorem bit_0 {m : Nat} (hm : m < 32) (x : Int32) : ((x >>> (nI m &&& 31)) &&& 1) = 0 ↔ bt x m = false := by
  rw [bit_i hm]
  cases bt x m <;> simp
/-- one bit -/
def on1 (m : Nat) : Int32 := (1 : Int32) <<< (nI m &&& 31)
theorem b_on {m i : Nat} (hm : m < 32) (hi : i < 32) : bt (on1 m) i = decide (i = m) := by
  unfold on1
  rw [b_shl m hm _ hi]
  by_cases h : i = m
  · subst h
    simp [b_1]
  · by_cases h2 : m ≤ i
    · rw [b_1 (i - m) (by omega)]
      simp [h2, h]
      omega
    · simp [h2, h]
theorem b_not {x : Int32} {i : Nat} (hi : i < 32) : bt (x ^^^ (-1)) i = !bt x i := by
  rw [b_xor, b_m1 i hi]
  cases bt x i <;> rfl
theorem b_ne0 {x : Int32} : x ≠ 0 ↔ ∃ i, i < 32 ∧ bt x i = true := by
  constructor
  · intro h
    apply Classical.byContradiction
    intro hn
    apply h
    apply b_ext
    intro i hi
    rw [b_0]
    cases hb : bt x i
    · rfl
    · exact absurd ⟨i, hi, hb⟩ hn
  · rintro ⟨i, hi, hb⟩ rfl
    rw [b_0] at hb
    cases hb
theorem b_eq0 {x : Int32} : x = 0 ↔ ∀ i, i < 32 → bt x i = false := by
  constructor
  · rintro rfl i _
    exact b_0 i
  · intro h
    apply b_ext
    intro i hi
    rw [h i hi, b_0]
/-- a sum -/
def sm (f : Nat → Int32) : Nat → Int32
  | 0 => 0
  | n + 1 => sm f n + f n
theorem sm_eq {f g : Nat → Int32} {n : Nat} (h : ∀ i, i < n → f i = g i) : sm f n = sm g n := by
  induction n with
  | zero => rfl
  | succ n ih => rw [sm, sm, ih (fun i hi => h i (by omega)), h n (by omega)]
-- loops
section LOOPS
variable {C : Nat → List Value → xH → Option Value × xH → Prop} {k : Nat} {r : Option Value × xH}
theorem x_up {N : Nat} {F : Nat → xF} (hs : ∀ m, m < N → (x_R C k (F m) r ↔ x_R C k (F (m + 1)) r)) : ∀ m, m ≤ N → (x_R C k (F m) r ↔ x_R C k (F N) r) := by
  intro m hm
  obtain ⟨j, rfl⟩ : ∃ j, N = m + j := ⟨N - m, by omega⟩
  clear hm
  induction j generalizing m with
  | zero => exact Iff.rfl
  | succ j ih =>
    rw [hs m (by omega), show m + (j + 1) = (m + 1) + j by omega]
    exact ih (m + 1) (fun a ha => by rw [show m + (j + 1) = (m + 1) + j by omega] at hs; exact hs a ha)
/-- up to the first that stops it -/
theorem x_upE {N m0 : Nat} {F : Nat → xF} {P : Nat → Prop} {K : Nat → Prop} (hs : ∀ m, m < N → ¬ P m → (x_R C k (F m) r ↔ x_R C k (F (m + 1)) r)) (hx : ∀ m, m < N → P m → (x_R C k (F m) r ↔ K m)) (h0 : m0 < N) (hp : P m0) : ∀ m, m ≤ m0 → (∀ a, m ≤ a → a < m0 → ¬ P a) → (x_R C k (F m) r ↔ K m0) := by
  intro m hm hn
  obtain ⟨j, rfl⟩ : ∃ j, m0 = m + j := ⟨m0 - m, by omega⟩
  clear hm
  induction j generalizing m with
  | zero => exact hx _ h0 hp
  | succ j ih =>
    rw [hs m (by omega) (hn m (Nat.le_refl _) (by omega)), show m + (j + 1) = (m + 1) + j by omega]
    exact ih (m + 1) (by rw [show m + 1 + j = m + (j + 1) by omega]; exact h0) (by rw [show m + 1 + j = m + (j + 1) by omega]; exact hp) (fun a h1 h2 => hn a (by omega) (by omega))
end LOOPS
theorem x_rd_nI {α : Type} {f : Nat → α} {len n : Nat} (h : n < len) (hl : len < 2 ^ 31) : x_rd f len (nI n) = some (f n) := by
  unfold x_rd
  rw [nI_clamp (by omega), if_neg]
  rintro (z | z)
  · exact nI_pos (by omega) z
  · omega
theorem nI_lit0 : (0 : Int32) = nI 0 := nI_0.symm
theorem nI_m {a b : Nat} : nI a * nI b = nI (a * b) := pk_mul a b
