/-! THE REFERENCE: how it keeps the TOWN and what has come of it (own work) -/
def b01 (b : Bool) : Int32 := if b = true then 1 else 0
def tOf (T : Tw) (m : Nat) : Nat → Int32
  | 0 => nI (tPa T m 0)
  | 1 => nI (tPa T m 1)
  | 2 => tGa T m 0
  | 3 => tGa T m 1
  | 4 => tOn T m
  | 5 => b01 (tDry T m)
  | _ => b01 (tJug T m)
/-- the TOWN in the row a, from place z on -/
def refT (s : xS) (a z : Nat) (T : Tw) : Prop :=
  (s.1 a z = tLe T ∧ s.1 a (z + 1) = tSp T ∧ s.1 a (z + 2) = tFr T ∧ s.1 a (z + 3) = nI (tP T) ∧ s.1 a (z + 4) = nI (tM T) ∧ s.1 a (z + 5) = tLi T) ∧
  (∀ p, p < tP T → s.1 a (z + (7 + 2 * p)) = tCu T p ∧ s.1 a (z + (8 + 2 * p)) = b01 (tSt T p)) ∧
  (∀ m, m < tM T → ∀ w, w < 7 → s.1 a (z + (19 + 7 * m + w)) = tOf T m w)
def refS (s : xS) (T : Tw) (A : As) : Prop := s.1 110 16 = nI A.1.length ∧ (∀ i, i < A.1.length → s.1 117 i = nI (lo A.1 i)) ∧ (∀ j, j < tP T → s.1 118 j = A.2.2.2 j) ∧ s.1 110 18 = A.2.2.1 ∧ s.1 110 19 = A.2.1
theorem w_lt (a b : Int32) : a.toInt64 < b.toInt64 ↔ a < b := by
  rw [Int64.lt_iff_toInt_lt, Int32.lt_iff_toInt_lt, Int32.toInt_toInt64, Int32.toInt_toInt64]
theorem nI_pr {n : Nat} (hn : n < 2 ^ 30) (x : Int32) : nI n - 1 < x ↔ nI n ≤ x := by
  have h1 : (nI n - 1).toInt = (n : Int) - 1 := by
    have := pk_sub_toInt (a := n) (b := 1) (by omega) (by omega)
    exact this
  rw [Int32.lt_iff_toInt_lt, Int32.le_iff_toInt_le, h1, nI_toInt (by omega)]
  omega
section REF
variable {P : Nat → List Value → Option Value} {d : Nat} {xs : List Int32} {s : xS} {T : Tw} {A : As} {q : Option Value × xH}
theorem r_in (hd : 1 ≤ d) (a b c : Int64) : x_ev g_M P d 189 [.long a, .long b, .long c] (mkH xs s) q ↔ q = (some (.int (if a < b then 0 else if c < a then 0 else 1)), mkH xs s) := by
  obtain ⟨d, rfl⟩ := x_1 (d := d) (by omega)
  rw [x_ev_in rfl (Nat.le_of_ble_eq_true rfl)]
  rw [show x_ent (x_nL g_M 189) [.long a, .long b, .long c] = [some (.long a), none, some (.long b), none, some (.long c), none] from rfl]
  simp only [w_Ref_in_0, w_Ref_in_6, w_Ref_in_13, w_Ref_in_17, w_Ref_in_18, lg_cmp_lt, lg_cmp_gt, x_nb0, x_nb1, Option.some.injEq, exists_eq_left', exists_eq_left, Option.toList_some, Option.toList_none, List.cons_append, List.nil_append, true_and, and_true, Option.map_some, Option.map_none, x_if2]
  exact eq_comm
theorem r_bit (hd : 1 ≤ d) (a b : Int32) : x_ev g_M P d 191 [.int a, .int b] (mkH xs s) q ↔ q = (some (.int ((a >>> (b &&& 31)) &&& 1)), mkH xs s) := by
  obtain ⟨d, rfl⟩ := x_1 (d := d) (by omega)
  rw [x_ev_in rfl (Nat.le_of_ble_eq_true rfl)]
  rw [show x_ent (x_nL g_M 191) [.int a, .int b] = [some (.int a), some (.int b)] from rfl]
  simp only [w_Ref_bit_0]
  exact eq_comm
theorem r_isTown (hd : 1 ≤ d) (hT : refT s 111 0 T) : x_ev g_M P d 194 [.ref 110] (mkH xs s) q ↔ q = (some (.int (if tLi T ≤ 0 then 0 else 1)), mkH xs s) := by
  have t5 := hT.1.2.2.2.2.2
  obtain ⟨d, rfl⟩ := x_1 (d := d) (by omega)
  rw [x_ev_in rfl (Nat.le_of_ble_eq_true rfl)]
  rw [show x_ent (x_nL g_M 194) [.ref 110] = [some (.ref 110)] from rfl]
  have hx : x_rd (s.1 111) 135 5 = some (tLi T) := by rw [show (5 : Int32) = nI 5 from rfl, x_rd_nI (by omega) (by omega)]; exact congrArg some t5
  simp only [w_Ref_isTown_0, w_Ref_isTown_4, w_Ref_isTown_6, w_Ref_isTown_9, w_Ref_isTown_13, w_Ref_isTown_14, c_110, f_110_0, p_110_0, f_110_1, f_110_2, f_110_3, f_110_4, f_110_5, p_110_5, f_110_6, f_110_7, p_110_7, f_110_8, p_110_8, f_110_9, p_110_9, f_110_10, p_110_10, f_110_11, p_110_11, f_110_12, p_110_12, f_110_13, p_110_13, f_110_14, f_110_15, f_110_16, p_110_16, f_110_17, f_110_18, p_110_18, f_110_19, p_110_19, f_110_20, f_110_21, p_110_21, f_110_22, p_110_22, f_110_23, f_110_24, f_110_25, p_110_25, f_110_26, f_110_27, f_110_28, f_110_29, f_110_30, f_110_31, p_110_31, f_110_32, p_110_32, f_110_33, p_110_33, f_110_34, p_110_34, f_110_35, f_110_36, f_110_37, f_110_38, e_111, i_111, Option.some.injEq, exists_eq_left', exists_eq_left, Option.toList_some, Option.toList_none, List.cons_append, List.nil_append, true_and, and_true, Option.map_some, Option.map_none, hx, x_nb0, x_nb1, x_if2]
  exact eq_comm
theorem x_w3 (hT : refT s 111 0 T) : x_rd (s.1 111) 135 3 = some (nI (tP T)) := by rw [show (3 : Int32) = nI 3 from rfl, x_rd_nI (by omega) (by omega)]; exact congrArg some hT.1.2.2.2.1
theorem x_w4 (hT : refT s 111 0 T) : x_rd (s.1 111) 135 4 = some (nI (tM T)) := by rw [show (4 : Int32) = nI 4 from rfl, x_rd_nI (by omega) (by omega)]; exact congrArg some hT.1.2.2.2.2.1
theorem r_isPerson (hd : 2 ≤ d) (hT : refT s 111 0 T) (hW : tWf T) (x : Int32) : x_ev g_M P d 195 [.ref 110, .int x] (mkH xs s) q ↔ q = (some (.int (if x < 0 then 0 else if nI (tP T) ≤ x then 0 else 1)), mkH xs s) := by
  have w1 := hW.1
  obtain ⟨d, rfl⟩ := x_1 (d := d) (by omega)
  rw [x_ev_in rfl (Nat.le_of_ble_eq_true rfl)]
  rw [show x_ent (x_nL g_M 195) [.ref 110, .int x] = [some (.ref 110), some (.int x)] from rfl]
  have e : x.toInt64 < 0 ↔ x < 0 := w_lt x 0
  simp only [w_Ref_isPerson_0, w_Ref_isPerson_7, w_Ref_isPerson_9, w_Ref_isPerson_15, c_110, f_110_0, p_110_0, f_110_1, f_110_2, f_110_3, f_110_4, f_110_5, p_110_5, f_110_6, f_110_7, p_110_7, f_110_8, p_110_8, f_110_9, p_110_9, f_110_10, p_110_10, f_110_11, p_110_11, f_110_12, p_110_12, f_110_13, p_110_13, f_110_14, f_110_15, f_110_16, p_110_16, f_110_17, f_110_18, p_110_18, f_110_19, p_110_19, f_110_20, f_110_21, p_110_21, f_110_22, p_110_22, f_110_23, f_110_24, f_110_25, p_110_25, f_110_26, f_110_27, f_110_28, f_110_29, f_110_30, f_110_31, p_110_31, f_110_32, p_110_32, f_110_33, p_110_33, f_110_34, p_110_34, f_110_35, f_110_36, f_110_37, f_110_38, e_111, i_111, Option.some.injEq, exists_eq_left', exists_eq_left, Option.toList_some, Option.toList_none, List.cons_append, List.nil_append, true_and, and_true, Option.map_some, Option.map_none, x_w3 hT, r_in (d := d) (by omega), e, w_lt, nI_pr (show tP T < 2 ^ 30 by omega)]
  by_cases h1 : x < 0 <;> by_cases h2 : nI (tP T) ≤ x <;> simp [h1, h2, x_nb0, x_nb1, eq_comm (a := q)]
theorem r_isMatterI (hd : 2 ≤ d) (hT : refT s 111 0 T) (hW : tWf T) (x : Int32) : x_ev g_M P d 196 [.ref 110, .long x.toInt64] (mkH xs s) q ↔ q = (some (.int (if x < 0 then 0 else if nI (tM T) ≤ x then 0 else 1)), mkH xs s) := by
  have w2 := hW.2.1
  obtain ⟨d, rfl⟩ := x_1 (d := d) (by omega)
  rw [x_ev_in rfl (Nat.le_of_ble_eq_true rfl)]
  rw [show x_ent (x_nL g_M 196) [.ref 110, .long x.toInt64] = [some (.ref 110), some (.long x.toInt64), none] from rfl]
  have e : x.toInt64 < 0 ↔ x < 0 := w_lt x 0
  simp only [w_Ref_isMatter_0, w_Ref_isMatter_6, w_Ref_isMatter_8, w_Ref_isMatter_14, c_110, f_110_0, p_110_0, f_110_1, f_110_2, f_110_3, f_110_4, f_110_5, p_110_5, f_110_6, f_110_7, p_110_7, f_110_8, p_110_8, f_110_9, p_110_9, f_110_10, p_110_10, f_110_11, p_110_11, f_110_12, p_110_12, f_110_13, p_110_13, f_110_14, f_110_15, f_110_16, p_110_16, f_110_17, f_110_18, p_110_18, f_110_19, p_110_19, f_110_20, f_110_21, p_110_21, f_110_22, p_110_22, f_110_23, f_110_24, f_110_25, p_110_25, f_110_26, f_110_27, f_110_28, f_110_29, f_110_30, f_110_31, p_110_31, f_110_32, p_110_32, f_110_33, p_110_33, f_110_34, p_110_34, f_110_35, f_110_36, f_110_37, f_110_38, e_111, i_111, Option.some.injEq, exists_eq_left', exists_eq_left, Option.toList_some, Option.toList_none, List.cons_append, List.nil_append, true_and, and_true, Option.map_some, Option.map_none, x_w4 hT, r_in (d := d) (by omega), e, w_lt, nI_pr (show tM T < 2 ^ 30 by omega)]
  by_cases h1 : x < 0 <;> by_cases h2 : nI (tM T) ≤ x <;> simp [h1, h2, x_nb0, x_nb1, eq_comm (a := q)]
theorem r_of (hd : 1 ≤ d) (hT : refT s 111 0 T) (hW : tWf T) {m w : Nat} (hm : m < tM T) (hw : w < 7) : x_ev g_M P d 199 [.ref 110, .int (nI m), .int (nI w)] (mkH xs s) q ↔ q = (some (.int (tOf T m w)), mkH xs s) := by
  have w2 := hW.2.1
  have t := hT.2.2 m hm w hw
  rw [Nat.zero_add] at t
  obtain ⟨d, rfl⟩ := x_1 (d := d) (by omega)
  rw [x_ev_in rfl (Nat.le_of_ble_eq_true rfl)]
  rw [show x_ent (x_nL g_M 199) [.ref 110, .int (nI m), .int (nI w)] = [some (.ref 110), some (.int (nI m)), some (.int (nI w))] from rfl]
  have hx : x_rd (s.1 111) 135 ((19 + (7 * nI m)) + nI w) = some (tOf T m w) := by
    rw [show (7 : Int32) = nI 7 from rfl, show (19 : Int32) = nI 19 from rfl, pk_mul, nI_add, nI_add, x_rd_nI (by omega) (by omega), t]
  simp only [w_Ref_of_0, w_Ref_of_4, w_Ref_of_14, c_110, f_110_0, p_110_0, f_110_1, f_110_2, f_110_3, f_110_4, f_110_5, p_110_5, f_110_6, f_110_7, p_110_7, f_110_8, p_110_8, f_110_9, p_110_9, f_110_10, p_110_10, f_110_11, p_110_11, f_110_12, p_110_12, f_110_13, p_110_13, f_110_14, f_110_15, f_110_16, p_110_16, f_110_17, f_110_18, p_110_18, f_110_19, p_110_19, f_110_20, f_110_21, p_110_21, f_110_22, p_110_22, f_110_23, f_110_24, f_110_25, p_110_25, f_110_26, f_110_27, f_110_28, f_110_29, f_110_30, f_110_31, p_110_31, f_110_32, p_110_32, f_110_33, p_110_33, f_110_34, p_110_34, f_110_35, f_110_36, f_110_37, f_110_38, e_111, i_111, Option.some.injEq, exists_eq_left', exists_eq_left, Option.toList_some, Option.toList_none, List.cons_append, List.nil_append, true_and, and_true, Option.map_some, Option.map_none, hx]
  exact eq_comm
theorem r_of0 (hd : 1 ≤ d) (hT : refT s 111 0 T) (hW : tWf T) {m : Nat} (hm : m < tM T) : x_ev g_M P d 199 [.ref 110, .int (nI m), .int 0] (mkH xs s) q ↔ q = (some (.int (nI (tPa T m 0))), mkH xs s) := r_of hd hT hW hm (w := 0) (by omega)
theorem r_of1 (hd : 1 ≤ d) (hT : refT s 111 0 T) (hW : tWf T) {m : Nat} (hm : m < tM T) : x_ev g_M P d 199 [.ref 110, .int (nI m), .int 1] (mkH xs s) q ↔ q = (some (.int (nI (tPa T m 1))), mkH xs s) := r_of hd hT hW hm (w := 1) (by omega)
theorem r_of2 (hd : 1 ≤ d) (hT : refT s 111 0 T) (hW : tWf T) {m : Nat} (hm : m < tM T) : x_ev g_M P d 199 [.ref 110, .int (nI m), .int 2] (mkH xs s) q ↔ q = (some (.int (tGa T m 0)), mkH xs s) := r_of hd hT hW hm (w := 2) (by omega)
theorem r_of3 (hd : 1 ≤ d) (hT : refT s 111 0 T) (hW : tWf T) {m : Nat} (hm : m < tM T) : x_ev g_M P d 199 [.ref 110, .int (nI m), .int 3] (mkH xs s) q ↔ q = (some (.int (tGa T m 1)), mkH xs s) := r_of hd hT hW hm (w := 3) (by omega)
theorem r_of4 (hd : 1 ≤ d) (hT : refT s 111 0 T) (hW : tWf T) {m : Nat} (hm : m < tM T) : x_ev g_M P d 199 [.ref 110, .int (nI m), .int 4] (mkH xs s) q ↔ q = (some (.int (tOn T m)), mkH xs s) := r_of hd hT hW hm (w := 4) (by omega)
theorem r_of5 (hd : 1 ≤ d) (hT : refT s 111 0 T) (hW : tWf T) {m : Nat} (hm : m < tM T) : x_ev g_M P d 199 [.ref 110, .int (nI m), .int 5] (mkH xs s) q ↔ q = (some (.int (b01 (tDry T m))), mkH xs s) := r_of hd hT hW hm (w := 5) (by omega)
theorem r_of6 (hd : 1 ≤ d) (hT : refT s 111 0 T) (hW : tWf T) {m : Nat} (hm : m < tM T) : x_ev g_M P d 199 [.ref 110, .int (nI m), .int 6] (mkH xs s) q ↔ q = (some (.int (b01 (tJug T m))), mkH xs s) := r_of hd hT hW hm (w := 6) (by omega)
theorem b01_1 (b : Bool) : b01 b = 1 ↔ b = true := by cases b <;> decide
theorem r_isStubborn (hd : 1 ≤ d) (hT : refT s 111 0 T) (hW : tWf T) {p : Nat} (hp : p < tP T) : x_ev g_M P d 200 [.ref 110, .int (nI p)] (mkH xs s) q ↔ q = (some (.int (b01 (tSt T p))), mkH xs s) := by
  have w1 := hW.1
  have t := (hT.2.1 p hp).2
  rw [Nat.zero_add] at t
  obtain ⟨d, rfl⟩ := x_1 (d := d) (by omega)
  rw [x_ev_in rfl (Nat.le_of_ble_eq_true rfl)]
  rw [show x_ent (x_nL g_M 200) [.ref 110, .int (nI p)] = [some (.ref 110), some (.int (nI p))] from rfl]
  have hx : x_rd (s.1 111) 135 ((7 + (2 * nI p)) + 1) = some (b01 (tSt T p)) := by
    rw [show (2 : Int32) = nI 2 from rfl, show (7 : Int32) = nI 7 from rfl, pk_mul, nI_add, nI_1, x_rd_nI (by omega) (by omega), show 7 + 2 * p + 1 = 8 + 2 * p by omega, t]
  simp only [w_Ref_isStubborn_0, w_Ref_isStubborn_4, w_Ref_isStubborn_13, w_Ref_isStubborn_17, w_Ref_isStubborn_21, w_Ref_isStubborn_22, c_110, f_110_0, p_110_0, f_110_1, f_110_2, f_110_3, f_110_4, f_110_5, p_110_5, f_110_6, f_110_7, p_110_7, f_110_8, p_110_8, f_110_9, p_110_9, f_110_10, p_110_10, f_110_11, p_110_11, f_110_12, p_110_12, f_110_13, p_110_13, f_110_14, f_110_15, f_110_16, p_110_16, f_110_17, f_110_18, p_110_18, f_110_19, p_110_19, f_110_20, f_110_21, p_110_21, f_110_22, p_110_22, f_110_23, f_110_24, f_110_25, p_110_25, f_110_26, f_110_27, f_110_28, f_110_29, f_110_30, f_110_31, p_110_31, f_110_32, p_110_32, f_110_33, p_110_33, f_110_34, p_110_34, f_110_35, f_110_36, f_110_37, f_110_38, e_111, i_111, Option.some.injEq, exists_eq_left', exists_eq_left, Option.toList_some, Option.toList_none, List.cons_append, List.nil_append, true_and, and_true, Option.map_some, Option.map_none, hx, b01_1, x_nb0, x_nb1]
  cases tSt T p <;> simp [b01, eq_comm (a := q)]
theorem nI_pq (hW : tWf T) {m p : Nat} (hm : m < tM T) (hp : p < tP T) : (nI (tPa T m 0) = nI p ↔ tPa T m 0 = p) ∧ (nI (tPa T m 1) = nI p ↔ tPa T m 1 = p) := by
  obtain ⟨w1, w2, w3, w4⟩ := hW
  have := w3 m hm
  exact ⟨nI_eq (by omega) (by omega), nI_eq (by omega) (by omega)⟩
theorem r_isParty (hd : 2 ≤ d) (hT : refT s 111 0 T) (hW : tWf T) {p m : Nat} (hp : p < tP T) (hm : m < tM T) : x_ev g_M P d 201 [.ref 110, .int (nI p), .int (nI m)] (mkH xs s) q ↔ q = (some (.int (b01 (tIs T p m))), mkH xs s) := by
  obtain ⟨e1, e2⟩ := nI_pq hW hm hp
  obtain ⟨d, rfl⟩ := x_1 (d := d) (by omega)
  rw [x_ev_in rfl (Nat.le_of_ble_eq_true rfl)]
  rw [show x_ent (x_nL g_M 201) [.ref 110, .int (nI p), .int (nI m)] = [some (.ref 110), some (.int (nI p)), some (.int (nI m))] from rfl]
  simp only [w_Ref_isParty_0, w_Ref_isParty_6, w_Ref_isParty_10, w_Ref_isParty_16, w_Ref_isParty_20, w_Ref_isParty_24, w_Ref_isParty_25, c_110, f_110_0, p_110_0, f_110_1, f_110_2, f_110_3, f_110_4, f_110_5, p_110_5, f_110_6, f_110_7, p_110_7, f_110_8, p_110_8, f_110_9, p_110_9, f_110_10, p_110_10, f_110_11, p_110_11, f_110_12, p_110_12, f_110_13, p_110_13, f_110_14, f_110_15, f_110_16, p_110_16, f_110_17, f_110_18, p_110_18, f_110_19, p_110_19, f_110_20, f_110_21, p_110_21, f_110_22, p_110_22, f_110_23, f_110_24, f_110_25, p_110_25, f_110_26, f_110_27, f_110_28, f_110_29, f_110_30, f_110_31, p_110_31, f_110_32, p_110_32, f_110_33, p_110_33, f_110_34, p_110_34, f_110_35, f_110_36, f_110_37, f_110_38, Option.some.injEq, exists_eq_left', exists_eq_left, Option.toList_some, Option.toList_none, List.cons_append, List.nil_append, true_and, and_true, Option.map_some, Option.map_none, r_of0 (d := d) (by omega) hT hW hm, r_of1 (d := d) (by omega) hT hW hm, e1, e2, x_nb0, x_nb1]
  unfold tIs b01
  by_cases h1 : tPa T m 0 = p <;> by_cases h2 : tPa T m 1 = p <;> simp [h1, h2, eq_comm (a := q)]
theorem r_otherOf (hd : 2 ≤ d) (hT : refT s 111 0 T) (hW : tWf T) {p m : Nat} (hp : p < tP T) (hm : m < tM T) : x_ev g_M P d 202 [.ref 110, .int (nI p), .int (nI m)] (mkH xs s) q ↔ q = (some (.int (nI (tOth T p m))), mkH xs s) := by
  obtain ⟨e1, e2⟩ := nI_pq hW hm hp
  obtain ⟨d, rfl⟩ := x_1 (d := d) (by omega)
  rw [x_ev_in rfl (Nat.le_of_ble_eq_true rfl)]
  rw [show x_ent (x_nL g_M 202) [.ref 110, .int (nI p), .int (nI m)] = [some (.ref 110), some (.int (nI p)), some (.int (nI m))] from rfl]
  simp only [w_Ref_otherOf_0, w_Ref_otherOf_6, w_Ref_otherOf_10, w_Ref_otherOf_16, w_Ref_otherOf_19, w_Ref_otherOf_25, c_110, f_110_0, p_110_0, f_110_1, f_110_2, f_110_3, f_110_4, f_110_5, p_110_5, f_110_6, f_110_7, p_110_7, f_110_8, p_110_8, f_110_9, p_110_9, f_110_10, p_110_10, f_110_11, p_110_11, f_110_12, p_110_12, f_110_13, p_110_13, f_110_14, f_110_15, f_110_16, p_110_16, f_110_17, f_110_18, p_110_18, f_110_19, p_110_19, f_110_20, f_110_21, p_110_21, f_110_22, p_110_22, f_110_23, f_110_24, f_110_25, p_110_25, f_110_26, f_110_27, f_110_28, f_110_29, f_110_30, f_110_31, p_110_31, f_110_32, p_110_32, f_110_33, p_110_33, f_110_34, p_110_34, f_110_35, f_110_36, f_110_37, f_110_38, Option.some.injEq, exists_eq_left', exists_eq_left, Option.toList_some, Option.toList_none, List.cons_append, List.nil_append, true_and, and_true, Option.map_some, Option.map_none, r_of0 (d := d) (by omega) hT hW hm, r_of1 (d := d) (by omega) hT hW hm, e1]
  unfold tOth
  by_cases h1 : tPa T m 0 = p <;> simp [h1, eq_comm (a := q)]
theorem r_gainOf (hd : 2 ≤ d) (hT : refT s 111 0 T) (hW : tWf T) {p m : Nat} (hp : p < tP T) (hm : m < tM T) : x_ev g_M P d 203 [.ref 110, .int (nI p), .int (nI m)] (mkH xs s) q ↔ q = (some (.int (tGain T p m)), mkH xs s) := by
  obtain ⟨e1, e2⟩ := nI_pq hW hm hp
  obtain ⟨d, rfl⟩ := x_1 (d := d) (by omega)
  rw [x_ev_in rfl (Nat.le_of_ble_eq_true rfl)]
  rw [show x_ent (x_nL g_M 203) [.ref 110, .int (nI p), .int (nI m)] = [some (.ref 110), some (.int (nI p)), some (.int (nI m))] from rfl]
  simp only [w_Ref_gainOf_0, w_Ref_gainOf_6, w_Ref_gainOf_10, w_Ref_gainOf_16, w_Ref_gainOf_19, w_Ref_gainOf_25, w_Ref_gainOf_29, w_Ref_gainOf_35, w_Ref_gainOf_38, w_Ref_gainOf_39, c_110, f_110_0, p_110_0, f_110_1, f_110_2, f_110_3, f_110_4, f_110_5, p_110_5, f_110_6, f_110_7, p_110_7, f_110_8, p_110_8, f_110_9, p_110_9, f_110_10, p_110_10, f_110_11, p_110_11, f_110_12, p_110_12, f_110_13, p_110_13, f_110_14, f_110_15, f_110_16, p_110_16, f_110_17, f_110_18, p_110_18, f_110_19, p_110_19, f_110_20, f_110_21, p_110_21, f_110_22, p_110_22, f_110_23, f_110_24, f_110_25, p_110_25, f_110_26, f_110_27, f_110_28, f_110_29, f_110_30, f_110_31, p_110_31, f_110_32, p_110_32, f_110_33, p_110_33, f_110_34, p_110_34, f_110_35, f_110_36, f_110_37, f_110_38, Option.some.injEq, exists_eq_left', exists_eq_left, Option.toList_some, Option.toList_none, List.cons_append, List.nil_append, true_and, and_true, Option.map_some, Option.map_none, r_of0 (d := d) (by omega) hT hW hm, r_of1 (d := d) (by omega) hT hW hm, r_of2 (d := d) (by omega) hT hW hm, r_of3 (d := d) (by omega) hT hW hm, e1, e2]
  unfold tGain
  by_cases h1 : tPa T m 0 = p <;> by_cases h2 : tPa T m 1 = p <;> simp [h1, h2, eq_comm (a := q)]
set_option maxHeartbeats 4000000 in
theorem r_sumOf (hd : 3 ≤ d) (hT : refT s 111 0 T) (hW : tWf T) {p : Nat} (hp : p < tP T) (set : Int32) : x_ev g_M P d 204 [.ref 110, .int (nI p), .int set] (mkH xs s) q ↔ q = (some (.int (tSum T p set)), mkH xs s) := by
  have w2 := hW.2.1
  obtain ⟨d, rfl⟩ := x_1 (d := d) (by omega)
  rw [x_ev_in rfl (Nat.le_of_ble_eq_true rfl)]
  rw [show x_ent (x_nL g_M 204) [.ref 110, .int (nI p), .int set] = [some (.ref 110), some (.int (nI p)), some (.int set), none, none] from rfl]
  rw [w_Ref_sumOf_0]
  have key := x_up (C := x_ev g_M P d) (k := 204) (r := q) (N := tM T) (F := fun m => (5, [some (.ref 110), some (.int (nI p)), some (.int set), some (.int (sm (fun m => if bt set m = true then tGain T p m else 0) m)), some (.int (nI m))], [], mkH xs s)) (fun m hm => by
    have hc : ¬ nI (tM T) ≤ nI m := nI_ge hm (by omega)
    simp only [w_Ref_sumOf_0, w_Ref_sumOf_11, w_Ref_sumOf_13, w_Ref_sumOf_16, w_Ref_sumOf_23, w_Ref_sumOf_30, w_Ref_sumOf_39, w_Ref_sumOf_5 (l4 := nI m), c_110, f_110_0, p_110_0, f_110_1, f_110_2, f_110_3, f_110_4, f_110_5, p_110_5, f_110_6, f_110_7, p_110_7, f_110_8, p_110_8, f_110_9, p_110_9, f_110_10, p_110_10, f_110_11, p_110_11, f_110_12, p_110_12, f_110_13, p_110_13, f_110_14, f_110_15, f_110_16, p_110_16, f_110_17, f_110_18, p_110_18, f_110_19, p_110_19, f_110_20, f_110_21, p_110_21, f_110_22, p_110_22, f_110_23, f_110_24, f_110_25, p_110_25, f_110_26, f_110_27, f_110_28, f_110_29, f_110_30, f_110_31, p_110_31, f_110_32, p_110_32, f_110_33, p_110_33, f_110_34, p_110_34, f_110_35, f_110_36, f_110_37, f_110_38, e_111, i_111, Option.some.injEq, exists_eq_left', exists_eq_left, Option.toList_some, Option.toList_none, List.cons_append, List.nil_append, true_and, and_true, Option.map_some, Option.map_none, x_w4 hT, hc, if_false, r_bit (d := d) (by omega), bit_i (show m < 32 by omega), r_gainOf (d := d) (by omega) hT hW hp hm, nI_1, sm]
    by_cases hb : bt set m = true
    · simp only [hb, if_true, Int32.one_mul]
    · simp only [hb, if_false, Int32.zero_mul, Bool.false_eq_true]) 0 (Nat.zero_le _)
  refine key.trans ?_
  simp only [w_Ref_sumOf_0, w_Ref_sumOf_11, w_Ref_sumOf_13, w_Ref_sumOf_16, w_Ref_sumOf_23, w_Ref_sumOf_30, w_Ref_sumOf_39, w_Ref_sumOf_5 (l4 := nI (tM T)), c_110, f_110_0, p_110_0, f_110_1, f_110_2, f_110_3, f_110_4, f_110_5, p_110_5, f_110_6, f_110_7, p_110_7, f_110_8, p_110_8, f_110_9, p_110_9, f_110_10, p_110_10, f_110_11, p_110_11, f_110_12, p_110_12, f_110_13, p_110_13, f_110_14, f_110_15, f_110_16, p_110_16, f_110_17, f_110_18, p_110_18, f_110_19, p_110_19, f_110_20, f_110_21, p_110_21, f_110_22, p_110_22, f_110_23, f_110_24, f_110_25, p_110_25, f_110_26, f_110_27, f_110_28, f_110_29, f_110_30, f_110_31, p_110_31, f_110_32, p_110_32, f_110_33, p_110_33, f_110_34, p_110_34, f_110_35, f_110_36, f_110_37, f_110_38, e_111, i_111, Option.some.injEq, exists_eq_left', exists_eq_left, Option.toList_some, Option.toList_none, List.cons_append, List.nil_append, true_and, and_true, Option.map_some, Option.map_none, x_w4 hT, show nI (tM T) ≤ nI (tM T) from Int32.le_refl _, if_true]
  exact eq_comm
theorem r_swingOf (hd : 4 ≤ d) (hT : refT s 111 0 T) (hW : tWf T) {p : Nat} (hp : p < tP T) (set : Int32) : x_ev g_M P d 231 [.ref 110, .int (nI p), .int set] (mkH xs s) q ↔ q = (some (.int (-tSum T p set)), mkH xs s) := by
  obtain ⟨d, rfl⟩ := x_1 (d := d) (by omega)
  rw [x_ev_in rfl (Nat.le_of_ble_eq_true rfl)]
  rw [show x_ent (x_nL g_M 231) [.ref 110, .int (nI p), .int set] = [some (.ref 110), some (.int (nI p)), some (.int set)] from rfl]
  simp only [w_Ref_swingOf_0, w_Ref_swingOf_6, c_110, f_110_0, p_110_0, f_110_1, f_110_2, f_110_3, f_110_4, f_110_5, p_110_5, f_110_6, f_110_7, p_110_7, f_110_8, p_110_8, f_110_9, p_110_9, f_110_10, p_110_10, f_110_11, p_110_11, f_110_12, p_110_12, f_110_13, p_110_13, f_110_14, f_110_15, f_110_16, p_110_16, f_110_17, f_110_18, p_110_18, f_110_19, p_110_19, f_110_20, f_110_21, p_110_21, f_110_22, p_110_22, f_110_23, f_110_24, f_110_25, p_110_25, f_110_26, f_110_27, f_110_28, f_110_29, f_110_30, f_110_31, p_110_31, f_110_32, p_110_32, f_110_33, p_110_33, f_110_34, p_110_34, f_110_35, f_110_36, f_110_37, f_110_38, Option.some.injEq, exists_eq_left', exists_eq_left, Option.toList_some, Option.toList_none, List.cons_append, List.nil_append, true_and, and_true, Option.map_some, Option.map_none, r_sumOf (d := d) (by omega) hT hW hp]
  exact eq_comm
set_option maxHeartbeats 4000000 in
theorem r_fallIn (hd : 2 ≤ d) (hT : refT s 111 0 T) (hW : tWf T) {m : Nat} (hm : m < tM T) (set : Int32) : x_ev g_M P d 230 [.ref 110, .int set, .int (nI m)] (mkH xs s) q ↔ q = (some (.int (tFall T set m)), mkH xs s) := by
  have w2 := hW.2.1
  obtain ⟨d, rfl⟩ := x_1 (d := d) (by omega)
  rw [x_ev_in rfl (Nat.le_of_ble_eq_true rfl)]
  rw [show x_ent (x_nL g_M 230) [.ref 110, .int set, .int (nI m)] = [some (.ref 110), some (.int set), some (.int (nI m)), none, none] from rfl]
  have key := x_up (C := x_ev g_M P d) (k := 230) (r := q) (N := tM T) (F := fun n => (20, [some (.ref 110), some (.int set), some (.int (nI m)), some (.int (tFallN T set m n)), some (.int (nI n))], [], mkH xs s)) (fun n hn => by
    have hc : ¬ nI (tM T) ≤ nI n := nI_ge hn (by omega)
    simp only [w_Ref_fallIn_0, w_Ref_fallIn_5, w_Ref_fallIn_9, w_Ref_fallIn_15, w_Ref_fallIn_16, w_Ref_fallIn_26, w_Ref_fallIn_28, w_Ref_fallIn_31, w_Ref_fallIn_38, w_Ref_fallIn_42, w_Ref_fallIn_49, w_Ref_fallIn_54, w_Ref_fallIn_61, w_Ref_fallIn_62, w_Ref_fallIn_70, w_Ref_fallIn_20 (l4 := nI n), c_110, f_110_0, p_110_0, f_110_1, f_110_2, f_110_3, f_110_4, f_110_5, p_110_5, f_110_6, f_110_7, p_110_7, f_110_8, p_110_8, f_110_9, p_110_9, f_110_10, p_110_10, f_110_11, p_110_11, f_110_12, p_110_12, f_110_13, p_110_13, f_110_14, f_110_15, f_110_16, p_110_16, f_110_17, f_110_18, p_110_18, f_110_19, p_110_19, f_110_20, f_110_21, p_110_21, f_110_22, p_110_22, f_110_23, f_110_24, f_110_25, p_110_25, f_110_26, f_110_27, f_110_28, f_110_29, f_110_30, f_110_31, p_110_31, f_110_32, p_110_32, f_110_33, p_110_33, f_110_34, p_110_34, f_110_35, f_110_36, f_110_37, f_110_38, e_111, i_111, Option.some.injEq, exists_eq_left', exists_eq_left, Option.toList_some, Option.toList_none, List.cons_append, List.nil_append, true_and, and_true, Option.map_some, Option.map_none, x_w4 hT, hc, if_false, r_bit (d := d) (by omega), bit_1 (show n < 32 by omega), r_of4 (d := d) (by omega) hT hW hn, nI_1, tFallN]
    by_cases hb : bt set n = true
    · by_cases hf : (tOn T n &&& tFallN T set m n) = 0
      · simp only [hb, hf, not_true_eq_false, if_false, if_true, and_false, Int32.or_zero]
      · simp only [hb, hf, not_true_eq_false, not_false_eq_true, if_false, if_true, and_self]
        rfl
    · simp only [hb, not_false_eq_true, if_true, if_false, false_and, Bool.false_eq_true, Int32.or_zero]) 0 (Nat.zero_le _)
  have hend : x_R (x_ev g_M P d) 230 (20, [some (.ref 110), some (.int set), some (.int (nI m)), some (.int (tFallN T set m 0)), some (.int (nI 0))], [], mkH xs s) q ↔ q = (some (.int (tFall T set m)), mkH xs s) := by
    refine key.trans ?_
    simp only [w_Ref_fallIn_0, w_Ref_fallIn_5, w_Ref_fallIn_9, w_Ref_fallIn_15, w_Ref_fallIn_16, w_Ref_fallIn_26, w_Ref_fallIn_28, w_Ref_fallIn_31, w_Ref_fallIn_38, w_Ref_fallIn_42, w_Ref_fallIn_49, w_Ref_fallIn_54, w_Ref_fallIn_61, w_Ref_fallIn_62, w_Ref_fallIn_70, w_Ref_fallIn_20 (l4 := nI (tM T)), c_110, f_110_0, p_110_0, f_110_1, f_110_2, f_110_3, f_110_4, f_110_5, p_110_5, f_110_6, f_110_7, p_110_7, f_110_8, p_110_8, f_110_9, p_110_9, f_110_10, p_110_10, f_110_11, p_110_11, f_110_12, p_110_12, f_110_13, p_110_13, f_110_14, f_110_15, f_110_16, p_110_16, f_110_17, f_110_18, p_110_18, f_110_19, p_110_19, f_110_20, f_110_21, p_110_21, f_110_22, p_110_22, f_110_23, f_110_24, f_110_25, p_110_25, f_110_26, f_110_27, f_110_28, f_110_29, f_110_30, f_110_31, p_110_31, f_110_32, p_110_32, f_110_33, p_110_33, f_110_34, p_110_34, f_110_35, f_110_36, f_110_37, f_110_38, e_111, i_111, Option.some.injEq, exists_eq_left', exists_eq_left, Option.toList_some, Option.toList_none, List.cons_append, List.nil_append, true_and, and_true, Option.map_some, Option.map_none, x_w4 hT, show nI (tM T) ≤ nI (tM T) from Int32.le_refl _, if_true]
    exact eq_comm
  simp only [w_Ref_fallIn_0, w_Ref_fallIn_5, w_Ref_fallIn_9, w_Ref_fallIn_15, w_Ref_fallIn_16, w_Ref_fallIn_26, w_Ref_fallIn_28, w_Ref_fallIn_31, w_Ref_fallIn_38, w_Ref_fallIn_42, w_Ref_fallIn_49, w_Ref_fallIn_54, w_Ref_fallIn_61, w_Ref_fallIn_62, w_Ref_fallIn_70, c_110, f_110_0, p_110_0, f_110_1, f_110_2, f_110_3, f_110_4, f_110_5, p_110_5, f_110_6, f_110_7, p_110_7, f_110_8, p_110_8, f_110_9, p_110_9, f_110_10, p_110_10, f_110_11, p_110_11, f_110_12, p_110_12, f_110_13, p_110_13, f_110_14, f_110_15, f_110_16, p_110_16, f_110_17, f_110_18, p_110_18, f_110_19, p_110_19, f_110_20, f_110_21, p_110_21, f_110_22, p_110_22, f_110_23, f_110_24, f_110_25, p_110_25, f_110_26, f_110_27, f_110_28, f_110_29, f_110_30, f_110_31, p_110_31, f_110_32, p_110_32, f_110_33, p_110_33, f_110_34, p_110_34, f_110_35, f_110_36, f_110_37, f_110_38, Option.some.injEq, exists_eq_left', exists_eq_left, Option.toList_some, Option.toList_none, List.cons_append, List.nil_append, true_and, and_true, Option.map_some, Option.map_none, r_bit (d := d) (by omega), bit_1 (show m < 32 by omega)]
  refine Iff.trans ?_ hend
  rw [tFallN]
  by_cases hb : bt set m = true
  · simp only [hb, not_true_eq_false, if_false, if_true]
    exact Iff.rfl
  · simp only [hb, not_false_eq_true, if_true, if_false, Bool.false_eq_true]
    exact Iff.rfl
theorem r_agrees (hd : 5 ≤ d) (hT : refT s 111 0 T) (hW : tWf T) {p m : Nat} (hp : p < tP T) (hm : m < tM T) (f : Int32) : x_ev g_M P d 232 [.ref 110, .int (nI p), .int (nI m), .int f] (mkH xs s) q ↔ q = (some (.int (b01 (tAgr T p m (-tSum T p f)))), mkH xs s) := by
  obtain ⟨d, rfl⟩ := x_1 (d := d) (by omega)
  rw [x_ev_in rfl (Nat.le_of_ble_eq_true rfl)]
  rw [show x_ent (x_nL g_M 232) [.ref 110, .int (nI p), .int (nI m), .int f] = [some (.ref 110), some (.int (nI p)), some (.int (nI m)), some (.int f)] from rfl]
  simp only [w_Ref_agrees_0, w_Ref_agrees_7, w_Ref_agrees_11, w_Ref_agrees_16, w_Ref_agrees_19, w_Ref_agrees_25, w_Ref_agrees_28, w_Ref_agrees_32, w_Ref_agrees_33, c_110, f_110_0, p_110_0, f_110_1, f_110_2, f_110_3, f_110_4, f_110_5, p_110_5, f_110_6, f_110_7, p_110_7, f_110_8, p_110_8, f_110_9, p_110_9, f_110_10, p_110_10, f_110_11, p_110_11, f_110_12, p_110_12, f_110_13, p_110_13, f_110_14, f_110_15, f_110_16, p_110_16, f_110_17, f_110_18, p_110_18, f_110_19, p_110_19, f_110_20, f_110_21, p_110_21, f_110_22, p_110_22, f_110_23, f_110_24, f_110_25, p_110_25, f_110_26, f_110_27, f_110_28, f_110_29, f_110_30, f_110_31, p_110_31, f_110_32, p_110_32, f_110_33, p_110_33, f_110_34, p_110_34, f_110_35, f_110_36, f_110_37, f_110_38, Option.some.injEq, exists_eq_left', exists_eq_left, Option.toList_some, Option.toList_none, List.cons_append, List.nil_append, true_and, and_true, Option.map_some, Option.map_none, r_of6 (d := d) (by omega) hT hW hm, b01_1, r_isStubborn (d := d) (by omega) hT hW hp, r_swingOf (d := d) (by omega) hT hW hp, x_nb0, x_nb1]
  have hle : 0 ≤ -tSum T p f ↔ ¬ -tSum T p f < 0 := Int32.not_lt.symm
  unfold tAgr b01
  by_cases hj : tJug T m = true <;> by_cases hs : tSt T p = true <;> by_cases hw : -tSum T p f < 0 <;> simp [hj, hs, hw, hle, eq_comm (a := q)]
set_option maxHeartbeats 4000000 in
theorem r_settledNow (hd : 1 ≤ d) (hA : refS s T A) (hAw : aWf T A) (hW : tWf T) : x_ev g_M P d 228 [.ref 110] (mkH xs s) q ↔ q = (some (.int (msk A.1)), mkH xs s) := by
  have h8 := hAw.2.2
  have w2 := hW.2.1
  obtain ⟨a1, a2, a3, a4, a5⟩ := hA
  obtain ⟨d, rfl⟩ := x_1 (d := d) (by omega)
  rw [x_ev_in rfl (Nat.le_of_ble_eq_true rfl)]
  rw [show x_ent (x_nL g_M 228) [.ref 110] = [some (.ref 110), none, none] from rfl]
  rw [w_Ref_settledNow_0]
  have hm32 : ∀ i, ∀ x ∈ A.1.take i, x < 32 := fun i x hx => by have := hAw.1 x (List.mem_of_mem_take hx); omega
  have key := x_up (C := x_ev g_M P d) (k := 228) (r := q) (N := A.1.length) (F := fun i => (4, [some (.ref 110), some (.int (msk (A.1.take i))), some (.int (nI i))], [], mkH xs s)) (fun i hi => by
    have hc : ¬ nI A.1.length ≤ nI i := nI_ge hi (by omega)
    have hx : x_rd (s.1 117) 8 (nI i) = some (nI (lo A.1 i)) := by rw [x_rd_nI (by omega) (by omega), a2 i hi]
    have hl := lo_lt hAw hi
    simp only [w_Ref_settledNow_0, w_Ref_settledNow_9, w_Ref_settledNow_12, w_Ref_settledNow_18, w_Ref_settledNow_20, w_Ref_settledNow_29, w_Ref_settledNow_4 (l2 := nI i), c_110, f_110_0, p_110_0, f_110_1, f_110_2, f_110_3, f_110_4, f_110_5, p_110_5, f_110_6, f_110_7, p_110_7, f_110_8, p_110_8, f_110_9, p_110_9, f_110_10, p_110_10, f_110_11, p_110_11, f_110_12, p_110_12, f_110_13, p_110_13, f_110_14, f_110_15, f_110_16, p_110_16, f_110_17, f_110_18, p_110_18, f_110_19, p_110_19, f_110_20, f_110_21, p_110_21, f_110_22, p_110_22, f_110_23, f_110_24, f_110_25, p_110_25, f_110_26, f_110_27, f_110_28, f_110_29, f_110_30, f_110_31, p_110_31, f_110_32, p_110_32, f_110_33, p_110_33, f_110_34, p_110_34, f_110_35, f_110_36, f_110_37, f_110_38, e_117, i_117, Option.some.injEq, exists_eq_left', exists_eq_left, Option.toList_some, Option.toList_none, List.cons_append, List.nil_append, true_and, and_true, Option.map_some, Option.map_none, a1, hc, if_false, hx, nI_1]
    rw [take_snoc A.1 hi, msk_app _ _ (hm32 i) (by omega)]
    exact Iff.rfl) 0 (Nat.zero_le _)
  refine key.trans ?_
  rw [List.take_length]
  simp only [w_Ref_settledNow_0, w_Ref_settledNow_9, w_Ref_settledNow_12, w_Ref_settledNow_18, w_Ref_settledNow_20, w_Ref_settledNow_29, w_Ref_settledNow_4 (l2 := nI A.1.length), c_110, f_110_0, p_110_0, f_110_1, f_110_2, f_110_3, f_110_4, f_110_5, p_110_5, f_110_6, f_110_7, p_110_7, f_110_8, p_110_8, f_110_9, p_110_9, f_110_10, p_110_10, f_110_11, p_110_11, f_110_12, p_110_12, f_110_13, p_110_13, f_110_14, f_110_15, f_110_16, p_110_16, f_110_17, f_110_18, p_110_18, f_110_19, p_110_19, f_110_20, f_110_21, p_110_21, f_110_22, p_110_22, f_110_23, f_110_24, f_110_25, p_110_25, f_110_26, f_110_27, f_110_28, f_110_29, f_110_30, f_110_31, p_110_31, f_110_32, p_110_32, f_110_33, p_110_33, f_110_34, p_110_34, f_110_35, f_110_36, f_110_37, f_110_38, e_117, i_117, Option.some.injEq, exists_eq_left', exists_eq_left, Option.toList_some, Option.toList_none, List.cons_append, List.nil_append, true_and, and_true, Option.map_some, Option.map_none, a1, show nI A.1.length ≤ nI A.1.length from Int32.le_refl _, if_true]
  exact eq_comm
theorem r_isOpen (hd : 2 ≤ d) (hT : refT s 111 0 T) (hW : tWf T) (hA : refS s T A) (hAw : aWf T A) {m : Nat} (hm : m < tM T) : x_ev g_M P d 229 [.ref 110, .int (nI m)] (mkH xs s) q ↔ q = (some (.int (b01 (tOpen T (msk A.1) m))), mkH xs s) := by
  have w2 := hW.2.1
  obtain ⟨d, rfl⟩ := x_1 (d := d) (by omega)
  rw [x_ev_in rfl (Nat.le_of_ble_eq_true rfl)]
  rw [show x_ent (x_nL g_M 229) [.ref 110, .int (nI m)] = [some (.ref 110), some (.int (nI m))] from rfl]
  simp only [w_Ref_isOpen_0, w_Ref_isOpen_4, w_Ref_isOpen_8, w_Ref_isOpen_11, w_Ref_isOpen_17, w_Ref_isOpen_21, w_Ref_isOpen_27, w_Ref_isOpen_31, w_Ref_isOpen_32, c_110, f_110_0, p_110_0, f_110_1, f_110_2, f_110_3, f_110_4, f_110_5, p_110_5, f_110_6, f_110_7, p_110_7, f_110_8, p_110_8, f_110_9, p_110_9, f_110_10, p_110_10, f_110_11, p_110_11, f_110_12, p_110_12, f_110_13, p_110_13, f_110_14, f_110_15, f_110_16, p_110_16, f_110_17, f_110_18, p_110_18, f_110_19, p_110_19, f_110_20, f_110_21, p_110_21, f_110_22, p_110_22, f_110_23, f_110_24, f_110_25, p_110_25, f_110_26, f_110_27, f_110_28, f_110_29, f_110_30, f_110_31, p_110_31, f_110_32, p_110_32, f_110_33, p_110_33, f_110_34, p_110_34, f_110_35, f_110_36, f_110_37, f_110_38, Option.some.injEq, exists_eq_left', exists_eq_left, Option.toList_some, Option.toList_none, List.cons_append, List.nil_append, true_and, and_true, Option.map_some, Option.map_none, r_settledNow (d := d) (by omega) hA hAw hW, r_bit (d := d) (by omega), bit_0 (show m < 32 by omega), r_of4 (d := d) (by omega) hT hW hm, x_nb0, x_nb1]
  unfold tOpen b01
  by_cases h1 : bt (msk A.1) m = false
  · by_cases h2 : (tOn T m &&& (msk A.1 ^^^ (-1))) = 0
    · simp only [h1, h2, not_true_eq_false, if_false, Bool.not_false, decide_true, Bool.and_self, if_true]
      exact eq_comm
    · simp only [h1, h2, not_true_eq_false, not_false_eq_true, if_false, if_true, Bool.not_false, decide_false, Bool.and_false, Bool.false_eq_true]
      exact eq_comm
  · have h1' : bt (msk A.1) m = true := by simpa using h1
    simp only [h1', not_false_eq_true, if_true, Bool.not_true, Bool.false_and, Bool.false_eq_true, if_false, Bool.true_eq_false]
    exact eq_comm
set_option maxHeartbeats 4000000 in
theorem r_lastOf (hd : 3 ≤ d) (hT : refT s 111 0 T) (hW : tWf T) (hA : refS s T A) (hAw : aWf T A) {j : Nat} (hj : j < tP T) : x_ev g_M P d 233 [.ref 110, .int (nI j)] (mkH xs s) q ↔ q = (some (.int (optI (aLast T A j))), mkH xs s) := by
  have h8 := hAw.2.2
  have w2 := hW.2.1
  obtain ⟨a1, a2, a3, a4, a5⟩ := hA
  obtain ⟨d, rfl⟩ := x_1 (d := d) (by omega)
  rw [x_ev_in rfl (Nat.le_of_ble_eq_true rfl)]
  rw [show x_ent (x_nL g_M 233) [.ref 110, .int (nI j)] = [some (.ref 110), some (.int (nI j)), none] from rfl]
  have key : ∀ n, n ≤ A.1.length → (x_R (x_ev g_M P d) 233 (7, [some (.ref 110), some (.int (nI j)), some (.int (nI n - 1))], [], mkH xs s) q ↔ q = (some (.int (optI (lastN T A.1 j n))), mkH xs s)) := by
    intro n
    induction n with
    | zero =>
      intro _
      simp only [w_Ref_lastOf_0, w_Ref_lastOf_4, w_Ref_lastOf_7, w_Ref_lastOf_11, w_Ref_lastOf_17, w_Ref_lastOf_19, w_Ref_lastOf_22, w_Ref_lastOf_25, w_Ref_lastOf_29, w_Ref_lastOf_31, w_Ref_lastOf_32, w_Ref_lastOf_38, show nI 0 - 1 < 0 by decide, if_true, lastN, optI]
      exact eq_comm
    | succ n ih =>
      intro hn
      have hlt : lo A.1 n < tM T := lo_lt hAw (by omega)
      have ho : x_rd (s.1 117) 8 (nI n) = some (nI (lo A.1 n)) := by rw [x_rd_nI (by omega) (by omega), a2 n (by omega)]
      rw [nI_pred]
      simp only [w_Ref_lastOf_0, w_Ref_lastOf_4, w_Ref_lastOf_11, w_Ref_lastOf_17, w_Ref_lastOf_19, w_Ref_lastOf_22, w_Ref_lastOf_25, w_Ref_lastOf_29, w_Ref_lastOf_31, w_Ref_lastOf_32, w_Ref_lastOf_38, w_Ref_lastOf_7 (l2 := nI n), c_110, f_110_0, p_110_0, f_110_1, f_110_2, f_110_3, f_110_4, f_110_5, p_110_5, f_110_6, f_110_7, p_110_7, f_110_8, p_110_8, f_110_9, p_110_9, f_110_10, p_110_10, f_110_11, p_110_11, f_110_12, p_110_12, f_110_13, p_110_13, f_110_14, f_110_15, f_110_16, p_110_16, f_110_17, f_110_18, p_110_18, f_110_19, p_110_19, f_110_20, f_110_21, p_110_21, f_110_22, p_110_22, f_110_23, f_110_24, f_110_25, p_110_25, f_110_26, f_110_27, f_110_28, f_110_29, f_110_30, f_110_31, p_110_31, f_110_32, p_110_32, f_110_33, p_110_33, f_110_34, p_110_34, f_110_35, f_110_36, f_110_37, f_110_38, e_117, i_117, Option.some.injEq, exists_eq_left', exists_eq_left, Option.toList_some, Option.toList_none, List.cons_append, List.nil_append, true_and, and_true, Option.map_some, Option.map_none, nI_pos (show n < 2 ^ 31 by omega), if_false, ho, r_isParty (d := d) (by omega) hT hW hj hlt, nI_dn]
      rw [lastN]
      cases hi : tIs T j (lo A.1 n)
      · simp only [b01, Bool.false_eq_true, if_false, if_true]
        exact ih (by omega)
      · simp only [b01, if_true, show ¬ ((1 : Int32) = 0) by decide, if_false, optI]
        exact eq_comm
  simp only [w_Ref_lastOf_0, w_Ref_lastOf_4, w_Ref_lastOf_11, w_Ref_lastOf_17, w_Ref_lastOf_19, w_Ref_lastOf_22, w_Ref_lastOf_25, w_Ref_lastOf_29, w_Ref_lastOf_31, w_Ref_lastOf_32, w_Ref_lastOf_38, c_110, f_110_0, p_110_0, f_110_1, f_110_2, f_110_3, f_110_4, f_110_5, p_110_5, f_110_6, f_110_7, p_110_7, f_110_8, p_110_8, f_110_9, p_110_9, f_110_10, p_110_10, f_110_11, p_110_11, f_110_12, p_110_12, f_110_13, p_110_13, f_110_14, f_110_15, f_110_16, p_110_16, f_110_17, f_110_18, p_110_18, f_110_19, p_110_19, f_110_20, f_110_21, p_110_21, f_110_22, p_110_22, f_110_23, f_110_24, f_110_25, p_110_25, f_110_26, f_110_27, f_110_28, f_110_29, f_110_30, f_110_31, p_110_31, f_110_32, p_110_32, f_110_33, p_110_33, f_110_34, p_110_34, f_110_35, f_110_36, f_110_37, f_110_38, Option.some.injEq, exists_eq_left', exists_eq_left, Option.toList_some, Option.toList_none, List.cons_append, List.nil_append, true_and, and_true, Option.map_some, Option.map_none, a1]
  exact key A.1.length (Nat.le_refl _)
end REF
