/-! THE READER of the reference: see, advance, good, errs (own work) -/
theorem i_by {x : Int32} (h : -128 ≤ x ∧ x ≤ 127) : ∃ j, j < 256 ∧ x = nI j - nI 128 := by
  have e1 : (-128 : Int32).toInt = -128 := rfl
  have e2 : (127 : Int32).toInt = 127 := rfl
  rw [Int32.le_iff_toInt_le, Int32.le_iff_toInt_le, e1, e2] at h
  refine ⟨(x.toInt + 128).toNat, by omega, ?_⟩
  apply Int32.toInt_inj.mp
  rw [pk_sub_toInt (by omega) (by omega)]
  omega
def inLt (v : Int32) : Int32 := if v.toInt64 < 97 then 0 else if 122 < v.toInt64 then 0 else 1
def inDg (v : Int32) : Int32 := if v.toInt64 < 48 then 0 else if 57 < v.toInt64 then 0 else 1
theorem u8_all : ∀ j, j < 256 → (((nI j - nI 128) &&& 255 = 32 ↔ nI j - nI 128 = 32) ∧ ((nI j - nI 128) &&& 255 = 10 ↔ nI j - nI 128 = 10) ∧ ((nI j - nI 128) &&& 255 = 59 ↔ nI j - nI 128 = 59) ∧ ¬ (nI j - nI 128) &&& 255 = -1) ∧ inLt ((nI j - nI 128) &&& 255) = b01 (isLt (nI j - nI 128)) ∧ inDg ((nI j - nI 128) &&& 255) = b01 (isDg (nI j - nI 128)) ∧ (isDg (nI j - nI 128) = true → (nI j - nI 128) &&& 255 = nI j - nI 128) := by decide +kernel
theorem u8_1 {x : Int32} (h : -128 ≤ x ∧ x ≤ 127) : ((x &&& 255 = 32 ↔ x = 32) ∧ (x &&& 255 = 10 ↔ x = 10) ∧ (x &&& 255 = 59 ↔ x = 59) ∧ ¬ x &&& 255 = -1) ∧ inLt (x &&& 255) = b01 (isLt x) ∧ inDg (x &&& 255) = b01 (isDg x) ∧ (isDg x = true → x &&& 255 = x) := by
  obtain ⟨j, hj, rfl⟩ := i_by h
  exact u8_all j hj
def seeT (b : Nat → Int32) (n i : Nat) : Int32 := if i < n then b i &&& 255 else -1
def tpR (s : xS) (b : Nat → Int32) (n : Nat) : Prop := n ≤ 900 ∧ (∀ i, i < 900 → s.1 114 i = b i) ∧ ∀ i, -128 ≤ b i ∧ b i ≤ 127
def tkR (s : xS) (b : Nat → Int32) (n : Nat) (t : Tk) : Prop := s.1 110 7 = nI n ∧ s.1 110 8 = nI (enT b n t.1) ∧ s.1 110 9 = nI t.1 ∧ s.1 110 10 = nI (kdT b n t.1) ∧ (kdT b n t.1 = 2 → s.1 110 11 = nI (vR b n t.1)) ∧ s.1 110 12 = fkN t.2 ∧ s.1 110 13 = fpN t.2
def offU (s s' : xS) : Prop := (∀ q, q ≠ 110 → s'.1 q = s.1 q) ∧ (∀ k, k < 8 ∨ 13 < k → s'.1 110 k = s.1 110 k) ∧ s'.2 = s.2
theorem offU.rf {s : xS} : offU s s := ⟨fun _ _ => rfl, fun _ _ => rfl, rfl⟩
theorem offU.tr {s s' s'' : xS} (h : offU s s') (h2 : offU s' s'') : offU s s'' := ⟨fun q a => (h2.1 q a).trans (h.1 q a), fun k a => (h2.2.1 k a).trans (h.2.1 k a), h2.2.2.trans h.2.2⟩
theorem tpR.off {s s' : xS} {b : Nat → Int32} {n : Nat} (h : s'.1 114 = s.1 114) (ht : tpR s b n) : tpR s' b n := ⟨ht.1, fun i hi => by rw [h]; exact ht.2.1 i hi, ht.2.2⟩
section RTOK
variable {P : Nat → List Value → Option Value} {d : Nat} {xs : List Int32} {b : Nat → Int32} {n : Nat}
theorem r_see (hd : 1 ≤ d) {s : xS} (ht : tpR s b n) (h7 : s.1 110 7 = nI n) {i : Nat} (hi : i ≤ n) {q : Option Value × xH} : x_ev g_M P d 208 [.ref 110, .int (nI i)] (mkH xs s) q ↔ q = (some (.int (seeT b n i)), mkH xs s) := by
  obtain ⟨h9, hb, -⟩ := ht
  unfold seeT
  obtain ⟨d, rfl⟩ := x_1 (d := d) (by omega)
  rw [x_ev_in rfl (Nat.le_of_ble_eq_true rfl)]
  rw [show x_ent (x_nL g_M 208) [.ref 110, .int (nI i)] = [some (.ref 110), some (.int (nI i))] from rfl]
  by_cases hin : i < n
  · have hc : ¬ nI n ≤ nI i := nI_ge hin (by omega)
    have hx : x_rd (s.1 114) 900 (nI i) = some (b i) := by rw [x_rd_nI (by omega) (by omega), hb i (by omega)]
    simp only [w_Ref_see_0, w_Ref_see_5, w_Ref_see_8, w_Ref_see_12, w_Ref_see_14, w_Ref_see_21, w_Ref_see_22, c_110, f_110_0, p_110_0, f_110_1, f_110_2, f_110_3, f_110_4, f_110_5, p_110_5, f_110_6, f_110_7, p_110_7, f_110_8, p_110_8, f_110_9, p_110_9, f_110_10, p_110_10, f_110_11, p_110_11, f_110_12, p_110_12, f_110_13, p_110_13, f_110_14, f_110_15, f_110_16, p_110_16, f_110_17, f_110_18, p_110_18, f_110_19, p_110_19, f_110_20, f_110_21, p_110_21, f_110_22, p_110_22, f_110_23, f_110_24, f_110_25, p_110_25, f_110_26, f_110_27, f_110_28, f_110_29, f_110_30, f_110_31, p_110_31, f_110_32, p_110_32, f_110_33, p_110_33, f_110_34, p_110_34, f_110_35, f_110_36, f_110_37, f_110_38, e_114, i_114, Option.some.injEq, exists_eq_left', exists_eq_left, Option.toList_some, Option.toList_none, List.cons_append, List.nil_append, true_and, and_true, Option.map_some, Option.map_none, h7, hc, if_false, hx, hin, if_true]
    exact eq_comm
  · have hc : nI n ≤ nI i := nI_le (by omega) (by omega)
    simp only [w_Ref_see_0, w_Ref_see_5, w_Ref_see_8, w_Ref_see_12, w_Ref_see_14, w_Ref_see_21, w_Ref_see_22, c_110, f_110_0, p_110_0, f_110_1, f_110_2, f_110_3, f_110_4, f_110_5, p_110_5, f_110_6, f_110_7, p_110_7, f_110_8, p_110_8, f_110_9, p_110_9, f_110_10, p_110_10, f_110_11, p_110_11, f_110_12, p_110_12, f_110_13, p_110_13, f_110_14, f_110_15, f_110_16, p_110_16, f_110_17, f_110_18, p_110_18, f_110_19, p_110_19, f_110_20, f_110_21, p_110_21, f_110_22, p_110_22, f_110_23, f_110_24, f_110_25, p_110_25, f_110_26, f_110_27, f_110_28, f_110_29, f_110_30, f_110_31, p_110_31, f_110_32, p_110_32, f_110_33, p_110_33, f_110_34, p_110_34, f_110_35, f_110_36, f_110_37, f_110_38, Option.some.injEq, exists_eq_left', exists_eq_left, Option.toList_some, Option.toList_none, List.cons_append, List.nil_append, true_and, and_true, Option.map_some, Option.map_none, h7, hc, if_true, hin, if_false]
    exact eq_comm
theorem r_ad1 (hd : 1 ≤ d) : ∀ (k i : Nat) (z : xS), i + k = n → tpR z b n → z.1 110 7 = nI n → z.1 110 8 = nI i → ∃ z', oC 110 8 z z' ∧ z'.1 110 8 = nI (rn isSp b k i) ∧ ∀ r, x_R (x_ev g_M P d) 209 (0, [some (.ref 110), none], [], mkH xs z) r ↔ x_R (x_ev g_M P d) 209 (39, [some (.ref 110), none], [], mkH xs z') r := by
  intro k
  induction k with
  | zero =>
    intro i z hi ht h7 h8
    refine ⟨z, oC.rf, h8, fun r => ?_⟩
    have hs : seeT b n i = -1 := by unfold seeT; rw [if_neg (by omega)]
    simp only [w_Ref_advance_0, w_Ref_advance_5, w_Ref_advance_8, w_Ref_advance_13, w_Ref_advance_18, w_Ref_advance_21, c_110, f_110_0, p_110_0, f_110_1, f_110_2, f_110_3, f_110_4, f_110_5, p_110_5, f_110_6, f_110_7, p_110_7, f_110_8, p_110_8, f_110_9, p_110_9, f_110_10, p_110_10, f_110_11, p_110_11, f_110_12, p_110_12, f_110_13, p_110_13, f_110_14, f_110_15, f_110_16, p_110_16, f_110_17, f_110_18, p_110_18, f_110_19, p_110_19, f_110_20, f_110_21, p_110_21, f_110_22, p_110_22, f_110_23, f_110_24, f_110_25, p_110_25, f_110_26, f_110_27, f_110_28, f_110_29, f_110_30, f_110_31, p_110_31, f_110_32, p_110_32, f_110_33, p_110_33, f_110_34, p_110_34, f_110_35, f_110_36, f_110_37, f_110_38, Option.some.injEq, exists_eq_left', exists_eq_left, Option.toList_some, Option.toList_none, List.cons_append, List.nil_append, true_and, and_true, Option.map_some, Option.map_none, h8, r_see (d := d) hd ht h7 (show i ≤ n by omega), hs, show ¬ ((-1 : Int32) = 32) by decide, show ¬ ((-1 : Int32) = 10) by decide, if_false, not_false_eq_true, if_true]
  | succ k ih =>
    intro i z hi ht h7 h8
    have hu := u8_1 (ht.2.2 i)
    have hs : seeT b n i = b i &&& 255 := by unfold seeT; rw [if_pos (by omega)]
    by_cases hsp : isSp (b i) = true
    · have o1 := oC_p z 110 8 (nI (i + 1))
      obtain ⟨z', g1, g2, g3⟩ := ih (i + 1) (s_p z 110 8 (nI (i + 1))) (by omega) (ht.off (o1.1 114 (by omega))) (by rw [o1.2.1 7 (by omega)]; exact h7) (s_p_v _ _ _ _)
      refine ⟨z', o1.tr g1, by rw [rn, if_pos hsp]; exact g2, fun r => ?_⟩
      rw [← g3 r]
      rcases isSp_1 hsp with h | h
      · have e : b i &&& 255 = 32 := hu.1.1.mpr h
        simp only [w_Ref_advance_0 (l0 := 110) (h := mkH xs z), w_Ref_advance_5, w_Ref_advance_8, w_Ref_advance_26, w_Ref_advance_31, w_Ref_advance_36, c_110, f_110_0, p_110_0, f_110_1, f_110_2, f_110_3, f_110_4, f_110_5, p_110_5, f_110_6, f_110_7, p_110_7, f_110_8, p_110_8, f_110_9, p_110_9, f_110_10, p_110_10, f_110_11, p_110_11, f_110_12, p_110_12, f_110_13, p_110_13, f_110_14, f_110_15, f_110_16, p_110_16, f_110_17, f_110_18, p_110_18, f_110_19, p_110_19, f_110_20, f_110_21, p_110_21, f_110_22, p_110_22, f_110_23, f_110_24, f_110_25, p_110_25, f_110_26, f_110_27, f_110_28, f_110_29, f_110_30, f_110_31, p_110_31, f_110_32, p_110_32, f_110_33, p_110_33, f_110_34, p_110_34, f_110_35, f_110_36, f_110_37, f_110_38, Option.some.injEq, exists_eq_left', exists_eq_left, Option.toList_some, Option.toList_none, List.cons_append, List.nil_append, true_and, and_true, Option.map_some, Option.map_none, h8, r_see (d := d) hd ht h7 (show i ≤ n by omega), hs, e, if_true, nI_1]
      · have e : b i &&& 255 = 10 := hu.1.2.1.mpr h
        simp only [w_Ref_advance_0 (l0 := 110) (h := mkH xs z), w_Ref_advance_5, w_Ref_advance_8, w_Ref_advance_13, w_Ref_advance_18, w_Ref_advance_21, w_Ref_advance_26, w_Ref_advance_31, w_Ref_advance_36, c_110, f_110_0, p_110_0, f_110_1, f_110_2, f_110_3, f_110_4, f_110_5, p_110_5, f_110_6, f_110_7, p_110_7, f_110_8, p_110_8, f_110_9, p_110_9, f_110_10, p_110_10, f_110_11, p_110_11, f_110_12, p_110_12, f_110_13, p_110_13, f_110_14, f_110_15, f_110_16, p_110_16, f_110_17, f_110_18, p_110_18, f_110_19, p_110_19, f_110_20, f_110_21, p_110_21, f_110_22, p_110_22, f_110_23, f_110_24, f_110_25, p_110_25, f_110_26, f_110_27, f_110_28, f_110_29, f_110_30, f_110_31, p_110_31, f_110_32, p_110_32, f_110_33, p_110_33, f_110_34, p_110_34, f_110_35, f_110_36, f_110_37, f_110_38, Option.some.injEq, exists_eq_left', exists_eq_left, Option.toList_some, Option.toList_none, List.cons_append, List.nil_append, true_and, and_true, Option.map_some, Option.map_none, h8, r_see (d := d) hd ht h7 (show i ≤ n by omega), hs, e, show ¬ ((10 : Int32) = 32) by decide, not_true_eq_false, if_false, nI_1]
    · refine ⟨z, oC.rf, by rw [rn, if_neg hsp]; exact h8, fun r => ?_⟩
      have n1 : ¬ b i &&& 255 = 32 := fun h => hsp (by rw [hu.1.1.mp h]; decide)
      have n2 : ¬ b i &&& 255 = 10 := fun h => hsp (by rw [hu.1.2.1.mp h]; decide)
      simp only [w_Ref_advance_0 (l0 := 110) (h := mkH xs z), w_Ref_advance_5, w_Ref_advance_8, w_Ref_advance_13, w_Ref_advance_18, w_Ref_advance_21, c_110, f_110_0, p_110_0, f_110_1, f_110_2, f_110_3, f_110_4, f_110_5, p_110_5, f_110_6, f_110_7, p_110_7, f_110_8, p_110_8, f_110_9, p_110_9, f_110_10, p_110_10, f_110_11, p_110_11, f_110_12, p_110_12, f_110_13, p_110_13, f_110_14, f_110_15, f_110_16, p_110_16, f_110_17, f_110_18, p_110_18, f_110_19, p_110_19, f_110_20, f_110_21, p_110_21, f_110_22, p_110_22, f_110_23, f_110_24, f_110_25, p_110_25, f_110_26, f_110_27, f_110_28, f_110_29, f_110_30, f_110_31, p_110_31, f_110_32, p_110_32, f_110_33, p_110_33, f_110_34, p_110_34, f_110_35, f_110_36, f_110_37, f_110_38, Option.some.injEq, exists_eq_left', exists_eq_left, Option.toList_some, Option.toList_none, List.cons_append, List.nil_append, true_and, and_true, Option.map_some, Option.map_none, h8, r_see (d := d) hd ht h7 (show i ≤ n by omega), hs, n1, n2, if_false, not_false_eq_true, if_true]
theorem r_inL (hd : 1 ≤ d) (v : Int32) (h : xH) (q : Option Value × xH) : x_ev g_M P d 189 [.long v.toInt64, .long 97, .long 122] h q ↔ q = (some (.int (inLt v)), h) := by
  obtain ⟨d, rfl⟩ := x_1 (d := d) (by omega)
  rw [x_ev_in rfl (Nat.le_of_ble_eq_true rfl)]
  rw [show x_ent (x_nL g_M 189) [.long v.toInt64, .long 97, .long 122] = [some (.long v.toInt64), none, some (.long 97), none, some (.long 122), none] from rfl]
  unfold inLt
  simp only [w_Ref_in_0, w_Ref_in_6, w_Ref_in_13, w_Ref_in_17, w_Ref_in_18, lg_cmp_lt, lg_cmp_gt, x_nb0, x_nb1, Option.some.injEq, exists_eq_left', exists_eq_left, Option.toList_some, Option.toList_none, List.cons_append, List.nil_append, true_and, and_true, Option.map_some, Option.map_none, x_if2]
  exact eq_comm
theorem r_inD (hd : 1 ≤ d) (v : Int32) (h : xH) (q : Option Value × xH) : x_ev g_M P d 189 [.long v.toInt64, .long 48, .long 57] h q ↔ q = (some (.int (inDg v)), h) := by
  obtain ⟨d, rfl⟩ := x_1 (d := d) (by omega)
  rw [x_ev_in rfl (Nat.le_of_ble_eq_true rfl)]
  rw [show x_ent (x_nL g_M 189) [.long v.toInt64, .long 48, .long 57] = [some (.long v.toInt64), none, some (.long 48), none, some (.long 57), none] from rfl]
  unfold inDg
  simp only [w_Ref_in_0, w_Ref_in_6, w_Ref_in_13, w_Ref_in_17, w_Ref_in_18, lg_cmp_lt, lg_cmp_gt, x_nb0, x_nb1, Option.some.injEq, exists_eq_left', exists_eq_left, Option.toList_some, Option.toList_none, List.cons_append, List.nil_append, true_and, and_true, Option.map_some, Option.map_none, x_if2]
  exact eq_comm
theorem r_ad2 (hd : 1 ≤ d) {v : Int32} : ∀ (k i : Nat) (z : xS), i + k = n → tpR z b n → z.1 110 7 = nI n → z.1 110 8 = nI i → ∃ z', oC 110 8 z z' ∧ z'.1 110 8 = nI (rn isLt b k i) ∧ ∀ r, x_R (x_ev g_M P d) 209 (83, [some (.ref 110), some (.int v)], [], mkH xs z) r ↔ x_R (x_ev g_M P d) 209 (117, [some (.ref 110), some (.int v)], [], mkH xs z') r := by
  intro k
  induction k with
  | zero =>
    intro i z hi ht h7 h8
    refine ⟨z, oC.rf, h8, fun r => ?_⟩
    have hs : seeT b n i = -1 := by unfold seeT; rw [if_neg (by omega)]
    simp only [w_Ref_advance_83, w_Ref_advance_88, w_Ref_advance_91, w_Ref_advance_101, c_110, f_110_0, p_110_0, f_110_1, f_110_2, f_110_3, f_110_4, f_110_5, p_110_5, f_110_6, f_110_7, p_110_7, f_110_8, p_110_8, f_110_9, p_110_9, f_110_10, p_110_10, f_110_11, p_110_11, f_110_12, p_110_12, f_110_13, p_110_13, f_110_14, f_110_15, f_110_16, p_110_16, f_110_17, f_110_18, p_110_18, f_110_19, p_110_19, f_110_20, f_110_21, p_110_21, f_110_22, p_110_22, f_110_23, f_110_24, f_110_25, p_110_25, f_110_26, f_110_27, f_110_28, f_110_29, f_110_30, f_110_31, p_110_31, f_110_32, p_110_32, f_110_33, p_110_33, f_110_34, p_110_34, f_110_35, f_110_36, f_110_37, f_110_38, Option.some.injEq, exists_eq_left', exists_eq_left, Option.toList_some, Option.toList_none, List.cons_append, List.nil_append, true_and, and_true, Option.map_some, Option.map_none, h8, r_see (d := d) hd ht h7 (show i ≤ n by omega), hs, r_inL (d := d) hd, show inLt (-1) = 0 by decide, if_true]
  | succ k ih =>
    intro i z hi ht h7 h8
    have hu := u8_1 (ht.2.2 i)
    have hs : seeT b n i = b i &&& 255 := by unfold seeT; rw [if_pos (by omega)]
    by_cases hsp : isLt (b i) = true
    · have o1 := oC_p z 110 8 (nI (i + 1))
      obtain ⟨z', g1, g2, g3⟩ := ih (i + 1) (s_p z 110 8 (nI (i + 1))) (by omega) (ht.off (o1.1 114 (by omega))) (by rw [o1.2.1 7 (by omega)]; exact h7) (s_p_v _ _ _ _)
      refine ⟨z', o1.tr g1, by rw [rn, if_pos hsp]; exact g2, fun r => ?_⟩
      rw [← g3 r]
      simp only [w_Ref_advance_83 (l0 := 110) (h := mkH xs z), w_Ref_advance_88, w_Ref_advance_91, w_Ref_advance_101, w_Ref_advance_104, w_Ref_advance_109, w_Ref_advance_114, c_110, f_110_0, p_110_0, f_110_1, f_110_2, f_110_3, f_110_4, f_110_5, p_110_5, f_110_6, f_110_7, p_110_7, f_110_8, p_110_8, f_110_9, p_110_9, f_110_10, p_110_10, f_110_11, p_110_11, f_110_12, p_110_12, f_110_13, p_110_13, f_110_14, f_110_15, f_110_16, p_110_16, f_110_17, f_110_18, p_110_18, f_110_19, p_110_19, f_110_20, f_110_21, p_110_21, f_110_22, p_110_22, f_110_23, f_110_24, f_110_25, p_110_25, f_110_26, f_110_27, f_110_28, f_110_29, f_110_30, f_110_31, p_110_31, f_110_32, p_110_32, f_110_33, p_110_33, f_110_34, p_110_34, f_110_35, f_110_36, f_110_37, f_110_38, Option.some.injEq, exists_eq_left', exists_eq_left, Option.toList_some, Option.toList_none, List.cons_append, List.nil_append, true_and, and_true, Option.map_some, Option.map_none, h8, r_see (d := d) hd ht h7 (show i ≤ n by omega), hs, r_inL (d := d) hd, hu.2.1, hsp, b01, if_true, show ¬ ((1 : Int32) = 0) by decide, if_false, nI_1]
    · refine ⟨z, oC.rf, by rw [rn, if_neg hsp]; exact h8, fun r => ?_⟩
      simp only [w_Ref_advance_83 (l0 := 110) (h := mkH xs z), w_Ref_advance_88, w_Ref_advance_91, w_Ref_advance_101, c_110, f_110_0, p_110_0, f_110_1, f_110_2, f_110_3, f_110_4, f_110_5, p_110_5, f_110_6, f_110_7, p_110_7, f_110_8, p_110_8, f_110_9, p_110_9, f_110_10, p_110_10, f_110_11, p_110_11, f_110_12, p_110_12, f_110_13, p_110_13, f_110_14, f_110_15, f_110_16, p_110_16, f_110_17, f_110_18, p_110_18, f_110_19, p_110_19, f_110_20, f_110_21, p_110_21, f_110_22, p_110_22, f_110_23, f_110_24, f_110_25, p_110_25, f_110_26, f_110_27, f_110_28, f_110_29, f_110_30, f_110_31, p_110_31, f_110_32, p_110_32, f_110_33, p_110_33, f_110_34, p_110_34, f_110_35, f_110_36, f_110_37, f_110_38, Option.some.injEq, exists_eq_left', exists_eq_left, Option.toList_some, Option.toList_none, List.cons_append, List.nil_append, true_and, and_true, Option.map_some, Option.map_none, h8, r_see (d := d) hd ht h7 (show i ≤ n by omega), hs, r_inL (d := d) hd, hu.2.1, hsp, b01, Bool.false_eq_true, if_false, if_true]
theorem r_ad3 (hd : 1 ≤ d) {v : Int32} : ∀ (k i w : Nat) (z : xS), i + k = n → w ≤ 99999 → tpR z b n → z.1 110 7 = nI n → z.1 110 8 = nI i → z.1 110 11 = nI w → ∃ z', ((∀ q, q ≠ 110 → z'.1 q = z.1 q) ∧ (∀ k, k ≠ 8 → k ≠ 11 → z'.1 110 k = z.1 110 k) ∧ z'.2 = z.2) ∧ z'.1 110 8 = nI (rn isDg b k i) ∧ z'.1 110 11 = nI (vlT b 99999 (rn isDg b k i - i) i w) ∧ ∀ r, x_R (x_ev g_M P d) 209 (144, [some (.ref 110), some (.int v)], [], mkH xs z) r ↔ x_R (x_ev g_M P d) 209 (206, [some (.ref 110), some (.int v)], [], mkH xs z') r := by
  intro k
  induction k with
  | zero =>
    intro i w z hi hw ht h7 h8 h11
    refine ⟨z, ⟨fun _ _ => rfl, fun _ _ _ => rfl, rfl⟩, h8, by rw [rn, Nat.sub_self]; exact h11, fun r => ?_⟩
    have hs : seeT b n i = -1 := by unfold seeT; rw [if_neg (by omega)]
    simp only [w_Ref_advance_144, w_Ref_advance_149, w_Ref_advance_152, w_Ref_advance_162, c_110, f_110_0, p_110_0, f_110_1, f_110_2, f_110_3, f_110_4, f_110_5, p_110_5, f_110_6, f_110_7, p_110_7, f_110_8, p_110_8, f_110_9, p_110_9, f_110_10, p_110_10, f_110_11, p_110_11, f_110_12, p_110_12, f_110_13, p_110_13, f_110_14, f_110_15, f_110_16, p_110_16, f_110_17, f_110_18, p_110_18, f_110_19, p_110_19, f_110_20, f_110_21, p_110_21, f_110_22, p_110_22, f_110_23, f_110_24, f_110_25, p_110_25, f_110_26, f_110_27, f_110_28, f_110_29, f_110_30, f_110_31, p_110_31, f_110_32, p_110_32, f_110_33, p_110_33, f_110_34, p_110_34, f_110_35, f_110_36, f_110_37, f_110_38, Option.some.injEq, exists_eq_left', exists_eq_left, Option.toList_some, Option.toList_none, List.cons_append, List.nil_append, true_and, and_true, Option.map_some, Option.map_none, h8, r_see (d := d) hd ht h7 (show i ≤ n by omega), hs, r_inD (d := d) hd, show inDg (-1) = 0 by decide, if_true]
  | succ k ih =>
    intro i w z hi hw ht h7 h8 h11
    have hu := u8_1 (ht.2.2 i)
    have hs : seeT b n i = b i &&& 255 := by unfold seeT; rw [if_pos (by omega)]
    by_cases hsp : isDg (b i) = true
    · have h10 := (dg_n hsp).2
      have hm : (if nI (10 * w + dgN (b i)) < 99999 then nI (10 * w + dgN (b i)) else 99999) = nI (min (10 * w + dgN (b i)) 99999) := nI_mn (K := 99999) (by omega) (by omega)
      have o1 := oC_p z 110 11 (nI (min (10 * w + dgN (b i)) 99999))
      have o2 := oC_p (s_p z 110 11 (nI (min (10 * w + dgN (b i)) 99999))) 110 8 (nI (i + 1))
      obtain ⟨z', g1, g2, g3, g4⟩ := ih (i + 1) (min (10 * w + dgN (b i)) 99999) (s_p (s_p z 110 11 (nI (min (10 * w + dgN (b i)) 99999))) 110 8 (nI (i + 1))) (by omega) (Nat.min_le_right _ _) (ht.off (by rw [o2.1 114 (by omega), o1.1 114 (by omega)])) (by rw [o2.2.1 7 (by omega), o1.2.1 7 (by omega)]; exact h7) (s_p_v _ _ _ _) (by rw [o2.2.1 11 (by omega), s_p_v])
      have hr := rn_le isDg b k (i + 1)
      refine ⟨z', ⟨fun q hq => by rw [g1.1 q hq, o2.1 q hq, o1.1 q hq], fun k a c => by rw [g1.2.1 k a c, o2.2.1 k a, o1.2.1 k c], g1.2.2⟩, by rw [rn, if_pos hsp]; exact g2, ?_, fun r => ?_⟩
      · rw [rn, if_pos hsp, show rn isDg b k (i + 1) - i = (rn isDg b k (i + 1) - (i + 1)) + 1 by omega, vlT]
        exact g3
      · rw [← g4 r]
        have e8 : ∀ x, (s_p z 110 11 x).1 110 8 = nI i := fun x => by simp [s_p, h8]
        have hiD : inDg (b i) = 1 := by
          have := hu.2.2.1
          rw [hu.2.2.2 hsp, hsp] at this
          exact this
        simp only [w_Ref_advance_144 (l0 := 110) (h := mkH xs z), w_Ref_advance_149, w_Ref_advance_152, w_Ref_advance_162, w_Ref_advance_165, w_Ref_advance_174, w_Ref_advance_180, w_Ref_advance_183, w_Ref_advance_193, w_Ref_advance_198, w_Ref_advance_203, c_110, f_110_0, p_110_0, f_110_1, f_110_2, f_110_3, f_110_4, f_110_5, p_110_5, f_110_6, f_110_7, p_110_7, f_110_8, p_110_8, f_110_9, p_110_9, f_110_10, p_110_10, f_110_11, p_110_11, f_110_12, p_110_12, f_110_13, p_110_13, f_110_14, f_110_15, f_110_16, p_110_16, f_110_17, f_110_18, p_110_18, f_110_19, p_110_19, f_110_20, f_110_21, p_110_21, f_110_22, p_110_22, f_110_23, f_110_24, f_110_25, p_110_25, f_110_26, f_110_27, f_110_28, f_110_29, f_110_30, f_110_31, p_110_31, f_110_32, p_110_32, f_110_33, p_110_33, f_110_34, p_110_34, f_110_35, f_110_36, f_110_37, f_110_38, Option.some.injEq, exists_eq_left', exists_eq_left, Option.toList_some, Option.toList_none, List.cons_append, List.nil_append, true_and, and_true, Option.map_some, Option.map_none, h8, h11, e8, r_see (d := d) hd ht h7 (show i ≤ n by omega), hs, r_inD (d := d) hd, hiD, show ¬ ((1 : Int32) = 0) by decide, if_false, hu.2.2.2 hsp, dg_step hsp, hm, nI_1]
    · refine ⟨z, ⟨fun _ _ => rfl, fun _ _ _ => rfl, rfl⟩, by rw [rn, if_neg hsp]; exact h8, by rw [rn, if_neg hsp, Nat.sub_self]; exact h11, fun r => ?_⟩
      simp only [w_Ref_advance_144 (l0 := 110) (h := mkH xs z), w_Ref_advance_149, w_Ref_advance_152, w_Ref_advance_162, c_110, f_110_0, p_110_0, f_110_1, f_110_2, f_110_3, f_110_4, f_110_5, p_110_5, f_110_6, f_110_7, p_110_7, f_110_8, p_110_8, f_110_9, p_110_9, f_110_10, p_110_10, f_110_11, p_110_11, f_110_12, p_110_12, f_110_13, p_110_13, f_110_14, f_110_15, f_110_16, p_110_16, f_110_17, f_110_18, p_110_18, f_110_19, p_110_19, f_110_20, f_110_21, p_110_21, f_110_22, p_110_22, f_110_23, f_110_24, f_110_25, p_110_25, f_110_26, f_110_27, f_110_28, f_110_29, f_110_30, f_110_31, p_110_31, f_110_32, p_110_32, f_110_33, p_110_33, f_110_34, p_110_34, f_110_35, f_110_36, f_110_37, f_110_38, Option.some.injEq, exists_eq_left', exists_eq_left, Option.toList_some, Option.toList_none, List.cons_append, List.nil_append, true_and, and_true, Option.map_some, Option.map_none, h8, r_see (d := d) hd ht h7 (show i ≤ n by omega), hs, r_inD (d := d) hd, hu.2.2.1, hsp, b01, Bool.false_eq_true, if_false, if_true]
theorem r_good (hd : 1 ≤ d) {s : xS} {t : Tk} (hf : fOk t.2) (h : tkR s b n t) {q : Option Value × xH} : x_ev g_M P d 210 [.ref 110] (mkH xs s) q ↔ q = (some (.int (b01 (decide (t.2 = none)))), mkH xs s) := by
  have a5 := h.2.2.2.2.2.1
  obtain ⟨d, rfl⟩ := x_1 (d := d) (by omega)
  rw [x_ev_in rfl (Nat.le_of_ble_eq_true rfl)]
  rw [show x_ent (x_nL g_M 210) [.ref 110] = [some (.ref 110)] from rfl]
  by_cases h0 : t.2 = none
  · have e : fkN t.2 = 0 := by rw [h0]; rfl
    simp only [w_Ref_good_0, w_Ref_good_4, w_Ref_good_7, w_Ref_good_11, w_Ref_good_12, c_110, f_110_0, p_110_0, f_110_1, f_110_2, f_110_3, f_110_4, f_110_5, p_110_5, f_110_6, f_110_7, p_110_7, f_110_8, p_110_8, f_110_9, p_110_9, f_110_10, p_110_10, f_110_11, p_110_11, f_110_12, p_110_12, f_110_13, p_110_13, f_110_14, f_110_15, f_110_16, p_110_16, f_110_17, f_110_18, p_110_18, f_110_19, p_110_19, f_110_20, f_110_21, p_110_21, f_110_22, p_110_22, f_110_23, f_110_24, f_110_25, p_110_25, f_110_26, f_110_27, f_110_28, f_110_29, f_110_30, f_110_31, p_110_31, f_110_32, p_110_32, f_110_33, p_110_33, f_110_34, p_110_34, f_110_35, f_110_36, f_110_37, f_110_38, Option.some.injEq, exists_eq_left', exists_eq_left, Option.toList_some, Option.toList_none, List.cons_append, List.nil_append, true_and, and_true, Option.map_some, Option.map_none, a5, e, not_true_eq_false, if_false, x_nb1, h0, decide_true, b01, if_true]
    exact eq_comm
  · simp only [w_Ref_good_0, w_Ref_good_4, w_Ref_good_7, w_Ref_good_11, w_Ref_good_12, c_110, f_110_0, p_110_0, f_110_1, f_110_2, f_110_3, f_110_4, f_110_5, p_110_5, f_110_6, f_110_7, p_110_7, f_110_8, p_110_8, f_110_9, p_110_9, f_110_10, p_110_10, f_110_11, p_110_11, f_110_12, p_110_12, f_110_13, p_110_13, f_110_14, f_110_15, f_110_16, p_110_16, f_110_17, f_110_18, p_110_18, f_110_19, p_110_19, f_110_20, f_110_21, p_110_21, f_110_22, p_110_22, f_110_23, f_110_24, f_110_25, p_110_25, f_110_26, f_110_27, f_110_28, f_110_29, f_110_30, f_110_31, p_110_31, f_110_32, p_110_32, f_110_33, p_110_33, f_110_34, p_110_34, f_110_35, f_110_36, f_110_37, f_110_38, Option.some.injEq, exists_eq_left', exists_eq_left, Option.toList_some, Option.toList_none, List.cons_append, List.nil_append, true_and, and_true, Option.map_some, Option.map_none, a5, fkN_s hf h0, not_false_eq_true, if_true, x_nb0, h0, decide_false, b01, Bool.false_eq_true, if_false]
    exact eq_comm
theorem r_errs (hd : 2 ≤ d) {s : xS} {t : Tk} (hf : fOk t.2) (h : tkR s b n t) (c : Nat) : ∃ s', x_ev g_M P d 211 [.ref 110, .int (nI c)] (mkH xs s) (none, mkH xs s') ∧ offU s s' ∧ tkR s' b n (t.1, errF c t.1 t.2) := by
  obtain ⟨d, rfl⟩ := x_1 (d := d) (by omega)
  have h0 := h
  obtain ⟨a1, a2, a3, a4, a5, a6, a7⟩ := h
  by_cases hn : t.2 = none
  · have e3 : ∀ v, (s_p s 110 12 v).1 110 9 = nI t.1 := fun v => by simp [s_p]; exact a3
    refine ⟨s_p (s_p s 110 12 (nI c)) 110 13 (nI t.1), ?_, ⟨fun q hq => by funext k; simp [s_p, hq], fun k hk => ?_, rfl⟩, ?_, ?_, ?_, ?_, ?_, ?_, ?_⟩
    · rw [x_ev_in rfl (Nat.le_of_ble_eq_true rfl)]
      rw [show x_ent (x_nL g_M 211) [.ref 110, .int (nI c)] = [some (.ref 110), some (.int (nI c))] from rfl]
      simp only [w_Ref_errs_0, w_Ref_errs_4, w_Ref_errs_7, w_Ref_errs_8, w_Ref_errs_13, w_Ref_errs_18, w_Ref_errs_21, c_110, f_110_0, p_110_0, f_110_1, f_110_2, f_110_3, f_110_4, f_110_5, p_110_5, f_110_6, f_110_7, p_110_7, f_110_8, p_110_8, f_110_9, p_110_9, f_110_10, p_110_10, f_110_11, p_110_11, f_110_12, p_110_12, f_110_13, p_110_13, f_110_14, f_110_15, f_110_16, p_110_16, f_110_17, f_110_18, p_110_18, f_110_19, p_110_19, f_110_20, f_110_21, p_110_21, f_110_22, p_110_22, f_110_23, f_110_24, f_110_25, p_110_25, f_110_26, f_110_27, f_110_28, f_110_29, f_110_30, f_110_31, p_110_31, f_110_32, p_110_32, f_110_33, p_110_33, f_110_34, p_110_34, f_110_35, f_110_36, f_110_37, f_110_38, Option.some.injEq, exists_eq_left', exists_eq_left, Option.toList_some, Option.toList_none, List.cons_append, List.nil_append, true_and, and_true, Option.map_some, Option.map_none, r_good (d := d) (by omega) hf h0, hn, decide_true, b01, if_true, show ¬ ((1 : Int32) = 0) by decide, not_false_eq_true, e3]
    · have q1 : ¬ k = 12 := by omega
      have q2 : ¬ k = 13 := by omega
      simp [s_p, q1, q2]
    · simp [s_p]; exact a1
    · simp [s_p]; exact a2
    · simp [s_p]; exact a3
    · simp [s_p]; exact a4
    · simp [s_p]; exact a5
    · simp [s_p, errF, fkN, hn]
    · simp [s_p, errF, fpN, hn]
  · refine ⟨s, ?_, offU.rf, ?_⟩
    · rw [x_ev_in rfl (Nat.le_of_ble_eq_true rfl)]
      rw [show x_ent (x_nL g_M 211) [.ref 110, .int (nI c)] = [some (.ref 110), some (.int (nI c))] from rfl]
      simp only [w_Ref_errs_0, w_Ref_errs_4, w_Ref_errs_7, w_Ref_errs_8, w_Ref_errs_13, w_Ref_errs_18, w_Ref_errs_21, c_110, f_110_0, p_110_0, f_110_1, f_110_2, f_110_3, f_110_4, f_110_5, p_110_5, f_110_6, f_110_7, p_110_7, f_110_8, p_110_8, f_110_9, p_110_9, f_110_10, p_110_10, f_110_11, p_110_11, f_110_12, p_110_12, f_110_13, p_110_13, f_110_14, f_110_15, f_110_16, p_110_16, f_110_17, f_110_18, p_110_18, f_110_19, p_110_19, f_110_20, f_110_21, p_110_21, f_110_22, p_110_22, f_110_23, f_110_24, f_110_25, p_110_25, f_110_26, f_110_27, f_110_28, f_110_29, f_110_30, f_110_31, p_110_31, f_110_32, p_110_32, f_110_33, p_110_33, f_110_34, p_110_34, f_110_35, f_110_36, f_110_37, f_110_38, Option.some.injEq, exists_eq_left', exists_eq_left, Option.toList_some, Option.toList_none, List.cons_append, List.nil_append, true_and, and_true, Option.map_some, Option.map_none, r_good (d := d) (by omega) hf h0, hn, decide_false, b01, Bool.false_eq_true, if_false, not_true_eq_false]
    · obtain ⟨i, f⟩ := t
      cases f with
      | none => exact absurd rfl hn
      | some e => exact h0
end RTOK
