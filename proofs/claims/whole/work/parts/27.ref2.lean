/-! THE REFERENCE: what has come of it, ACTS (own work) -/
/-- a fold upwards -/
def fo {α : Type} (f : Nat → α → α) (a : α) : Nat → α
  | 0 => a
  | n + 1 => f n (fo f a n)
theorem fo_ind {α : Type} {f : Nat → α → α} {a : α} (R : α → Prop) (h0 : R a) (hs : ∀ n x, R x → R (f n x)) : ∀ n, R (fo f a n) := by
  intro n
  induction n with
  | zero => exact h0
  | succ n ih => exact hs n _ ih
/-- a state as it can come -/
def aOk (T : Tw) (A : As) : Prop := aWf T A ∧ (0 ≤ A.2.2.1 ∧ A.2.2.1 ≤ 99) ∧ ∀ j, j < tP T → 0 ≤ A.2.2.2 j ∧ A.2.2.2 j ≤ 9
theorem z_lt1 {x : Int32} (h : 0 ≤ x) : x = 0 ↔ x < 1 := by
  rw [Int32.le_iff_toInt_le] at h
  rw [Int32.lt_iff_toInt_lt, ← Int32.toInt_inj]
  simp at h ⊢
  omega
/-- only what the reference keeps of a state differs -/
def offR (s s' : xS) : Prop := (∀ q, q ≠ 110 → q ≠ 117 → q ≠ 118 → s'.1 q = s.1 q) ∧ (∀ k, k ≠ 16 → k ≠ 18 → k ≠ 19 → s'.1 110 k = s.1 110 k) ∧ s'.2 = s.2
theorem offR.rf {s : xS} : offR s s := ⟨fun _ _ _ _ => rfl, fun _ _ _ _ => rfl, rfl⟩
theorem offR.tr {s s' s'' : xS} (h : offR s s') (h2 : offR s' s'') : offR s s'' := ⟨fun q a b c => (h2.1 q a b c).trans (h.1 q a b c), fun k a b c => (h2.2.1 k a b c).trans (h.2.1 k a b c), h2.2.2.trans h.2.2⟩
theorem refT_off {s s' : xS} {T : Tw} (h : s'.1 111 = s.1 111) (hT : refT s 111 0 T) : refT s' 111 0 T := by
  unfold refT at *
  rw [h]
  exact hT
theorem offR.T {s s' : xS} {T : Tw} (h : offR s s') (hT : refT s 111 0 T) : refT s' 111 0 T := refT_off (h.1 111 (by decide) (by decide) (by decide)) hT
section REF2
variable {P : Nat → List Value → Option Value} {d : Nat} {xs : List Int32} {s : xS} {T : Tw} {A : As} {q : Option Value × xH}
theorem tOth_lt (hW : tWf T) {m j : Nat} (hm : m < tM T) : tOth T j m < tP T := by
  have := hW.2.2.1 m hm
  unfold tOth
  split <;> omega
set_option maxHeartbeats 4000000 in
theorem r_whyNot (hd : 6 ≤ d) (hT : refT s 111 0 T) (hW : tWf T) (hA : refS s T A) (hO : aOk T A) {j : Nat} (hj : j < tP T) : x_ev g_M P d 234 [.ref 110, .int (nI j)] (mkH xs s) q ↔ q = (some (.int (aWhy T A j)), mkH xs s) := by
  have hA0 := hA
  have w1 := hW.1
  have w2 := hW.2.1
  obtain ⟨hAw, ⟨hl0, hl9⟩, hcu⟩ := hO
  obtain ⟨a1, a2, a3, a4, a5⟩ := hA
  obtain ⟨d, rfl⟩ := x_1 (d := d) (by omega)
  rw [x_ev_in rfl (Nat.le_of_ble_eq_true rfl)]
  rw [show x_ent (x_nL g_M 234) [.ref 110, .int (nI j)] = [some (.ref 110), some (.int (nI j)), none] from rfl]
  unfold aWhy
  cases hl : aLast T A j with
  | none =>
    simp only [w_Ref_whyNot_0, w_Ref_whyNot_5, w_Ref_whyNot_11, w_Ref_whyNot_13, w_Ref_whyNot_19, w_Ref_whyNot_23, w_Ref_whyNot_25, w_Ref_whyNot_29, w_Ref_whyNot_33, w_Ref_whyNot_37, w_Ref_whyNot_39, w_Ref_whyNot_43, w_Ref_whyNot_45, w_Ref_whyNot_48, w_Ref_whyNot_50, w_Ref_whyNot_54, w_Ref_whyNot_57, w_Ref_whyNot_59, w_Ref_whyNot_66, w_Ref_whyNot_72, w_Ref_whyNot_76, w_Ref_whyNot_79, w_Ref_whyNot_82, w_Ref_whyNot_86, w_Ref_whyNot_88, c_110, f_110_0, p_110_0, f_110_1, f_110_2, f_110_3, f_110_4, f_110_5, p_110_5, f_110_6, f_110_7, p_110_7, f_110_8, p_110_8, f_110_9, p_110_9, f_110_10, p_110_10, f_110_11, p_110_11, f_110_12, p_110_12, f_110_13, p_110_13, f_110_14, f_110_15, f_110_16, p_110_16, f_110_17, f_110_18, p_110_18, f_110_19, p_110_19, f_110_20, f_110_21, p_110_21, f_110_22, p_110_22, f_110_23, f_110_24, f_110_25, p_110_25, f_110_26, f_110_27, f_110_28, f_110_29, f_110_30, f_110_31, p_110_31, f_110_32, p_110_32, f_110_33, p_110_33, f_110_34, p_110_34, f_110_35, f_110_36, f_110_37, f_110_38, Option.some.injEq, exists_eq_left', exists_eq_left, Option.toList_some, Option.toList_none, List.cons_append, List.nil_append, true_and, and_true, Option.map_some, Option.map_none, r_lastOf (d := d) (by omega) hT hW hA0 hAw hj, hl, optI, not_true_eq_false, if_false]
    exact eq_comm
  | some m =>
    obtain ⟨hmL, hmI⟩ := lastN_in (Nat.le_refl _) hl
    have hm : m < tM T := hAw.1 m hmL
    have hc : x_rd (s.1 118) 6 (nI j) = some (A.2.2.2 j) := by rw [x_rd_nI (by omega) (by omega), a3 j hj]
    have ho : tOth T j m < tP T := tOth_lt hW hm
    have hne : ¬ nI m = -1 := by
      intro z
      have := nI_pos (n := m) (by omega)
      rw [z] at this
      exact this (by decide)
    simp only [w_Ref_whyNot_0, w_Ref_whyNot_5, w_Ref_whyNot_11, w_Ref_whyNot_13, w_Ref_whyNot_19, w_Ref_whyNot_23, w_Ref_whyNot_25, w_Ref_whyNot_29, w_Ref_whyNot_33, w_Ref_whyNot_37, w_Ref_whyNot_39, w_Ref_whyNot_43, w_Ref_whyNot_45, w_Ref_whyNot_48, w_Ref_whyNot_50, w_Ref_whyNot_54, w_Ref_whyNot_57, w_Ref_whyNot_59, w_Ref_whyNot_66, w_Ref_whyNot_72, w_Ref_whyNot_76, w_Ref_whyNot_79, w_Ref_whyNot_82, w_Ref_whyNot_86, w_Ref_whyNot_88, c_110, f_110_0, p_110_0, f_110_1, f_110_2, f_110_3, f_110_4, f_110_5, p_110_5, f_110_6, f_110_7, p_110_7, f_110_8, p_110_8, f_110_9, p_110_9, f_110_10, p_110_10, f_110_11, p_110_11, f_110_12, p_110_12, f_110_13, p_110_13, f_110_14, f_110_15, f_110_16, p_110_16, f_110_17, f_110_18, p_110_18, f_110_19, p_110_19, f_110_20, f_110_21, p_110_21, f_110_22, p_110_22, f_110_23, f_110_24, f_110_25, p_110_25, f_110_26, f_110_27, f_110_28, f_110_29, f_110_30, f_110_31, p_110_31, f_110_32, p_110_32, f_110_33, p_110_33, f_110_34, p_110_34, f_110_35, f_110_36, f_110_37, f_110_38, e_118, i_118, Option.some.injEq, exists_eq_left', exists_eq_left, Option.toList_some, Option.toList_none, List.cons_append, List.nil_append, true_and, and_true, Option.map_some, Option.map_none, r_lastOf (d := d) (by omega) hT hW hA0 hAw hj, hl, optI, hne, not_false_eq_true, if_true, r_of5 (d := d) (by omega) hT hW hm, b01_1, r_bit (d := d) (by omega), bit_1 (show m < 32 by omega), a4, a5, hc, z_lt1 (hcu j hj).1, z_lt1 hl0, r_otherOf (d := d) (by omega) hT hW hj hm, r_settledNow (d := d) (by omega) hA0 hAw hW, r_fallIn (d := d) (by omega) hT hW hm, r_agrees (d := d) (by omega) hT hW ho hm]
    by_cases h1 : tDry T m = true
    · simp only [h1, not_true_eq_false, if_false, if_true]
      exact eq_comm
    by_cases h2 : bt A.2.1 m = true
    · simp only [h1, h2, not_true_eq_false, not_false_eq_true, if_false, if_true, Bool.false_eq_true]
      exact eq_comm
    by_cases h3 : A.2.2.2 j < 1
    · simp only [h1, h2, h3, not_true_eq_false, not_false_eq_true, if_false, if_true, Bool.false_eq_true]
      exact eq_comm
    by_cases h4 : A.2.2.1 < 1
    · simp only [h1, h2, h3, h4, not_true_eq_false, not_false_eq_true, if_false, if_true, Bool.false_eq_true]
      exact eq_comm
    by_cases h5 : tAgr T (tOth T j m) m (-tSum T (tOth T j m) (tFall T (msk A.1) m)) = true
    · simp only [h1, h2, h3, h4, h5, b01, not_true_eq_false, not_false_eq_true, if_false, if_true, Bool.false_eq_true, show ¬ ((1 : Int32) = 0) by decide]
      exact eq_comm
    · simp only [h1, h2, h3, h4, h5, b01, not_true_eq_false, not_false_eq_true, if_false, if_true, Bool.false_eq_true]
      exact eq_comm
set_option maxHeartbeats 4000000 in
theorem r_wishes (hd : 7 ≤ d) (hT : refT s 111 0 T) (hW : tWf T) (hA : refS s T A) (hO : aOk T A) {j : Nat} (hj : j < tP T) : x_ev g_M P d 235 [.ref 110, .int (nI j)] (mkH xs s) q ↔ q = (some (.int (b01 (aWil T A j))), mkH xs s) := by
  have hAw := hO.1
  obtain ⟨d, rfl⟩ := x_1 (d := d) (by omega)
  rw [x_ev_in rfl (Nat.le_of_ble_eq_true rfl)]
  rw [show x_ent (x_nL g_M 235) [.ref 110, .int (nI j)] = [some (.ref 110), some (.int (nI j))] from rfl]
  unfold aWil
  by_cases h0 : aWhy T A j = 0
  · obtain ⟨m, hl⟩ := aWhy_last h0
    obtain ⟨hmL, hmI⟩ := lastN_in (Nat.le_refl _) hl
    have hm : m < tM T := hAw.1 m hmL
    simp only [w_Ref_wishes_0, w_Ref_wishes_5, w_Ref_wishes_8, w_Ref_wishes_15, w_Ref_wishes_20, w_Ref_wishes_23, w_Ref_wishes_26, w_Ref_wishes_29, w_Ref_wishes_33, w_Ref_wishes_34, c_110, f_110_0, p_110_0, f_110_1, f_110_2, f_110_3, f_110_4, f_110_5, p_110_5, f_110_6, f_110_7, p_110_7, f_110_8, p_110_8, f_110_9, p_110_9, f_110_10, p_110_10, f_110_11, p_110_11, f_110_12, p_110_12, f_110_13, p_110_13, f_110_14, f_110_15, f_110_16, p_110_16, f_110_17, f_110_18, p_110_18, f_110_19, p_110_19, f_110_20, f_110_21, p_110_21, f_110_22, p_110_22, f_110_23, f_110_24, f_110_25, p_110_25, f_110_26, f_110_27, f_110_28, f_110_29, f_110_30, f_110_31, p_110_31, f_110_32, p_110_32, f_110_33, p_110_33, f_110_34, p_110_34, f_110_35, f_110_36, f_110_37, f_110_38, Option.some.injEq, exists_eq_left', exists_eq_left, Option.toList_some, Option.toList_none, List.cons_append, List.nil_append, true_and, and_true, Option.map_some, Option.map_none, x_nb0, x_nb1, r_whyNot (d := d) (by omega) hT hW hA hO hj, h0, not_true_eq_false, if_false, r_lastOf (d := d) (by omega) hT hW hA hAw hj, hl, optI, r_settledNow (d := d) (by omega) hA hAw hW, r_fallIn (d := d) (by omega) hT hW hm, r_swingOf (d := d) (by omega) hT hW hj, decide_true, Bool.true_and]
    by_cases h1 : 0 < -tSum T j (tFall T (msk A.1) m)
    · have h1' : ¬ -tSum T j (tFall T (msk A.1) m) ≤ 0 := Int32.not_le.mpr h1
      simp only [h1, h1', if_true, if_false, b01, decide_true]
      exact eq_comm
    · have h1' : -tSum T j (tFall T (msk A.1) m) ≤ 0 := Int32.not_lt.mp h1
      simp only [h1, h1', if_true, if_false, b01, decide_false, Bool.false_eq_true]
      exact eq_comm
  · simp only [w_Ref_wishes_0, w_Ref_wishes_5, w_Ref_wishes_8, w_Ref_wishes_15, w_Ref_wishes_20, w_Ref_wishes_23, w_Ref_wishes_26, w_Ref_wishes_29, w_Ref_wishes_33, w_Ref_wishes_34, c_110, f_110_0, p_110_0, f_110_1, f_110_2, f_110_3, f_110_4, f_110_5, p_110_5, f_110_6, f_110_7, p_110_7, f_110_8, p_110_8, f_110_9, p_110_9, f_110_10, p_110_10, f_110_11, p_110_11, f_110_12, p_110_12, f_110_13, p_110_13, f_110_14, f_110_15, f_110_16, p_110_16, f_110_17, f_110_18, p_110_18, f_110_19, p_110_19, f_110_20, f_110_21, p_110_21, f_110_22, p_110_22, f_110_23, f_110_24, f_110_25, p_110_25, f_110_26, f_110_27, f_110_28, f_110_29, f_110_30, f_110_31, p_110_31, f_110_32, p_110_32, f_110_33, p_110_33, f_110_34, p_110_34, f_110_35, f_110_36, f_110_37, f_110_38, Option.some.injEq, exists_eq_left', exists_eq_left, Option.toList_some, Option.toList_none, List.cons_append, List.nil_append, true_and, and_true, Option.map_some, Option.map_none, x_nb0, x_nb1, r_whyNot (d := d) (by omega) hT hW hA hO hj, h0, not_false_eq_true, if_true]
    cases aLast T A j <;> simp [b01, eq_comm (a := q)]
theorem r_bits (hd : 1 ≤ d) (set : Int32) : x_ev g_M P d 190 [.int set] (mkH xs s) q ↔ q = (some (.int (sm (fun k => if bt set k = true then 1 else 0) 8)), mkH xs s) := by
  obtain ⟨d, rfl⟩ := x_1 (d := d) (by omega)
  rw [x_ev_in rfl (Nat.le_of_ble_eq_true rfl)]
  rw [show x_ent (x_nL g_M 190) [.int set] = [some (.int set), none, none] from rfl]
  rw [w_Ref_bits_0]
  have key := x_up (C := x_ev g_M P d) (k := 190) (r := q) (N := 8) (F := fun m => (4, [some (.int set), some (.int (sm (fun k => if bt set k = true then 1 else 0) m)), some (.int (nI m))], [], mkH xs s)) (fun m hm => by
    have hc : ¬ 8 ≤ nI m := nI_ge (b := 8) hm (by omega)
    simp only [w_Ref_bits_0, w_Ref_bits_10, w_Ref_bits_24, w_Ref_bits_4 (l2 := nI m), hc, if_false, bit_i (show m < 32 by omega), nI_1, sm]) 0 (Nat.zero_le _)
  refine key.trans ?_
  simp only [w_Ref_bits_0, w_Ref_bits_10, w_Ref_bits_24, w_Ref_bits_4 (l2 := nI 8), show (8 : Int32) ≤ nI 8 from Int32.le_refl _, if_true]
  exact eq_comm
end REF2
section REF3
variable {P : Nat → List Value → Option Value} {d : Nat} {xs : List Int32} {s : xS} {T : Tw} {A : As}
theorem r_settle0 (hd : 1 ≤ d) (hA : refS s T A) {m : Nat} (hl : A.1.length < 8) : ∃ s', x_ev g_M P d 236 [.ref 110, .int (nI m)] (mkH xs s) (none, mkH xs s') ∧ offR s s' ∧ refS s' T (aSettle A m) := by
  obtain ⟨a1, a2, a3, a4, a5⟩ := hA
  refine ⟨s_p (s_p s 117 A.1.length (nI m)) 110 16 (nI (A.1.length + 1)), ?_, ⟨fun q h1 h2 h3 => ?_, fun k h1 h2 h3 => ?_, rfl⟩, ?_⟩
  · obtain ⟨d, rfl⟩ := x_1 (d := d) (by omega)
    rw [x_ev_in rfl (Nat.le_of_ble_eq_true rfl)]
    rw [show x_ent (x_nL g_M 236) [.ref 110, .int (nI m)] = [some (.ref 110), some (.int (nI m))] from rfl]
    have hx : x_rd (s.1 117) 8 (nI A.1.length) = some (s.1 117 A.1.length) := x_rd_nI (by omega) (by omega)
    have e4 : ∀ v, (s_p s 117 A.1.length v).1 110 16 = nI A.1.length := fun v => by simp [s_p, a1]
    simp only [w_Ref_settle0_0, w_Ref_settle0_4, w_Ref_settle0_8, w_Ref_settle0_10, w_Ref_settle0_15, w_Ref_settle0_20, c_110, f_110_0, p_110_0, f_110_1, f_110_2, f_110_3, f_110_4, f_110_5, p_110_5, f_110_6, f_110_7, p_110_7, f_110_8, p_110_8, f_110_9, p_110_9, f_110_10, p_110_10, f_110_11, p_110_11, f_110_12, p_110_12, f_110_13, p_110_13, f_110_14, f_110_15, f_110_16, p_110_16, f_110_17, f_110_18, p_110_18, f_110_19, p_110_19, f_110_20, f_110_21, p_110_21, f_110_22, p_110_22, f_110_23, f_110_24, f_110_25, p_110_25, f_110_26, f_110_27, f_110_28, f_110_29, f_110_30, f_110_31, p_110_31, f_110_32, p_110_32, f_110_33, p_110_33, f_110_34, p_110_34, f_110_35, f_110_36, f_110_37, f_110_38, e_117, i_117, Option.some.injEq, exists_eq_left', exists_eq_left, Option.toList_some, Option.toList_none, List.cons_append, List.nil_append, true_and, and_true, Option.map_some, Option.map_none, a1, hx, nI_clamp (show A.1.length < 2 ^ 31 by omega), e4, nI_1]
  · funext k
    simp [s_p, h1, h2]
  · simp [s_p, h1]
  · refine ⟨?_, fun i hi => ?_, fun j hj => ?_, ?_, ?_⟩
    · simp [s_p, aSettle]
    · show _ = nI (lo (A.1 ++ [m]) i)
      rw [lo_app A.1 m hi]
      by_cases hi2 : i < A.1.length
      · have : ¬ i = A.1.length := by omega
        simp [s_p, hi2, this, a2 i hi2]
      · have hi' : i < (A.1 ++ [m]).length := hi
        have : i = A.1.length := by simp at hi'; omega
        simp [s_p, this]
    · simp [s_p, a3 j hj, aSettle]
    · simp [s_p, a4, aSettle]
    · simp [s_p, a5, aSettle]
set_option maxHeartbeats 8000000 in
theorem r_drinkLoop (hd : 1 ≤ d) (hW : tWf T) (hA : refS s T A) (hAw : aWf T A) {a m : Nat} (ha : a < tP T) (hm : m < tM T) :
    ∀ (n i : Nat) (si : xS), i + n = A.1.length → (∀ q, q ≠ 117 → si.1 q = s.1 q) → si.2 = s.2 →
      (∀ j, j < ((A.1.take i).filter (fun x => !bt (tFall T (msk A.1) m) x)).length → si.1 117 j = nI (lo ((A.1.take i).filter (fun x => !bt (tFall T (msk A.1) m) x)) j)) → (∀ j, i ≤ j → j < A.1.length → si.1 117 j = nI (lo A.1 j)) →
      ∃ s', x_R (x_ev g_M P d) 237 (22, [some (.ref 110), some (.int (nI a)), some (.int (nI m)), some (.int (tFall T (msk A.1) m)), some (.int (nI ((A.1.take i).filter (fun x => !bt (tFall T (msk A.1) m) x)).length)), some (.int (nI i))], [], mkH xs si) (some (.int (sm (fun k => if bt (tFall T (msk A.1) m) k = true then 1 else 0) 8)), mkH xs s') ∧ offR s s' ∧ refS s' T (aDrink T A a m) := by
  have w1 := hW.1
  have w2 := hW.2.1
  have h8 := hAw.2.2
  obtain ⟨a1, a2, a3, a4, a5⟩ := hA
  generalize hf : tFall T (msk A.1) m = f
  intro n
  induction n with
  | zero =>
    intro i si hin ho hl h1 h2
    have hi : i = A.1.length := by omega
    subst hi
    rw [List.take_length] at *
    generalize hL' : A.1.filter (fun x => !bt f x) = L' at *
    have hlen : L'.length ≤ 8 := by rw [← hL']; exact Nat.le_trans (List.length_filter_le _ _) h8
    have op := ho 110 (by omega)
    have op2 := ho 118 (by omega)
    refine ⟨s_p (s_p (s_p (s_p si 110 16 (nI L'.length)) 110 19 (A.2.1 ||| on1 m)) 118 a (A.2.2.2 a - 1)) 110 18 (A.2.2.1 - 1), ?_, ⟨fun q g1 g2 g3 => ?_, fun k g1 g2 g3 => ?_, hl⟩, ?_⟩
    · have e0 : si.1 110 16 = nI A.1.length := by rw [op]; exact a1
      have e2 : ∀ v, (s_p si 110 16 v).1 110 19 = A.2.1 := fun v => by simp [s_p, op, a5]
      have e3 : ∀ v w, x_rd ((s_p (s_p si 110 16 v) 110 19 w).1 118) 6 (nI a) = some (A.2.2.2 a) := fun v w => by
        rw [x_rd_nI (by omega) (by omega)]
        simp [s_p, op2, a3 a ha]
      have e4 : ∀ v w u, (s_p (s_p (s_p si 110 16 v) 110 19 w) 118 a u).1 110 18 = A.2.2.1 := fun v w u => by simp [s_p, op, a4]
      simp only [w_Ref_drink0_0, w_Ref_drink0_5, w_Ref_drink0_11, w_Ref_drink0_15, w_Ref_drink0_28, w_Ref_drink0_31, w_Ref_drink0_36, w_Ref_drink0_39, w_Ref_drink0_42, w_Ref_drink0_46, w_Ref_drink0_49, w_Ref_drink0_53, w_Ref_drink0_59, w_Ref_drink0_62, w_Ref_drink0_63, w_Ref_drink0_66, w_Ref_drink0_72, w_Ref_drink0_78, w_Ref_drink0_83, w_Ref_drink0_90, w_Ref_drink0_94, w_Ref_drink0_97, w_Ref_drink0_100, w_Ref_drink0_105, w_Ref_drink0_110, w_Ref_drink0_114, w_Ref_drink0_22 (l5 := nI A.1.length), c_110, f_110_0, p_110_0, f_110_1, f_110_2, f_110_3, f_110_4, f_110_5, p_110_5, f_110_6, f_110_7, p_110_7, f_110_8, p_110_8, f_110_9, p_110_9, f_110_10, p_110_10, f_110_11, p_110_11, f_110_12, p_110_12, f_110_13, p_110_13, f_110_14, f_110_15, f_110_16, p_110_16, f_110_17, f_110_18, p_110_18, f_110_19, p_110_19, f_110_20, f_110_21, p_110_21, f_110_22, p_110_22, f_110_23, f_110_24, f_110_25, p_110_25, f_110_26, f_110_27, f_110_28, f_110_29, f_110_30, f_110_31, p_110_31, f_110_32, p_110_32, f_110_33, p_110_33, f_110_34, p_110_34, f_110_35, f_110_36, f_110_37, f_110_38, e_117, i_117, e_118, i_118, Option.some.injEq, exists_eq_left', exists_eq_left, Option.toList_some, Option.toList_none, List.cons_append, List.nil_append, true_and, and_true, Option.map_some, Option.map_none, e0, show nI A.1.length ≤ nI A.1.length from Int32.le_refl _, if_true, e2, e3, nI_clamp (show a < 2 ^ 31 by omega), e4, r_bits (d := d) hd]
      rfl
    · funext k
      simp [s_p, g1, g3, ho q g2]
    · simp [s_p, g1, g2, g3, op]
    · refine ⟨?_, fun j hj => ?_, fun j hj => ?_, ?_, ?_⟩
      · simp [s_p, aDrink, hf, hL']
      · have hj' : j < L'.length := by
          have : (aDrink T A a m).1 = L' := by simp [aDrink, hf, hL']
          rw [this] at hj
          exact hj
        simp [s_p, aDrink, hf, hL', h1 j hj']
      · by_cases hja : j = a
        · subst hja
          simp [s_p, aDrink]
        · simp [s_p, aDrink, hja, op2, a3 j hj]
      · simp [s_p, aDrink]
      · simp [s_p, aDrink]
  | succ n ih =>
    intro i si hin ho hl h1 h2
    have hi : i < A.1.length := by omega
    have hlt : lo A.1 i < tM T := lo_lt hAw hi
    have op := ho 110 (by omega)
    have e0 : si.1 110 16 = nI A.1.length := by rw [op]; exact a1
    have hc : ¬ nI A.1.length ≤ nI i := nI_ge hi (by omega)
    have e1 : x_rd (si.1 117) 8 (nI i) = some (nI (lo A.1 i)) := by rw [x_rd_nI (by omega) (by omega), h2 i (Nat.le_refl _) hi]
    have hle : ((A.1.take i).filter (fun x => !bt f x)).length ≤ i := Nat.le_trans (List.length_filter_le _ _) (by rw [List.length_take]; omega)
    have htk := take_snoc A.1 hi
    by_cases hb : bt f (lo A.1 i) = true
    · have hL2 : (A.1.take (i + 1)).filter (fun x => !bt f x) = (A.1.take i).filter (fun x => !bt f x) := by
        rw [htk, List.filter_append, List.filter_cons, List.filter_nil, hb]
        simp
      obtain ⟨s', q1, q2, q3⟩ := ih (i + 1) si (by omega) ho hl (fun j hj => by rw [hL2] at hj ⊢; exact h1 j hj) (fun j hj1 hj2 => h2 j (by omega) hj2)
      refine ⟨s', ?_, q2, q3⟩
      simp only [w_Ref_drink0_0, w_Ref_drink0_5, w_Ref_drink0_11, w_Ref_drink0_15, w_Ref_drink0_28, w_Ref_drink0_31, w_Ref_drink0_36, w_Ref_drink0_39, w_Ref_drink0_42, w_Ref_drink0_46, w_Ref_drink0_49, w_Ref_drink0_53, w_Ref_drink0_59, w_Ref_drink0_62, w_Ref_drink0_63, w_Ref_drink0_66, w_Ref_drink0_72, w_Ref_drink0_78, w_Ref_drink0_83, w_Ref_drink0_90, w_Ref_drink0_94, w_Ref_drink0_97, w_Ref_drink0_100, w_Ref_drink0_105, w_Ref_drink0_110, w_Ref_drink0_114, w_Ref_drink0_22 (l5 := nI i), c_110, f_110_0, p_110_0, f_110_1, f_110_2, f_110_3, f_110_4, f_110_5, p_110_5, f_110_6, f_110_7, p_110_7, f_110_8, p_110_8, f_110_9, p_110_9, f_110_10, p_110_10, f_110_11, p_110_11, f_110_12, p_110_12, f_110_13, p_110_13, f_110_14, f_110_15, f_110_16, p_110_16, f_110_17, f_110_18, p_110_18, f_110_19, p_110_19, f_110_20, f_110_21, p_110_21, f_110_22, p_110_22, f_110_23, f_110_24, f_110_25, p_110_25, f_110_26, f_110_27, f_110_28, f_110_29, f_110_30, f_110_31, p_110_31, f_110_32, p_110_32, f_110_33, p_110_33, f_110_34, p_110_34, f_110_35, f_110_36, f_110_37, f_110_38, e_117, i_117, Option.some.injEq, exists_eq_left', exists_eq_left, Option.toList_some, Option.toList_none, List.cons_append, List.nil_append, true_and, and_true, Option.map_some, Option.map_none, e0, hc, if_false, e1, r_bit (d := d) hd, bit_1 (show lo A.1 i < 32 by omega), hb, not_true_eq_false, nI_1]
      rw [hL2] at q1
      exact q1
    · have hbf : bt f (lo A.1 i) = false := by simpa using hb
      have hL2 : (A.1.take (i + 1)).filter (fun x => !bt f x) = (A.1.take i).filter (fun x => !bt f x) ++ [lo A.1 i] := by
        rw [htk, List.filter_append, List.filter_cons, List.filter_nil, hbf]
        rfl
      obtain ⟨s', q1, q2, q3⟩ := ih (i + 1) (s_p si 117 ((A.1.take i).filter (fun x => !bt f x)).length (nI (lo A.1 i))) (by omega) (fun q hq => by
          funext k
          simp [s_p, hq, ho q hq]) hl (fun j hj => by
          rw [hL2] at hj ⊢
          rw [lo_app _ _ hj]
          by_cases hj2 : j < ((A.1.take i).filter (fun x => !bt f x)).length
          · have hne : ¬ j = ((A.1.take i).filter (fun x => !bt f x)).length := by omega
            rw [if_pos hj2, ← h1 j hj2]
            simp only [s_p]
            rw [if_neg (fun z => hne z.2)]
          · have hj3 : j = ((A.1.take i).filter (fun x => !bt f x)).length := by
              rw [List.length_append, List.length_singleton] at hj
              omega
            rw [if_neg hj2]
            simp only [s_p]
            rw [if_pos ⟨trivial, hj3⟩]) (fun j hj1 hj2 => by
          have hne : ¬ j = ((A.1.take i).filter (fun x => !bt f x)).length := by omega
          simp only [s_p]
          rw [if_neg (fun z => hne z.2)]
          exact h2 j (by omega) hj2)
      refine ⟨s', ?_, q2, q3⟩
      have e2 : x_rd (si.1 117) 8 (nI ((A.1.take i).filter (fun x => !bt f x)).length) = some (si.1 117 ((A.1.take i).filter (fun x => !bt f x)).length) := x_rd_nI (by omega) (by omega)
      simp only [w_Ref_drink0_0, w_Ref_drink0_5, w_Ref_drink0_11, w_Ref_drink0_15, w_Ref_drink0_28, w_Ref_drink0_31, w_Ref_drink0_36, w_Ref_drink0_39, w_Ref_drink0_42, w_Ref_drink0_46, w_Ref_drink0_49, w_Ref_drink0_53, w_Ref_drink0_59, w_Ref_drink0_62, w_Ref_drink0_63, w_Ref_drink0_66, w_Ref_drink0_72, w_Ref_drink0_78, w_Ref_drink0_83, w_Ref_drink0_90, w_Ref_drink0_94, w_Ref_drink0_97, w_Ref_drink0_100, w_Ref_drink0_105, w_Ref_drink0_110, w_Ref_drink0_114, w_Ref_drink0_22 (l5 := nI i), c_110, f_110_0, p_110_0, f_110_1, f_110_2, f_110_3, f_110_4, f_110_5, p_110_5, f_110_6, f_110_7, p_110_7, f_110_8, p_110_8, f_110_9, p_110_9, f_110_10, p_110_10, f_110_11, p_110_11, f_110_12, p_110_12, f_110_13, p_110_13, f_110_14, f_110_15, f_110_16, p_110_16, f_110_17, f_110_18, p_110_18, f_110_19, p_110_19, f_110_20, f_110_21, p_110_21, f_110_22, p_110_22, f_110_23, f_110_24, f_110_25, p_110_25, f_110_26, f_110_27, f_110_28, f_110_29, f_110_30, f_110_31, p_110_31, f_110_32, p_110_32, f_110_33, p_110_33, f_110_34, p_110_34, f_110_35, f_110_36, f_110_37, f_110_38, e_117, i_117, Option.some.injEq, exists_eq_left', exists_eq_left, Option.toList_some, Option.toList_none, List.cons_append, List.nil_append, true_and, and_true, Option.map_some, Option.map_none, e0, hc, if_false, e1, r_bit (d := d) hd, bit_1 (show lo A.1 i < 32 by omega), hb, not_false_eq_true, if_true, e2, nI_clamp (show ((A.1.take i).filter (fun x => !bt f x)).length < 2 ^ 31 by omega), nI_1]
      rw [hL2, List.length_append, List.length_singleton] at q1
      exact q1
def fellN (T : Tw) (A : As) (m : Nat) : Int32 := sm (fun k => if bt (tFall T (msk A.1) m) k = true then 1 else 0) 8
set_option maxHeartbeats 4000000 in
theorem r_drink0 (hd : 4 ≤ d) (hT : refT s 111 0 T) (hW : tWf T) (hA : refS s T A) (hAw : aWf T A) {a m : Nat} (ha : a < tP T) (hl : aLast T A a = some m) : ∃ s', x_ev g_M P d 237 [.ref 110, .int (nI a)] (mkH xs s) (some (.int (fellN T A m)), mkH xs s') ∧ offR s s' ∧ refS s' T (aDrink T A a m) := by
  obtain ⟨hmL, hmI⟩ := lastN_in (Nat.le_refl _) hl
  have hm : m < tM T := hAw.1 m hmL
  obtain ⟨d, rfl⟩ := x_1 (d := d) (by omega)
  obtain ⟨s', q1, q2, q3⟩ := r_drinkLoop (P := P) (d := d) (xs := xs) (by omega) hW hA hAw ha hm A.1.length 0 s (by omega) (fun _ _ => rfl) rfl (fun j hj => by simp at hj) (fun j _ hj => hA.2.1 j hj)
  refine ⟨s', ?_, q2, q3⟩
  rw [x_ev_in rfl (Nat.le_of_ble_eq_true rfl)]
  rw [show x_ent (x_nL g_M 237) [.ref 110, .int (nI a)] = [some (.ref 110), some (.int (nI a)), none, none, none, none] from rfl]
  simp only [w_Ref_drink0_0, w_Ref_drink0_5, w_Ref_drink0_11, w_Ref_drink0_15, w_Ref_drink0_28, w_Ref_drink0_31, w_Ref_drink0_36, w_Ref_drink0_39, w_Ref_drink0_42, w_Ref_drink0_46, w_Ref_drink0_49, w_Ref_drink0_53, w_Ref_drink0_59, w_Ref_drink0_62, w_Ref_drink0_63, w_Ref_drink0_66, w_Ref_drink0_72, w_Ref_drink0_78, w_Ref_drink0_83, w_Ref_drink0_90, w_Ref_drink0_94, w_Ref_drink0_97, w_Ref_drink0_100, w_Ref_drink0_105, w_Ref_drink0_110, w_Ref_drink0_114, c_110, f_110_0, p_110_0, f_110_1, f_110_2, f_110_3, f_110_4, f_110_5, p_110_5, f_110_6, f_110_7, p_110_7, f_110_8, p_110_8, f_110_9, p_110_9, f_110_10, p_110_10, f_110_11, p_110_11, f_110_12, p_110_12, f_110_13, p_110_13, f_110_14, f_110_15, f_110_16, p_110_16, f_110_17, f_110_18, p_110_18, f_110_19, p_110_19, f_110_20, f_110_21, p_110_21, f_110_22, p_110_22, f_110_23, f_110_24, f_110_25, p_110_25, f_110_26, f_110_27, f_110_28, f_110_29, f_110_30, f_110_31, p_110_31, f_110_32, p_110_32, f_110_33, p_110_33, f_110_34, p_110_34, f_110_35, f_110_36, f_110_37, f_110_38, Option.some.injEq, exists_eq_left', exists_eq_left, Option.toList_some, Option.toList_none, List.cons_append, List.nil_append, true_and, and_true, Option.map_some, Option.map_none, r_lastOf (d := d) (by omega) hT hW hA hAw ha, hl, optI, r_settledNow (d := d) (by omega) hA hAw hW, r_fallIn (d := d) (by omega) hT hW hm]
  exact q1
theorem r_day0 (hd : 1 ≤ d) (hT : refT s 111 0 T) (hA : refS s T A) : ∃ s', x_ev g_M P d 238 [.ref 110] (mkH xs s) (none, mkH xs s') ∧ offR s s' ∧ refS s' T (aDay T A) := by
  obtain ⟨a1, a2, a3, a4, a5⟩ := hA
  have hx : x_rd (s.1 111) 135 1 = some (tSp T) := by rw [show (1 : Int32) = nI 1 from rfl, x_rd_nI (by omega) (by omega)]; exact congrArg some hT.1.2.1
  refine ⟨s_p s 110 18 (if A.2.2.1 + tSp T < 99 then A.2.2.1 + tSp T else 99), ?_, ⟨fun q g1 g2 g3 => ?_, fun k g1 g2 g3 => ?_, rfl⟩, ?_⟩
  · obtain ⟨d, rfl⟩ := x_1 (d := d) (by omega)
    rw [x_ev_in rfl (Nat.le_of_ble_eq_true rfl)]
    rw [show x_ent (x_nL g_M 238) [.ref 110] = [some (.ref 110)] from rfl]
    simp only [w_Ref_day0_0, w_Ref_day0_7, w_Ref_day0_11, w_Ref_day0_13, w_Ref_day0_20, c_110, f_110_0, p_110_0, f_110_1, f_110_2, f_110_3, f_110_4, f_110_5, p_110_5, f_110_6, f_110_7, p_110_7, f_110_8, p_110_8, f_110_9, p_110_9, f_110_10, p_110_10, f_110_11, p_110_11, f_110_12, p_110_12, f_110_13, p_110_13, f_110_14, f_110_15, f_110_16, p_110_16, f_110_17, f_110_18, p_110_18, f_110_19, p_110_19, f_110_20, f_110_21, p_110_21, f_110_22, p_110_22, f_110_23, f_110_24, f_110_25, p_110_25, f_110_26, f_110_27, f_110_28, f_110_29, f_110_30, f_110_31, p_110_31, f_110_32, p_110_32, f_110_33, p_110_33, f_110_34, p_110_34, f_110_35, f_110_36, f_110_37, f_110_38, e_111, i_111, Option.some.injEq, exists_eq_left', exists_eq_left, Option.toList_some, Option.toList_none, List.cons_append, List.nil_append, true_and, and_true, Option.map_some, Option.map_none, a4, hx]
  · funext k
    simp [s_p, g1]
  · simp [s_p, g2]
  · refine ⟨?_, fun i hi => ?_, fun j hj => ?_, ?_, ?_⟩
    · simp [s_p, aDay, a1]
    · simp [s_p, aDay]
      exact a2 i hi
    · simp [s_p, aDay, a3 j hj]
    · simp [s_p, aDay]
    · simp [s_p, aDay, a5]
end REF3
