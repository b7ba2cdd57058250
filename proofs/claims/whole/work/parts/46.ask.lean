/-! ask, leaves (own work) -/
theorem msk_lo {T : Tw} {A : As} (hW : tWf T) (hAw : aWf T A) : ∃ j, j < 256 ∧ msk A.1 = nI j := by
  have w2 := hW.2.1
  obtain ⟨j, hj, e⟩ := lo8 (n := tM T) w2 (x := msk A.1) (fun i hi hl => by
    rw [b_msk hi (fun x hx => by have := hAw.1 x hx; omega)]
    simp only [decide_eq_false_iff_not]
    intro hz
    have := hAw.1 i hz
    omega)
  exact ⟨j, Nat.lt_of_lt_of_le hj (p2_le _ (by omega)).1, e⟩
def canN (T : Tw) (A : As) : Nat → Int32 := sm (fun p => if aWhy T A p = 0 then 1 else 0)
def hldB (T : Tw) (A : As) (m p : Nat) : Bool := decide (aWhy T A p = 0) && bt (msk (aft T A p).1) m
def falB (T : Tw) (A : As) (m p : Nat) : Bool := decide (aWhy T A p = 0) && !bt (msk (aft T A p).1) m
def hldN (T : Tw) (A : As) (m : Nat) : Nat → Int32 := sm (fun p => if hldB T A m p = true then 1 else 0)
def falN (T : Tw) (A : As) (m : Nat) : Nat → Int32 := sm (fun p => if falB T A m p = true then 1 else 0)
theorem canN_eq (T : Tw) (A : As) (m n : Nat) : canN T A n - hldN T A m n = falN T A m n := by
  unfold canN hldN falN
  rw [← sm_sub]
  refine sm_eq (fun p _ => ?_)
  unfold hldB falB
  by_cases h0 : aWhy T A p = 0 <;> cases hb : bt (msk (aft T A p).1) m <;> simp [h0]
def wst (T : Tw) (A : As) (m : Nat) : Int32 := if hldN T A m (tP T) < falN T A m (tP T) then falN T A m (tP T) else hldN T A m (tP T)
def qsN (T : Tw) (A : As) : Nat → Option Nat × Int32
  | 0 => (none, canN T A (tP T))
  | m + 1 => if wst T A m < (qsN T A m).2 then (some m, wst T A m) else qsN T A m
section ASK
variable {P : Nat → List Value → Option Value} {d : Nat} {xs : List Int32} {T : Tw}
set_option maxHeartbeats 4000000 in
theorem s_worst (hd : 6 ≤ d) (hK : tOk T) {s : xS} {A : As} (hT : clsT s 3 T) (hA : clsS s 9 T A) (hO : aOk T A) {m : Nat} (hm : m < tM T) : ∃ s', x_ev g_M P d 61 [.ref 48, .int (nI m)] (mkH xs s) (some (.int (wst T A m)), mkH xs s') ∧ offS s s' ∧ s'.1 48 = s.1 48 := by
  have hW := hK.1
  have w1 := hW.1
  have w2 := hW.2.1
  obtain ⟨d, rfl⟩ := x_1 (d := d) (by omega)
  obtain ⟨⟨s', o⟩, ⟨ho, h48⟩, e⟩ := x_upY (C := x_ev g_M P d) (k := 61) (N := tP T) (β := xS × Option Value) (R := fun _ z => offS s z.1 ∧ z.1.1 48 = s.1 48) (F := fun p z => (7, [some (.ref 48), some (.int (nI m)), some (.int (hldN T A m p)), some (.int (falN T A m p)), some (.int (nI p)), z.2], [], mkH xs z.1)) (fun p zo hp hR => by
    obtain ⟨z, o⟩ := zo
    obtain ⟨ho, h48⟩ : offS s z ∧ z.1 48 = s.1 48 := hR
    obtain ⟨s2, q1, q2, q3⟩ := s_afterSip (P := P) (d := d) (xs := xs) (by omega) hK (ho.T hT) (ho.A hA) hO hp
    have t4 := (ho.T hT).1.2.2.2.2.1
    have hc : ¬ nI (tP T) ≤ nI p := nI_ge hp (by omega)
    refine ⟨(s2, some (.int (aftI T A p))), ⟨ho.tr q2, q3.trans h48⟩, fun r => ?_⟩
    have eh : hldN T A m (p + 1) = hldN T A m p + if hldB T A m p = true then 1 else 0 := rfl
    have ef : falN T A m (p + 1) = falN T A m p + if falB T A m p = true then 1 else 0 := rfl
    simp only [w_Sips_worstAnswer_0, w_Sips_worstAnswer_13, w_Sips_worstAnswer_16, w_Sips_worstAnswer_19, w_Sips_worstAnswer_25, w_Sips_worstAnswer_32, w_Sips_worstAnswer_38, w_Sips_worstAnswer_42, w_Sips_worstAnswer_48, w_Sips_worstAnswer_53, w_Sips_worstAnswer_56, w_Sips_worstAnswer_62, w_Sips_worstAnswer_7 (l4 := nI p), c_3, f_3_0, p_3_0, f_3_1, p_3_1, f_3_2, p_3_2, f_3_3, p_3_3, f_3_4, p_3_4, f_3_5, p_3_5, f_3_6, p_3_6, f_3_7, p_3_7, f_3_8, p_3_8, f_3_9, f_3_10, f_3_11, f_3_12, f_3_13, c_48, f_48_0, f_48_1, f_48_2, f_48_3, p_48_3, f_48_4, p_48_4, Option.some.injEq, exists_eq_left', exists_eq_left, Option.toList_some, Option.toList_none, List.cons_append, List.nil_append, true_and, and_true, Option.map_some, Option.map_none, t4, hc, if_false, x_ev_iff q1, nI_1, t_bitOf (d := d) (by omega), bit_1 (show m < 32 by omega), eh, ef]
    by_cases h0 : aWhy T A p = 0
    · obtain ⟨j, hj, ej⟩ := msk_lo hW (aft_ok hO h0 hp).1
      have ea : aftI T A p = msk (aft T A p).1 := by unfold aftI; rw [if_pos h0]
      have hn : ¬ msk (aft T A p).1 < 0 := by rw [ej]; exact nI_pos (by omega)
      rw [ea]
      by_cases hb : bt (msk (aft T A p).1) m = true
      · simp only [hn, hb, if_false, not_true_eq_false, hldB, falB, h0, decide_true, Bool.true_and, if_true, Bool.not_true, Bool.false_eq_true, Int32.add_zero]
      · have hb' : bt (msk (aft T A p).1) m = false := by simpa using hb
        simp only [hn, hb', if_false, not_false_eq_true, if_true, hldB, falB, h0, decide_true, Bool.true_and, Bool.false_eq_true, Int32.add_zero, Bool.not_false]
    · have ea : aftI T A p = -1 := by unfold aftI; rw [if_neg h0]
      rw [ea]
      simp only [show (-1 : Int32) < 0 by decide, if_true, hldB, falB, h0, decide_false, Bool.false_and, Bool.false_eq_true, if_false, Int32.add_zero]) (tP T) 0 (s, none) (by omega) ⟨offS.rf, rfl⟩
  have t4 : s'.1 3 4 = nI (tP T) := (ho.T hT).1.2.2.2.2.1
  refine ⟨s', ?_, ho, h48⟩
  rw [x_ev_in rfl (Nat.le_of_ble_eq_true rfl)]
  rw [show x_ent (x_nL g_M 61) [.ref 48, .int (nI m)] = [some (.ref 48), some (.int (nI m)), none, none, none, none] from rfl]
  rw [w_Sips_worstAnswer_0]
  refine (e _).mpr ?_
  simp only [w_Sips_worstAnswer_0, w_Sips_worstAnswer_13, w_Sips_worstAnswer_16, w_Sips_worstAnswer_19, w_Sips_worstAnswer_25, w_Sips_worstAnswer_32, w_Sips_worstAnswer_38, w_Sips_worstAnswer_42, w_Sips_worstAnswer_48, w_Sips_worstAnswer_53, w_Sips_worstAnswer_56, w_Sips_worstAnswer_62, w_Sips_worstAnswer_7 (l4 := nI (tP T)), c_3, f_3_0, p_3_0, f_3_1, p_3_1, f_3_2, p_3_2, f_3_3, p_3_3, f_3_4, p_3_4, f_3_5, p_3_5, f_3_6, p_3_6, f_3_7, p_3_7, f_3_8, p_3_8, f_3_9, f_3_10, f_3_11, f_3_12, f_3_13, c_48, f_48_0, f_48_1, f_48_2, f_48_3, p_48_3, f_48_4, p_48_4, Option.some.injEq, exists_eq_left', exists_eq_left, Option.toList_some, Option.toList_none, List.cons_append, List.nil_append, true_and, and_true, Option.map_some, Option.map_none, t4, show nI (tP T) ≤ nI (tP T) from Int32.le_refl _, if_true]
  rfl
set_option maxHeartbeats 4000000 in
theorem s_bestQ (hd : 7 ≤ d) (hK : tOk T) {s : xS} {A : As} (hT : clsT s 3 T) (hA : clsS s 9 T A) (hO : aOk T A) : ∃ s', x_ev g_M P d 60 [.ref 48] (mkH xs s) (some (.int (optI (qsN T A (tM T)).1)), mkH xs s') ∧ offS s s' ∧ s'.1 48 4 = (qsN T A (tM T)).2 := by
  have h9 : 9 ∈ g_SP := by decide
  have hW := hK.1
  have w1 := hW.1
  have w2 := hW.2.1
  obtain ⟨d, rfl⟩ := x_1 (d := d) (by omega)
  have o0 : ∀ z v, offS s z → offS s (s_p z 48 4 v) := fun z v h => ⟨fun q hq => by
    rw [← h.1 q hq]
    funext k
    have : ¬ q = 48 := by omega
    simp [s_p, this], h.2⟩
  obtain ⟨s1, ⟨ho, h4⟩, e⟩ := x_upY (C := x_ev g_M P d) (k := 60) (N := tP T) (β := xS) (R := fun p z => offS s z ∧ z.1 48 4 = canN T A p) (F := fun p z => (7, [some (.ref 48), some (.int (nI p)), none, none], [], mkH xs z)) (fun p z hp hR => by
    obtain ⟨ho, h4⟩ := hR
    have t4 := (ho.T hT).1.2.2.2.2.1
    have hc : ¬ nI (tP T) ≤ nI p := nI_ge hp (by omega)
    have ec : canN T A (p + 1) = canN T A p + if aWhy T A p = 0 then 1 else 0 := rfl
    by_cases h0 : aWhy T A p = 0
    · refine ⟨s_p z 48 4 (canN T A p + 1), ⟨o0 z _ ho, by rw [ec, if_pos h0]; simp [s_p]⟩, fun r => ?_⟩
      simp only [w_Sips_bestQuestion_0, w_Sips_bestQuestion_5, w_Sips_bestQuestion_12, w_Sips_bestQuestion_15, w_Sips_bestQuestion_18, w_Sips_bestQuestion_22, w_Sips_bestQuestion_26, w_Sips_bestQuestion_29, w_Sips_bestQuestion_34, w_Sips_bestQuestion_39, w_Sips_bestQuestion_45, w_Sips_bestQuestion_54, w_Sips_bestQuestion_57, w_Sips_bestQuestion_60, w_Sips_bestQuestion_65, w_Sips_bestQuestion_71, w_Sips_bestQuestion_74, w_Sips_bestQuestion_81, w_Sips_bestQuestion_87, w_Sips_bestQuestion_7 (l1 := nI p), c_3, f_3_0, p_3_0, f_3_1, p_3_1, f_3_2, p_3_2, f_3_3, p_3_3, f_3_4, p_3_4, f_3_5, p_3_5, f_3_6, p_3_6, f_3_7, p_3_7, f_3_8, p_3_8, f_3_9, f_3_10, f_3_11, f_3_12, f_3_13, c_9, f_9_0, f_9_1, p_9_1, f_9_2, p_9_2, f_9_3, p_9_3, f_9_4, p_9_4, f_9_5, f_9_6, c_48, f_48_0, f_48_1, f_48_2, f_48_3, p_48_3, f_48_4, p_48_4, Option.some.injEq, exists_eq_left', exists_eq_left, Option.toList_some, Option.toList_none, List.cons_append, List.nil_append, true_and, and_true, Option.map_some, Option.map_none, t4, hc, if_false, s_whyNot (d := d) (by omega) h9 (ho.T hT) hW (ho.A hA) hO.1 hp, h0, not_true_eq_false, h4, nI_1]
    · refine ⟨z, ⟨ho, by rw [ec, if_neg h0, h4, Int32.add_zero]⟩, fun r => ?_⟩
      simp only [w_Sips_bestQuestion_0, w_Sips_bestQuestion_5, w_Sips_bestQuestion_12, w_Sips_bestQuestion_15, w_Sips_bestQuestion_18, w_Sips_bestQuestion_22, w_Sips_bestQuestion_26, w_Sips_bestQuestion_29, w_Sips_bestQuestion_34, w_Sips_bestQuestion_39, w_Sips_bestQuestion_45, w_Sips_bestQuestion_54, w_Sips_bestQuestion_57, w_Sips_bestQuestion_60, w_Sips_bestQuestion_65, w_Sips_bestQuestion_71, w_Sips_bestQuestion_74, w_Sips_bestQuestion_81, w_Sips_bestQuestion_87, w_Sips_bestQuestion_7 (l1 := nI p), c_3, f_3_0, p_3_0, f_3_1, p_3_1, f_3_2, p_3_2, f_3_3, p_3_3, f_3_4, p_3_4, f_3_5, p_3_5, f_3_6, p_3_6, f_3_7, p_3_7, f_3_8, p_3_8, f_3_9, f_3_10, f_3_11, f_3_12, f_3_13, c_9, f_9_0, f_9_1, p_9_1, f_9_2, p_9_2, f_9_3, p_9_3, f_9_4, p_9_4, f_9_5, f_9_6, c_48, f_48_0, f_48_1, f_48_2, f_48_3, p_48_3, f_48_4, p_48_4, Option.some.injEq, exists_eq_left', exists_eq_left, Option.toList_some, Option.toList_none, List.cons_append, List.nil_append, true_and, and_true, Option.map_some, Option.map_none, t4, hc, if_false, s_whyNot (d := d) (by omega) h9 (ho.T hT) hW (ho.A hA) hO.1 hp, h0, not_false_eq_true, if_true, nI_1]) (tP T) 0 (s_p s 48 4 0) (by omega) ⟨o0 s 0 offS.rf, by simp [s_p]; rfl⟩
  obtain ⟨⟨s', o⟩, ⟨ho', h4'⟩, e'⟩ := x_upY (C := x_ev g_M P d) (k := 60) (N := tM T) (β := xS × Option Value) (R := fun m z => offS s z.1 ∧ z.1.1 48 4 = (qsN T A m).2) (F := fun m z => (49, [some (.ref 48), some (.int (optI (qsN T A m).1)), some (.int (nI m)), z.2], [], mkH xs z.1)) (fun m zo hm hR => by
    obtain ⟨z, o⟩ := zo
    obtain ⟨ho, h4⟩ : offS s z ∧ z.1 48 4 = (qsN T A m).2 := hR
    obtain ⟨s2, q1, q2, q3⟩ := s_worst (P := P) (d := d) (xs := xs) (by omega) hK (ho.T hT) (ho.A hA) hO hm
    have t5 := (ho.T hT).1.2.2.2.2.2
    have hc : ¬ nI (tM T) ≤ nI m := nI_ge hm (by omega)
    have h42 : s2.1 48 4 = (qsN T A m).2 := by rw [q3]; exact h4
    have hle : (qsN T A m).2 ≤ wst T A m ↔ ¬ wst T A m < (qsN T A m).2 := Int32.not_lt.symm
    by_cases h1 : wst T A m < (qsN T A m).2
    · refine ⟨(s_p s2 48 4 (wst T A m), some (.int (wst T A m))), ⟨o0 s2 _ (ho.tr q2), by rw [qsN, if_pos h1]; simp [s_p]⟩, fun r => ?_⟩
      simp only [w_Sips_bestQuestion_0, w_Sips_bestQuestion_5, w_Sips_bestQuestion_12, w_Sips_bestQuestion_15, w_Sips_bestQuestion_18, w_Sips_bestQuestion_22, w_Sips_bestQuestion_26, w_Sips_bestQuestion_29, w_Sips_bestQuestion_34, w_Sips_bestQuestion_39, w_Sips_bestQuestion_45, w_Sips_bestQuestion_54, w_Sips_bestQuestion_57, w_Sips_bestQuestion_60, w_Sips_bestQuestion_65, w_Sips_bestQuestion_71, w_Sips_bestQuestion_74, w_Sips_bestQuestion_81, w_Sips_bestQuestion_87, w_Sips_bestQuestion_49 (l2 := nI m), c_3, f_3_0, p_3_0, f_3_1, p_3_1, f_3_2, p_3_2, f_3_3, p_3_3, f_3_4, p_3_4, f_3_5, p_3_5, f_3_6, p_3_6, f_3_7, p_3_7, f_3_8, p_3_8, f_3_9, f_3_10, f_3_11, f_3_12, f_3_13, c_9, f_9_0, f_9_1, p_9_1, f_9_2, p_9_2, f_9_3, p_9_3, f_9_4, p_9_4, f_9_5, f_9_6, c_48, f_48_0, f_48_1, f_48_2, f_48_3, p_48_3, f_48_4, p_48_4, Option.some.injEq, exists_eq_left', exists_eq_left, Option.toList_some, Option.toList_none, List.cons_append, List.nil_append, true_and, and_true, Option.map_some, Option.map_none, t5, hc, if_false, x_ev_iff q1, h42, hle, h1, not_true_eq_false, nI_1, qsN, if_true, show optI (some m) = nI m from rfl]
    · refine ⟨(s2, some (.int (wst T A m))), ⟨ho.tr q2, by rw [qsN, if_neg h1]; exact h42⟩, fun r => ?_⟩
      simp only [w_Sips_bestQuestion_0, w_Sips_bestQuestion_5, w_Sips_bestQuestion_12, w_Sips_bestQuestion_15, w_Sips_bestQuestion_18, w_Sips_bestQuestion_22, w_Sips_bestQuestion_26, w_Sips_bestQuestion_29, w_Sips_bestQuestion_34, w_Sips_bestQuestion_39, w_Sips_bestQuestion_45, w_Sips_bestQuestion_54, w_Sips_bestQuestion_57, w_Sips_bestQuestion_60, w_Sips_bestQuestion_65, w_Sips_bestQuestion_71, w_Sips_bestQuestion_74, w_Sips_bestQuestion_81, w_Sips_bestQuestion_87, w_Sips_bestQuestion_49 (l2 := nI m), c_3, f_3_0, p_3_0, f_3_1, p_3_1, f_3_2, p_3_2, f_3_3, p_3_3, f_3_4, p_3_4, f_3_5, p_3_5, f_3_6, p_3_6, f_3_7, p_3_7, f_3_8, p_3_8, f_3_9, f_3_10, f_3_11, f_3_12, f_3_13, c_9, f_9_0, f_9_1, p_9_1, f_9_2, p_9_2, f_9_3, p_9_3, f_9_4, p_9_4, f_9_5, f_9_6, c_48, f_48_0, f_48_1, f_48_2, f_48_3, p_48_3, f_48_4, p_48_4, Option.some.injEq, exists_eq_left', exists_eq_left, Option.toList_some, Option.toList_none, List.cons_append, List.nil_append, true_and, and_true, Option.map_some, Option.map_none, t5, hc, if_false, x_ev_iff q1, h42, hle, h1, not_false_eq_true, if_true, nI_1, qsN]) (tM T) 0 (s1, none) (by omega) ⟨ho, h4⟩
  refine ⟨s', ?_, ho', h4'⟩
  rw [x_ev_in rfl (Nat.le_of_ble_eq_true rfl)]
  rw [show x_ent (x_nL g_M 60) [.ref 48] = [some (.ref 48), none, none, none] from rfl]
  simp only [w_Sips_bestQuestion_0, w_Sips_bestQuestion_5, c_48, f_48_0, f_48_1, f_48_2, f_48_3, p_48_3, f_48_4, p_48_4, Option.some.injEq, exists_eq_left', exists_eq_left, Option.toList_some, Option.toList_none, List.cons_append, List.nil_append, true_and, and_true, Option.map_some, Option.map_none]
  refine (e _).mpr ?_
  have t4 := (ho.T hT).1.2.2.2.2.1
  have t5 : s'.1 3 5 = nI (tM T) := (ho'.T hT).1.2.2.2.2.2
  simp only [w_Sips_bestQuestion_7 (l1 := nI (tP T)), w_Sips_bestQuestion_12, w_Sips_bestQuestion_15, w_Sips_bestQuestion_45, c_3, f_3_0, p_3_0, f_3_1, p_3_1, f_3_2, p_3_2, f_3_3, p_3_3, f_3_4, p_3_4, f_3_5, p_3_5, f_3_6, p_3_6, f_3_7, p_3_7, f_3_8, p_3_8, f_3_9, f_3_10, f_3_11, f_3_12, f_3_13, c_48, f_48_0, f_48_1, f_48_2, f_48_3, p_48_3, f_48_4, p_48_4, Option.some.injEq, exists_eq_left', exists_eq_left, Option.toList_some, Option.toList_none, List.cons_append, List.nil_append, true_and, and_true, Option.map_some, Option.map_none, t4, show nI (tP T) ≤ nI (tP T) from Int32.le_refl _, if_true]
  refine (e' _).mpr ?_
  simp only [w_Sips_bestQuestion_0, w_Sips_bestQuestion_5, w_Sips_bestQuestion_12, w_Sips_bestQuestion_15, w_Sips_bestQuestion_18, w_Sips_bestQuestion_22, w_Sips_bestQuestion_26, w_Sips_bestQuestion_29, w_Sips_bestQuestion_34, w_Sips_bestQuestion_39, w_Sips_bestQuestion_45, w_Sips_bestQuestion_54, w_Sips_bestQuestion_57, w_Sips_bestQuestion_60, w_Sips_bestQuestion_65, w_Sips_bestQuestion_71, w_Sips_bestQuestion_74, w_Sips_bestQuestion_81, w_Sips_bestQuestion_87, w_Sips_bestQuestion_49 (l2 := nI (tM T)), c_3, f_3_0, p_3_0, f_3_1, p_3_1, f_3_2, p_3_2, f_3_3, p_3_3, f_3_4, p_3_4, f_3_5, p_3_5, f_3_6, p_3_6, f_3_7, p_3_7, f_3_8, p_3_8, f_3_9, f_3_10, f_3_11, f_3_12, f_3_13, c_48, f_48_0, f_48_1, f_48_2, f_48_3, p_48_3, f_48_4, p_48_4, Option.some.injEq, exists_eq_left', exists_eq_left, Option.toList_some, Option.toList_none, List.cons_append, List.nil_append, true_and, and_true, Option.map_some, Option.map_none, t5, show nI (tM T) ≤ nI (tM T) from Int32.le_refl _, if_true]
end ASK
def offQ (s s' : xS) : Prop := (∀ q, q ≠ 110 → q ≠ 117 → q ≠ 118 → s'.1 q = s.1 q) ∧ (∀ k, k < 16 → s'.1 110 k = s.1 110 k) ∧ s'.2 = s.2
theorem offQ.rf {s : xS} : offQ s s := ⟨fun _ _ _ _ => rfl, fun _ _ => rfl, rfl⟩
theorem offQ.tr {s s' s'' : xS} (h : offQ s s') (h2 : offQ s' s'') : offQ s s'' := ⟨fun q a b c => (h2.1 q a b c).trans (h.1 q a b c), fun k a => (h2.2.1 k a).trans (h.2.1 k a), h2.2.2.trans h.2.2⟩
theorem offR.Q {s s' : xS} (h : offR s s') : offQ s s' := ⟨h.1, fun k a => h.2.1 k (by omega) (by omega) (by omega), h.2.2⟩
theorem offQ.ke {s s' : xS} (h : offQ s s') : keR s s' := ⟨fun q a b => h.1 q a (by omega) (by omega), h.2.1, fun q _ _ => by rw [h.2.2]⟩
theorem offQ.p {s : xS} {k : Nat} {v : Int32} (hk : 16 ≤ k) : offQ s (s_p s 110 k v) := ⟨fun q a _ _ => by funext j; simp [s_p, a], fun j hj => by
  have : ¬ j = k := by omega
  simp [s_p, this], rfl⟩
theorem offQ.W {s s' : xS} {T : Tw} {l : List Int32} (h : offQ s s') (hR : refW s T l) : refW s' T l := refW_at (h.1 111 (by omega) (by omega) (by omega)) hR
section ASK2
variable {P : Nat → List Value → Option Value} {d : Nat} {xs : List Int32} {T : Tw}
set_option maxHeartbeats 8000000 in
theorem r_askOf (hd : 9 ≤ d) (hK : tOk T) {s : xS} {A : As} {acts : List Int32} (hR : refW s T acts) (hr : aRun T (aBegin T) acts = some A) : ∃ s', x_ev g_M P d 310 [.ref 110] (mkH xs s) (some (.int (optI (qsN T A (tM T)).1)), mkH xs s') ∧ offQ s s' ∧ s'.1 110 31 = (qsN T A (tM T)).2 := by
  have hW := hK.1
  have w1 := hW.1
  have w2 := hW.2.1
  have hO := aOk_run hK _ _ _ (aOk_begin hK) hr
  obtain ⟨d, rfl⟩ := x_1 (d := d) (by omega)
  obtain ⟨s1, ho, e⟩ := x_upY (C := x_ev g_M P d) (k := 310) (N := tP T) (β := xS) (R := fun p z => offQ s z) (F := fun p z => (4, [some (.ref 110), some (.int (canN T A p)), some (.int (nI p)), none, none, none], [], mkH xs z)) (fun p z hp ho => by
    have hc : ¬ nI (tP T) ≤ nI p := nI_ge hp (by omega)
    have hRz := ho.W hR
    obtain ⟨s2, e1, o1, hA1⟩ := r_asItIs (P := P) (d := d) (xs := xs) (by omega) hRz hK hr
    have ec : canN T A (p + 1) = canN T A p + if aWhy T A p = 0 then 1 else 0 := rfl
    refine ⟨s2, ho.tr o1.Q, fun r => ?_⟩
    simp only [w_Ref_askOf_0, w_Ref_askOf_9, w_Ref_askOf_11, w_Ref_askOf_14, w_Ref_askOf_18, w_Ref_askOf_24, w_Ref_askOf_27, w_Ref_askOf_31, w_Ref_askOf_32, w_Ref_askOf_40, w_Ref_askOf_45, w_Ref_askOf_54, w_Ref_askOf_56, w_Ref_askOf_59, w_Ref_askOf_71, w_Ref_askOf_73, w_Ref_askOf_76, w_Ref_askOf_80, w_Ref_askOf_86, w_Ref_askOf_89, w_Ref_askOf_92, w_Ref_askOf_98, w_Ref_askOf_105, w_Ref_askOf_109, w_Ref_askOf_112, w_Ref_askOf_118, w_Ref_askOf_135, w_Ref_askOf_138, w_Ref_askOf_141, w_Ref_askOf_147, w_Ref_askOf_149, w_Ref_askOf_155, w_Ref_askOf_4 (l2 := nI p), c_110, f_110_0, p_110_0, f_110_1, f_110_2, f_110_3, f_110_4, f_110_5, p_110_5, f_110_6, f_110_7, p_110_7, f_110_8, p_110_8, f_110_9, p_110_9, f_110_10, p_110_10, f_110_11, p_110_11, f_110_12, p_110_12, f_110_13, p_110_13, f_110_14, f_110_15, f_110_16, p_110_16, f_110_17, f_110_18, p_110_18, f_110_19, p_110_19, f_110_20, f_110_21, p_110_21, f_110_22, p_110_22, f_110_23, f_110_24, f_110_25, p_110_25, f_110_26, f_110_27, f_110_28, f_110_29, f_110_30, f_110_31, p_110_31, f_110_32, p_110_32, f_110_33, p_110_33, f_110_34, p_110_34, f_110_35, f_110_36, f_110_37, f_110_38, e_111, i_111, Option.some.injEq, exists_eq_left', exists_eq_left, Option.toList_some, Option.toList_none, List.cons_append, List.nil_append, true_and, and_true, Option.map_some, Option.map_none, x_w3 hRz.1, hc, if_false, x_ev_iff e1, r_whyNot (d := d) (by omega) (o1.T hRz.1) hW hA1 hO hp, nI_1, ec]
    by_cases h0 : aWhy T A p = 0
    · simp only [h0, not_true_eq_false, if_false, if_true]
    · simp only [h0, not_false_eq_true, if_true, if_false]) (tP T) 0 s (by omega) offQ.rf
  obtain ⟨⟨s', o4, o5⟩, ⟨ho', h31⟩, e'⟩ := x_upY (C := x_ev g_M P d) (k := 310) (N := tM T) (β := xS × Option Value × Option Value) (R := fun m z => offQ s z.1 ∧ z.1.1 110 31 = (qsN T A m).2) (F := fun m z => (49, [some (.ref 110), some (.int (canN T A (tP T))), some (.int (optI (qsN T A m).1)), some (.int (nI m)), z.2.1, z.2.2], [], mkH xs z.1)) (fun m zo hm hRm => by
    obtain ⟨z, o4, o5⟩ := zo
    obtain ⟨ho, h31⟩ : offQ s z ∧ z.1 110 31 = (qsN T A m).2 := hRm
    have hc : ¬ nI (tM T) ≤ nI m := nI_ge hm (by omega)
    have hRz := ho.W hR
    obtain ⟨z2, ⟨ho2, h312⟩, e2⟩ := x_upY (C := x_ev g_M P d) (k := 310) (N := tP T) (β := xS) (R := fun p z2 => offQ s z2 ∧ z2.1 110 31 = (qsN T A m).2) (F := fun p z2 => (65, [some (.ref 110), some (.int (canN T A (tP T))), some (.int (optI (qsN T A m).1)), some (.int (nI m)), some (.int (hldN T A m p)), some (.int (nI p))], [], mkH xs z2)) (fun p z2 hp hR2 => by
      obtain ⟨ho2, h312⟩ := hR2
      have hc : ¬ nI (tP T) ≤ nI p := nI_ge hp (by omega)
      have hRz := ho2.W hR
      obtain ⟨s2, e1, o1, hA1⟩ := r_asItIs (P := P) (d := d) (xs := xs) (by omega) hRz hK hr
      have hT1 := o1.T hRz.1
      have eh : hldN T A m (p + 1) = hldN T A m p + if hldB T A m p = true then 1 else 0 := rfl
      by_cases h0 : aWhy T A p = 0
      · obtain ⟨s3, v, q1, q2, q3⟩ := r_sip (P := P) (d := d) (xs := xs) (by omega) hK hT1 hA1 hO hp h0
        have hO2 := aft_ok hO h0 hp
        refine ⟨s3, ⟨(ho2.tr o1.Q).tr q2.Q, by rw [q2.2.1 31 (by omega) (by omega) (by omega), o1.2.1 31 (by omega) (by omega) (by omega)]; exact h312⟩, fun r => ?_⟩
        simp only [w_Ref_askOf_0, w_Ref_askOf_9, w_Ref_askOf_11, w_Ref_askOf_14, w_Ref_askOf_18, w_Ref_askOf_24, w_Ref_askOf_27, w_Ref_askOf_31, w_Ref_askOf_32, w_Ref_askOf_40, w_Ref_askOf_45, w_Ref_askOf_54, w_Ref_askOf_56, w_Ref_askOf_59, w_Ref_askOf_71, w_Ref_askOf_73, w_Ref_askOf_76, w_Ref_askOf_80, w_Ref_askOf_86, w_Ref_askOf_89, w_Ref_askOf_92, w_Ref_askOf_98, w_Ref_askOf_105, w_Ref_askOf_109, w_Ref_askOf_112, w_Ref_askOf_118, w_Ref_askOf_135, w_Ref_askOf_138, w_Ref_askOf_141, w_Ref_askOf_147, w_Ref_askOf_149, w_Ref_askOf_155, w_Ref_askOf_65 (l5 := nI p), c_110, f_110_0, p_110_0, f_110_1, f_110_2, f_110_3, f_110_4, f_110_5, p_110_5, f_110_6, f_110_7, p_110_7, f_110_8, p_110_8, f_110_9, p_110_9, f_110_10, p_110_10, f_110_11, p_110_11, f_110_12, p_110_12, f_110_13, p_110_13, f_110_14, f_110_15, f_110_16, p_110_16, f_110_17, f_110_18, p_110_18, f_110_19, p_110_19, f_110_20, f_110_21, p_110_21, f_110_22, p_110_22, f_110_23, f_110_24, f_110_25, p_110_25, f_110_26, f_110_27, f_110_28, f_110_29, f_110_30, f_110_31, p_110_31, f_110_32, p_110_32, f_110_33, p_110_33, f_110_34, p_110_34, f_110_35, f_110_36, f_110_37, f_110_38, e_111, i_111, Option.some.injEq, exists_eq_left', exists_eq_left, Option.toList_some, Option.toList_none, List.cons_append, List.nil_append, true_and, and_true, Option.map_some, Option.map_none, x_w3 hRz.1, hc, if_false, x_ev_iff e1, r_whyNot (d := d) (by omega) hT1 hW hA1 hO hp, h0, if_true, x_ev_iff q1, r_settledNow (d := d) (by omega) q3 hO2.1 hW, r_bit (d := d) (by omega), bit_i (show m < 32 by omega), nI_1, eh, hldB, decide_true, Bool.true_and]
      · refine ⟨s2, ⟨ho2.tr o1.Q, by rw [o1.2.1 31 (by omega) (by omega) (by omega)]; exact h312⟩, fun r => ?_⟩
        simp only [w_Ref_askOf_0, w_Ref_askOf_9, w_Ref_askOf_11, w_Ref_askOf_14, w_Ref_askOf_18, w_Ref_askOf_24, w_Ref_askOf_27, w_Ref_askOf_31, w_Ref_askOf_32, w_Ref_askOf_40, w_Ref_askOf_45, w_Ref_askOf_54, w_Ref_askOf_56, w_Ref_askOf_59, w_Ref_askOf_71, w_Ref_askOf_73, w_Ref_askOf_76, w_Ref_askOf_80, w_Ref_askOf_86, w_Ref_askOf_89, w_Ref_askOf_92, w_Ref_askOf_98, w_Ref_askOf_105, w_Ref_askOf_109, w_Ref_askOf_112, w_Ref_askOf_118, w_Ref_askOf_135, w_Ref_askOf_138, w_Ref_askOf_141, w_Ref_askOf_147, w_Ref_askOf_149, w_Ref_askOf_155, w_Ref_askOf_65 (l5 := nI p), c_110, f_110_0, p_110_0, f_110_1, f_110_2, f_110_3, f_110_4, f_110_5, p_110_5, f_110_6, f_110_7, p_110_7, f_110_8, p_110_8, f_110_9, p_110_9, f_110_10, p_110_10, f_110_11, p_110_11, f_110_12, p_110_12, f_110_13, p_110_13, f_110_14, f_110_15, f_110_16, p_110_16, f_110_17, f_110_18, p_110_18, f_110_19, p_110_19, f_110_20, f_110_21, p_110_21, f_110_22, p_110_22, f_110_23, f_110_24, f_110_25, p_110_25, f_110_26, f_110_27, f_110_28, f_110_29, f_110_30, f_110_31, p_110_31, f_110_32, p_110_32, f_110_33, p_110_33, f_110_34, p_110_34, f_110_35, f_110_36, f_110_37, f_110_38, e_111, i_111, Option.some.injEq, exists_eq_left', exists_eq_left, Option.toList_some, Option.toList_none, List.cons_append, List.nil_append, true_and, and_true, Option.map_some, Option.map_none, x_w3 hRz.1, hc, if_false, x_ev_iff e1, r_whyNot (d := d) (by omega) hT1 hW hA1 hO hp, h0, nI_1, eh, hldB, decide_false, Bool.false_and, Bool.false_eq_true, Int32.add_zero]) (tP T) 0 z (by omega) ⟨ho, h31⟩
    have hTz2 := (ho2.W hR).1
    by_cases h1 : wst T A m < (qsN T A m).2
    · refine ⟨(s_p z2 110 31 (wst T A m), some (.int (hldN T A m (tP T))), some (.int (wst T A m))), ⟨ho2.tr (offQ.p (by omega)), by rw [qsN, if_pos h1]; simp [s_p]⟩, fun r => ?_⟩
      simp only [w_Ref_askOf_49 (l3 := nI m), w_Ref_askOf_54, w_Ref_askOf_56, w_Ref_askOf_59, c_110, f_110_0, p_110_0, f_110_1, f_110_2, f_110_3, f_110_4, f_110_5, p_110_5, f_110_6, f_110_7, p_110_7, f_110_8, p_110_8, f_110_9, p_110_9, f_110_10, p_110_10, f_110_11, p_110_11, f_110_12, p_110_12, f_110_13, p_110_13, f_110_14, f_110_15, f_110_16, p_110_16, f_110_17, f_110_18, p_110_18, f_110_19, p_110_19, f_110_20, f_110_21, p_110_21, f_110_22, p_110_22, f_110_23, f_110_24, f_110_25, p_110_25, f_110_26, f_110_27, f_110_28, f_110_29, f_110_30, f_110_31, p_110_31, f_110_32, p_110_32, f_110_33, p_110_33, f_110_34, p_110_34, f_110_35, f_110_36, f_110_37, f_110_38, e_111, i_111, Option.some.injEq, exists_eq_left', exists_eq_left, Option.toList_some, Option.toList_none, List.cons_append, List.nil_append, true_and, and_true, Option.map_some, Option.map_none, x_w4 hRz.1, hc, if_false]
      refine (e2 r).trans ?_
      simp only [w_Ref_askOf_0, w_Ref_askOf_9, w_Ref_askOf_11, w_Ref_askOf_14, w_Ref_askOf_18, w_Ref_askOf_24, w_Ref_askOf_27, w_Ref_askOf_31, w_Ref_askOf_32, w_Ref_askOf_40, w_Ref_askOf_45, w_Ref_askOf_54, w_Ref_askOf_56, w_Ref_askOf_59, w_Ref_askOf_71, w_Ref_askOf_73, w_Ref_askOf_76, w_Ref_askOf_80, w_Ref_askOf_86, w_Ref_askOf_89, w_Ref_askOf_92, w_Ref_askOf_98, w_Ref_askOf_105, w_Ref_askOf_109, w_Ref_askOf_112, w_Ref_askOf_118, w_Ref_askOf_135, w_Ref_askOf_138, w_Ref_askOf_141, w_Ref_askOf_147, w_Ref_askOf_149, w_Ref_askOf_155, w_Ref_askOf_65 (l5 := nI (tP T)), c_110, f_110_0, p_110_0, f_110_1, f_110_2, f_110_3, f_110_4, f_110_5, p_110_5, f_110_6, f_110_7, p_110_7, f_110_8, p_110_8, f_110_9, p_110_9, f_110_10, p_110_10, f_110_11, p_110_11, f_110_12, p_110_12, f_110_13, p_110_13, f_110_14, f_110_15, f_110_16, p_110_16, f_110_17, f_110_18, p_110_18, f_110_19, p_110_19, f_110_20, f_110_21, p_110_21, f_110_22, p_110_22, f_110_23, f_110_24, f_110_25, p_110_25, f_110_26, f_110_27, f_110_28, f_110_29, f_110_30, f_110_31, p_110_31, f_110_32, p_110_32, f_110_33, p_110_33, f_110_34, p_110_34, f_110_35, f_110_36, f_110_37, f_110_38, e_111, i_111, Option.some.injEq, exists_eq_left', exists_eq_left, Option.toList_some, Option.toList_none, List.cons_append, List.nil_append, true_and, and_true, Option.map_some, Option.map_none, x_w3 hTz2, show nI (tP T) ≤ nI (tP T) from Int32.le_refl _, if_true, canN_eq, h312, show (if hldN T A m (tP T) < falN T A m (tP T) then falN T A m (tP T) else hldN T A m (tP T)) = wst T A m from rfl, h1, nI_1, qsN, show optI (some m) = nI m from rfl]
    · refine ⟨(z2, some (.int (hldN T A m (tP T))), some (.int (wst T A m))), ⟨ho2, by rw [qsN, if_neg h1]; exact h312⟩, fun r => ?_⟩
      simp only [w_Ref_askOf_49 (l3 := nI m), w_Ref_askOf_54, w_Ref_askOf_56, w_Ref_askOf_59, c_110, f_110_0, p_110_0, f_110_1, f_110_2, f_110_3, f_110_4, f_110_5, p_110_5, f_110_6, f_110_7, p_110_7, f_110_8, p_110_8, f_110_9, p_110_9, f_110_10, p_110_10, f_110_11, p_110_11, f_110_12, p_110_12, f_110_13, p_110_13, f_110_14, f_110_15, f_110_16, p_110_16, f_110_17, f_110_18, p_110_18, f_110_19, p_110_19, f_110_20, f_110_21, p_110_21, f_110_22, p_110_22, f_110_23, f_110_24, f_110_25, p_110_25, f_110_26, f_110_27, f_110_28, f_110_29, f_110_30, f_110_31, p_110_31, f_110_32, p_110_32, f_110_33, p_110_33, f_110_34, p_110_34, f_110_35, f_110_36, f_110_37, f_110_38, e_111, i_111, Option.some.injEq, exists_eq_left', exists_eq_left, Option.toList_some, Option.toList_none, List.cons_append, List.nil_append, true_and, and_true, Option.map_some, Option.map_none, x_w4 hRz.1, hc, if_false]
      refine (e2 r).trans ?_
      simp only [w_Ref_askOf_0, w_Ref_askOf_9, w_Ref_askOf_11, w_Ref_askOf_14, w_Ref_askOf_18, w_Ref_askOf_24, w_Ref_askOf_27, w_Ref_askOf_31, w_Ref_askOf_32, w_Ref_askOf_40, w_Ref_askOf_45, w_Ref_askOf_54, w_Ref_askOf_56, w_Ref_askOf_59, w_Ref_askOf_71, w_Ref_askOf_73, w_Ref_askOf_76, w_Ref_askOf_80, w_Ref_askOf_86, w_Ref_askOf_89, w_Ref_askOf_92, w_Ref_askOf_98, w_Ref_askOf_105, w_Ref_askOf_109, w_Ref_askOf_112, w_Ref_askOf_118, w_Ref_askOf_135, w_Ref_askOf_138, w_Ref_askOf_141, w_Ref_askOf_147, w_Ref_askOf_149, w_Ref_askOf_155, w_Ref_askOf_65 (l5 := nI (tP T)), c_110, f_110_0, p_110_0, f_110_1, f_110_2, f_110_3, f_110_4, f_110_5, p_110_5, f_110_6, f_110_7, p_110_7, f_110_8, p_110_8, f_110_9, p_110_9, f_110_10, p_110_10, f_110_11, p_110_11, f_110_12, p_110_12, f_110_13, p_110_13, f_110_14, f_110_15, f_110_16, p_110_16, f_110_17, f_110_18, p_110_18, f_110_19, p_110_19, f_110_20, f_110_21, p_110_21, f_110_22, p_110_22, f_110_23, f_110_24, f_110_25, p_110_25, f_110_26, f_110_27, f_110_28, f_110_29, f_110_30, f_110_31, p_110_31, f_110_32, p_110_32, f_110_33, p_110_33, f_110_34, p_110_34, f_110_35, f_110_36, f_110_37, f_110_38, e_111, i_111, Option.some.injEq, exists_eq_left', exists_eq_left, Option.toList_some, Option.toList_none, List.cons_append, List.nil_append, true_and, and_true, Option.map_some, Option.map_none, x_w3 hTz2, show nI (tP T) ≤ nI (tP T) from Int32.le_refl _, if_true, canN_eq, h312, show (if hldN T A m (tP T) < falN T A m (tP T) then falN T A m (tP T) else hldN T A m (tP T)) = wst T A m from rfl, h1, if_false, nI_1, qsN]) (tM T) 0 (s_p s1 110 31 (canN T A (tP T)), none, none) (by omega) ⟨ho.tr (offQ.p (by omega)), by simp [s_p]; rfl⟩
  have ho' : offQ s s' := ho'
  refine ⟨s', ?_, ho', h31⟩
  rw [x_ev_in rfl (Nat.le_of_ble_eq_true rfl)]
  rw [show x_ent (x_nL g_M 310) [.ref 110] = [some (.ref 110), none, none, none, none, none] from rfl]
  rw [w_Ref_askOf_0]
  refine (e _).mpr ?_
  simp only [w_Ref_askOf_4 (l2 := nI (tP T)), w_Ref_askOf_9, w_Ref_askOf_11, w_Ref_askOf_40, w_Ref_askOf_45, c_110, f_110_0, p_110_0, f_110_1, f_110_2, f_110_3, f_110_4, f_110_5, p_110_5, f_110_6, f_110_7, p_110_7, f_110_8, p_110_8, f_110_9, p_110_9, f_110_10, p_110_10, f_110_11, p_110_11, f_110_12, p_110_12, f_110_13, p_110_13, f_110_14, f_110_15, f_110_16, p_110_16, f_110_17, f_110_18, p_110_18, f_110_19, p_110_19, f_110_20, f_110_21, p_110_21, f_110_22, p_110_22, f_110_23, f_110_24, f_110_25, p_110_25, f_110_26, f_110_27, f_110_28, f_110_29, f_110_30, f_110_31, p_110_31, f_110_32, p_110_32, f_110_33, p_110_33, f_110_34, p_110_34, f_110_35, f_110_36, f_110_37, f_110_38, e_111, i_111, Option.some.injEq, exists_eq_left', exists_eq_left, Option.toList_some, Option.toList_none, List.cons_append, List.nil_append, true_and, and_true, Option.map_some, Option.map_none, x_w3 (ho.W hR).1, show nI (tP T) ≤ nI (tP T) from Int32.le_refl _, if_true]
  refine (e' _).mpr ?_
  simp only [w_Ref_askOf_0, w_Ref_askOf_9, w_Ref_askOf_11, w_Ref_askOf_14, w_Ref_askOf_18, w_Ref_askOf_24, w_Ref_askOf_27, w_Ref_askOf_31, w_Ref_askOf_32, w_Ref_askOf_40, w_Ref_askOf_45, w_Ref_askOf_54, w_Ref_askOf_56, w_Ref_askOf_59, w_Ref_askOf_71, w_Ref_askOf_73, w_Ref_askOf_76, w_Ref_askOf_80, w_Ref_askOf_86, w_Ref_askOf_89, w_Ref_askOf_92, w_Ref_askOf_98, w_Ref_askOf_105, w_Ref_askOf_109, w_Ref_askOf_112, w_Ref_askOf_118, w_Ref_askOf_135, w_Ref_askOf_138, w_Ref_askOf_141, w_Ref_askOf_147, w_Ref_askOf_149, w_Ref_askOf_155, w_Ref_askOf_49 (l3 := nI (tM T)), c_110, f_110_0, p_110_0, f_110_1, f_110_2, f_110_3, f_110_4, f_110_5, p_110_5, f_110_6, f_110_7, p_110_7, f_110_8, p_110_8, f_110_9, p_110_9, f_110_10, p_110_10, f_110_11, p_110_11, f_110_12, p_110_12, f_110_13, p_110_13, f_110_14, f_110_15, f_110_16, p_110_16, f_110_17, f_110_18, p_110_18, f_110_19, p_110_19, f_110_20, f_110_21, p_110_21, f_110_22, p_110_22, f_110_23, f_110_24, f_110_25, p_110_25, f_110_26, f_110_27, f_110_28, f_110_29, f_110_30, f_110_31, p_110_31, f_110_32, p_110_32, f_110_33, p_110_33, f_110_34, p_110_34, f_110_35, f_110_36, f_110_37, f_110_38, e_111, i_111, Option.some.injEq, exists_eq_left', exists_eq_left, Option.toList_some, Option.toList_none, List.cons_append, List.nil_append, true_and, and_true, Option.map_some, Option.map_none, x_w4 (ho'.W hR).1, show nI (tM T) ≤ nI (tM T) from Int32.le_refl _, if_true]
end ASK2
section ASK3
variable {P : Nat → List Value → Option Value} {W : Wd}
set_option maxHeartbeats 4000000 in
theorem k_ask (h : wOk W) : ask2 P 164 311 [] W := by
  obtain ⟨hK, hl60, hr, hrest⟩ := h; have hW := hK.1; have hO := aOk_run hK _ _ _ (aOk_begin hK) hr; have hAw := hO.1; have w1 := hW.1; have w2 := hW.2.1; have h9 : 9 ∈ g_SP := by decide
  by_cases h1 : tLi (wT W) ≤ 0
  · refine ⟨-2, cAsk0 ?_, rAsk0 ?_⟩
    · intro d xs s hd hC; obtain ⟨⟨hT, hA, hn, hacts⟩, -⟩ := hC
      obtain ⟨d, rfl⟩ := x_1 (d := d) (by omega)
      rw [x_ev_in rfl (Nat.le_of_ble_eq_true rfl)]
      rw [show x_ent (x_nL g_M 164) [.ref 1] = [some (.ref 1)] from rfl]
      simp only [w_Top_ask_0, w_Top_ask_4, w_Top_ask_7, w_Top_ask_10, w_Top_ask_14, w_Top_ask_17, w_Top_ask_20, w_Top_ask_22, c_1, f_1_0, f_1_1, p_1_1, f_1_2, f_1_3, f_1_4, f_1_5, f_1_6, p_1_6, f_1_7, f_1_8, f_1_9, f_1_10, f_1_11, f_1_12, f_1_13, f_1_14, c_3, f_3_0, p_3_0, f_3_1, p_3_1, f_3_2, p_3_2, f_3_3, p_3_3, f_3_4, p_3_4, f_3_5, p_3_5, f_3_6, p_3_6, f_3_7, p_3_7, f_3_8, p_3_8, f_3_9, f_3_10, f_3_11, f_3_12, f_3_13, c_9, f_9_0, f_9_1, p_9_1, f_9_2, p_9_2, f_9_3, p_9_3, f_9_4, p_9_4, f_9_5, f_9_6, Option.some.injEq, exists_eq_left', exists_eq_left, Option.toList_some, Option.toList_none, List.cons_append, List.nil_append, true_and, and_true, Option.map_some, Option.map_none, t_isTold (d := d) (by omega) hT, t_hasPerson (d := d) (by omega) hT, t_hasMatter (d := d) (by omega) hT, t_hasSet (d := d) (by omega) hT hW, t_bitOf (d := d) (by omega), t_isClosed (d := d) (by omega) hT hW, t_sumOfAll (d := d) (by omega) hT hW, s_openOnes (d := d) (by omega) h9 hT hW hA, s_wishers (d := d) (by omega) h9 hT hW hA hAw, s_allCups (d := d) (by omega) h9 hT hW hA, h1, show ¬ ((1 : Int32) = 0) by decide, not_true_eq_false, not_false_eq_true, if_true, if_false]
    · intro d xs s hd hC; obtain ⟨hR, -⟩ := hC; have hT := hR.1
      obtain ⟨d, rfl⟩ := x_1 (d := d) (by omega)
      rw [x_ev_in rfl (Nat.le_of_ble_eq_true rfl)]
      rw [show x_ent (x_nL g_M 311) [.ref 110] = [some (.ref 110)] from rfl]
      simp only [w_Ref_ask_0, w_Ref_ask_4, w_Ref_ask_7, w_Ref_ask_11, w_Ref_ask_14, w_Ref_ask_16, c_110, f_110_0, p_110_0, f_110_1, f_110_2, f_110_3, f_110_4, f_110_5, p_110_5, f_110_6, f_110_7, p_110_7, f_110_8, p_110_8, f_110_9, p_110_9, f_110_10, p_110_10, f_110_11, p_110_11, f_110_12, p_110_12, f_110_13, p_110_13, f_110_14, f_110_15, f_110_16, p_110_16, f_110_17, f_110_18, p_110_18, f_110_19, p_110_19, f_110_20, f_110_21, p_110_21, f_110_22, p_110_22, f_110_23, f_110_24, f_110_25, p_110_25, f_110_26, f_110_27, f_110_28, f_110_29, f_110_30, f_110_31, p_110_31, f_110_32, p_110_32, f_110_33, p_110_33, f_110_34, p_110_34, f_110_35, f_110_36, f_110_37, f_110_38, Option.some.injEq, exists_eq_left', exists_eq_left, Option.toList_some, Option.toList_none, List.cons_append, List.nil_append, true_and, and_true, Option.map_some, Option.map_none, r_isTown (d := d) (by omega) hT, r_isPerson (d := d) (by omega) hT hW, r_isMatterI (d := d) (by omega) hT hW, r_isSet (d := d) (by omega) hT hW, r_allMatters (d := d) (by omega) hT hW, r_isClosed (d := d) (by omega) hT hW, r_sumOfAll (d := d) (by omega) hT hW, r_restsOf (d := d) (by omega) hT hW, r_in (d := d) (by omega), r_bit (d := d) (by omega), r_bits (d := d) (by omega), h1, show ¬ ((1 : Int32) = 0) by decide, not_true_eq_false, not_false_eq_true, if_true, if_false]
  · refine ⟨optI (qsN (wT W) (wA W) (tM (wT W))).1, cAsk ?_, rAsk ?_⟩
    · intro d xs s hd hC; obtain ⟨⟨hT, hA, hn, hacts⟩, -⟩ := hC
      obtain ⟨d, rfl⟩ := x_1 (d := d) (by omega)
      obtain ⟨s', q1, q2, q3⟩ := s_bestQ (P := P) (d := d) (xs := xs) (by omega) hK hT hA hO
      refine ⟨s', ?_, q2.ke⟩
      rw [x_ev_in rfl (Nat.le_of_ble_eq_true rfl)]
      rw [show x_ent (x_nL g_M 164) [.ref 1] = [some (.ref 1)] from rfl]
      simp only [w_Top_ask_0, w_Top_ask_4, w_Top_ask_7, w_Top_ask_10, w_Top_ask_14, w_Top_ask_17, w_Top_ask_20, w_Top_ask_22, c_1, f_1_0, f_1_1, p_1_1, f_1_2, f_1_3, f_1_4, f_1_5, f_1_6, p_1_6, f_1_7, f_1_8, f_1_9, f_1_10, f_1_11, f_1_12, f_1_13, f_1_14, c_3, f_3_0, p_3_0, f_3_1, p_3_1, f_3_2, p_3_2, f_3_3, p_3_3, f_3_4, p_3_4, f_3_5, p_3_5, f_3_6, p_3_6, f_3_7, p_3_7, f_3_8, p_3_8, f_3_9, f_3_10, f_3_11, f_3_12, f_3_13, c_9, f_9_0, f_9_1, p_9_1, f_9_2, p_9_2, f_9_3, p_9_3, f_9_4, p_9_4, f_9_5, f_9_6, c_48, f_48_0, f_48_1, f_48_2, f_48_3, p_48_3, f_48_4, p_48_4, Option.some.injEq, exists_eq_left', exists_eq_left, Option.toList_some, Option.toList_none, List.cons_append, List.nil_append, true_and, and_true, Option.map_some, Option.map_none, t_isTold (d := d) (by omega) hT, t_hasPerson (d := d) (by omega) hT, t_hasMatter (d := d) (by omega) hT, t_hasSet (d := d) (by omega) hT hW, t_bitOf (d := d) (by omega), t_isClosed (d := d) (by omega) hT hW, t_sumOfAll (d := d) (by omega) hT hW, s_openOnes (d := d) (by omega) h9 hT hW hA, s_wishers (d := d) (by omega) h9 hT hW hA hAw, s_allCups (d := d) (by omega) h9 hT hW hA, x_ev_iff q1, h1, show ¬ ((1 : Int32) = 0) by decide, not_false_eq_true, if_true, if_false]
    · intro d xs s hd hC; obtain ⟨hR, -⟩ := hC; have hT := hR.1
      obtain ⟨d, rfl⟩ := x_1 (d := d) (by omega)
      obtain ⟨s', e1, e2, e3⟩ := r_askOf (P := P) (d := d) (xs := xs) (by omega) hK hR hr
      refine ⟨s', ?_, e2.ke⟩
      rw [x_ev_in rfl (Nat.le_of_ble_eq_true rfl)]
      rw [show x_ent (x_nL g_M 311) [.ref 110] = [some (.ref 110)] from rfl]
      simp only [w_Ref_ask_0, w_Ref_ask_4, w_Ref_ask_7, w_Ref_ask_11, w_Ref_ask_14, w_Ref_ask_16, c_110, f_110_0, p_110_0, f_110_1, f_110_2, f_110_3, f_110_4, f_110_5, p_110_5, f_110_6, f_110_7, p_110_7, f_110_8, p_110_8, f_110_9, p_110_9, f_110_10, p_110_10, f_110_11, p_110_11, f_110_12, p_110_12, f_110_13, p_110_13, f_110_14, f_110_15, f_110_16, p_110_16, f_110_17, f_110_18, p_110_18, f_110_19, p_110_19, f_110_20, f_110_21, p_110_21, f_110_22, p_110_22, f_110_23, f_110_24, f_110_25, p_110_25, f_110_26, f_110_27, f_110_28, f_110_29, f_110_30, f_110_31, p_110_31, f_110_32, p_110_32, f_110_33, p_110_33, f_110_34, p_110_34, f_110_35, f_110_36, f_110_37, f_110_38, Option.some.injEq, exists_eq_left', exists_eq_left, Option.toList_some, Option.toList_none, List.cons_append, List.nil_append, true_and, and_true, Option.map_some, Option.map_none, r_isTown (d := d) (by omega) hT, r_isPerson (d := d) (by omega) hT hW, r_isMatterI (d := d) (by omega) hT hW, r_isSet (d := d) (by omega) hT hW, r_allMatters (d := d) (by omega) hT hW, r_isClosed (d := d) (by omega) hT hW, r_sumOfAll (d := d) (by omega) hT hW, r_restsOf (d := d) (by omega) hT hW, r_in (d := d) (by omega), r_bit (d := d) (by omega), r_bits (d := d) (by omega), x_ev_iff e1, h1, show ¬ ((1 : Int32) = 0) by decide, not_false_eq_true, if_true, if_false]
set_option maxHeartbeats 4000000 in
theorem k_leaves (h : wOk W) : ask2 P 165 312 [] W := by
  obtain ⟨hK, hl60, hr, hrest⟩ := h; have hW := hK.1; have hO := aOk_run hK _ _ _ (aOk_begin hK) hr; have hAw := hO.1; have w1 := hW.1; have w2 := hW.2.1; have h9 : 9 ∈ g_SP := by decide
  by_cases h1 : tLi (wT W) ≤ 0
  · refine ⟨-2, cAsk0 ?_, rAsk0 ?_⟩
    · intro d xs s hd hC; obtain ⟨⟨hT, hA, hn, hacts⟩, -⟩ := hC
      obtain ⟨d, rfl⟩ := x_1 (d := d) (by omega)
      rw [x_ev_in rfl (Nat.le_of_ble_eq_true rfl)]
      rw [show x_ent (x_nL g_M 165) [.ref 1] = [some (.ref 1)] from rfl]
      simp only [w_Top_leaves_0, w_Top_leaves_4, w_Top_leaves_7, w_Top_leaves_10, w_Top_leaves_13, w_Top_leaves_17, w_Top_leaves_20, w_Top_leaves_25, w_Top_leaves_28, c_1, f_1_0, f_1_1, p_1_1, f_1_2, f_1_3, f_1_4, f_1_5, f_1_6, p_1_6, f_1_7, f_1_8, f_1_9, f_1_10, f_1_11, f_1_12, f_1_13, f_1_14, c_3, f_3_0, p_3_0, f_3_1, p_3_1, f_3_2, p_3_2, f_3_3, p_3_3, f_3_4, p_3_4, f_3_5, p_3_5, f_3_6, p_3_6, f_3_7, p_3_7, f_3_8, p_3_8, f_3_9, f_3_10, f_3_11, f_3_12, f_3_13, c_9, f_9_0, f_9_1, p_9_1, f_9_2, p_9_2, f_9_3, p_9_3, f_9_4, p_9_4, f_9_5, f_9_6, Option.some.injEq, exists_eq_left', exists_eq_left, Option.toList_some, Option.toList_none, List.cons_append, List.nil_append, true_and, and_true, Option.map_some, Option.map_none, t_isTold (d := d) (by omega) hT, t_hasPerson (d := d) (by omega) hT, t_hasMatter (d := d) (by omega) hT, t_hasSet (d := d) (by omega) hT hW, t_bitOf (d := d) (by omega), t_isClosed (d := d) (by omega) hT hW, t_sumOfAll (d := d) (by omega) hT hW, s_openOnes (d := d) (by omega) h9 hT hW hA, s_wishers (d := d) (by omega) h9 hT hW hA hAw, s_allCups (d := d) (by omega) h9 hT hW hA, h1, show ¬ ((1 : Int32) = 0) by decide, not_true_eq_false, not_false_eq_true, if_true, if_false]
    · intro d xs s hd hC; obtain ⟨hR, -⟩ := hC; have hT := hR.1
      obtain ⟨d, rfl⟩ := x_1 (d := d) (by omega)
      rw [x_ev_in rfl (Nat.le_of_ble_eq_true rfl)]
      rw [show x_ent (x_nL g_M 312) [.ref 110] = [some (.ref 110)] from rfl]
      simp only [w_Ref_leaves_0, w_Ref_leaves_4, w_Ref_leaves_7, w_Ref_leaves_10, w_Ref_leaves_14, w_Ref_leaves_19, c_110, f_110_0, p_110_0, f_110_1, f_110_2, f_110_3, f_110_4, f_110_5, p_110_5, f_110_6, f_110_7, p_110_7, f_110_8, p_110_8, f_110_9, p_110_9, f_110_10, p_110_10, f_110_11, p_110_11, f_110_12, p_110_12, f_110_13, p_110_13, f_110_14, f_110_15, f_110_16, p_110_16, f_110_17, f_110_18, p_110_18, f_110_19, p_110_19, f_110_20, f_110_21, p_110_21, f_110_22, p_110_22, f_110_23, f_110_24, f_110_25, p_110_25, f_110_26, f_110_27, f_110_28, f_110_29, f_110_30, f_110_31, p_110_31, f_110_32, p_110_32, f_110_33, p_110_33, f_110_34, p_110_34, f_110_35, f_110_36, f_110_37, f_110_38, Option.some.injEq, exists_eq_left', exists_eq_left, Option.toList_some, Option.toList_none, List.cons_append, List.nil_append, true_and, and_true, Option.map_some, Option.map_none, r_isTown (d := d) (by omega) hT, r_isPerson (d := d) (by omega) hT hW, r_isMatterI (d := d) (by omega) hT hW, r_isSet (d := d) (by omega) hT hW, r_allMatters (d := d) (by omega) hT hW, r_isClosed (d := d) (by omega) hT hW, r_sumOfAll (d := d) (by omega) hT hW, r_restsOf (d := d) (by omega) hT hW, r_in (d := d) (by omega), r_bit (d := d) (by omega), r_bits (d := d) (by omega), h1, show ¬ ((1 : Int32) = 0) by decide, not_true_eq_false, not_false_eq_true, if_true, if_false]
  · refine ⟨(qsN (wT W) (wA W) (tM (wT W))).2, cAsk ?_, rAsk ?_⟩
    · intro d xs s hd hC; obtain ⟨⟨hT, hA, hn, hacts⟩, -⟩ := hC
      obtain ⟨d, rfl⟩ := x_1 (d := d) (by omega)
      obtain ⟨s', q1, q2, q3⟩ := s_bestQ (P := P) (d := d) (xs := xs) (by omega) hK hT hA hO
      refine ⟨s', ?_, q2.ke⟩
      rw [x_ev_in rfl (Nat.le_of_ble_eq_true rfl)]
      rw [show x_ent (x_nL g_M 165) [.ref 1] = [some (.ref 1)] from rfl]
      simp only [w_Top_leaves_0, w_Top_leaves_4, w_Top_leaves_7, w_Top_leaves_10, w_Top_leaves_13, w_Top_leaves_17, w_Top_leaves_20, w_Top_leaves_25, w_Top_leaves_28, c_1, f_1_0, f_1_1, p_1_1, f_1_2, f_1_3, f_1_4, f_1_5, f_1_6, p_1_6, f_1_7, f_1_8, f_1_9, f_1_10, f_1_11, f_1_12, f_1_13, f_1_14, c_3, f_3_0, p_3_0, f_3_1, p_3_1, f_3_2, p_3_2, f_3_3, p_3_3, f_3_4, p_3_4, f_3_5, p_3_5, f_3_6, p_3_6, f_3_7, p_3_7, f_3_8, p_3_8, f_3_9, f_3_10, f_3_11, f_3_12, f_3_13, c_9, f_9_0, f_9_1, p_9_1, f_9_2, p_9_2, f_9_3, p_9_3, f_9_4, p_9_4, f_9_5, f_9_6, c_48, f_48_0, f_48_1, f_48_2, f_48_3, p_48_3, f_48_4, p_48_4, Option.some.injEq, exists_eq_left', exists_eq_left, Option.toList_some, Option.toList_none, List.cons_append, List.nil_append, true_and, and_true, Option.map_some, Option.map_none, t_isTold (d := d) (by omega) hT, t_hasPerson (d := d) (by omega) hT, t_hasMatter (d := d) (by omega) hT, t_hasSet (d := d) (by omega) hT hW, t_bitOf (d := d) (by omega), t_isClosed (d := d) (by omega) hT hW, t_sumOfAll (d := d) (by omega) hT hW, s_openOnes (d := d) (by omega) h9 hT hW hA, s_wishers (d := d) (by omega) h9 hT hW hA hAw, s_allCups (d := d) (by omega) h9 hT hW hA, x_ev_iff q1, h1, show ¬ ((1 : Int32) = 0) by decide, not_false_eq_true, if_true, if_false, q3]
    · intro d xs s hd hC; obtain ⟨hR, -⟩ := hC; have hT := hR.1
      obtain ⟨d, rfl⟩ := x_1 (d := d) (by omega)
      obtain ⟨s', e1, e2, e3⟩ := r_askOf (P := P) (d := d) (xs := xs) (by omega) hK hR hr
      refine ⟨s', ?_, e2.ke⟩
      rw [x_ev_in rfl (Nat.le_of_ble_eq_true rfl)]
      rw [show x_ent (x_nL g_M 312) [.ref 110] = [some (.ref 110)] from rfl]
      simp only [w_Ref_leaves_0, w_Ref_leaves_4, w_Ref_leaves_7, w_Ref_leaves_10, w_Ref_leaves_14, w_Ref_leaves_19, c_110, f_110_0, p_110_0, f_110_1, f_110_2, f_110_3, f_110_4, f_110_5, p_110_5, f_110_6, f_110_7, p_110_7, f_110_8, p_110_8, f_110_9, p_110_9, f_110_10, p_110_10, f_110_11, p_110_11, f_110_12, p_110_12, f_110_13, p_110_13, f_110_14, f_110_15, f_110_16, p_110_16, f_110_17, f_110_18, p_110_18, f_110_19, p_110_19, f_110_20, f_110_21, p_110_21, f_110_22, p_110_22, f_110_23, f_110_24, f_110_25, p_110_25, f_110_26, f_110_27, f_110_28, f_110_29, f_110_30, f_110_31, p_110_31, f_110_32, p_110_32, f_110_33, p_110_33, f_110_34, p_110_34, f_110_35, f_110_36, f_110_37, f_110_38, Option.some.injEq, exists_eq_left', exists_eq_left, Option.toList_some, Option.toList_none, List.cons_append, List.nil_append, true_and, and_true, Option.map_some, Option.map_none, r_isTown (d := d) (by omega) hT, r_isPerson (d := d) (by omega) hT hW, r_isMatterI (d := d) (by omega) hT hW, r_isSet (d := d) (by omega) hT hW, r_allMatters (d := d) (by omega) hT hW, r_isClosed (d := d) (by omega) hT hW, r_sumOfAll (d := d) (by omega) hT hW, r_restsOf (d := d) (by omega) hT hW, r_in (d := d) (by omega), r_bit (d := d) (by omega), r_bits (d := d) (by omega), x_ev_iff e1, h1, show ¬ ((1 : Int32) = 0) by decide, not_false_eq_true, if_true, if_false, e3]
end ASK3
