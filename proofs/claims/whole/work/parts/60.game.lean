/-! game, move: the class (own work) -/
/-- the mover p takes the ACT a -/
def gTk (T : Tw) (A : As) (p a : Nat) : Option As := if a < tM T ∧ tIs T p a = true then aTake T A (nI a) else if a = 10 + p then aTake T A (10 + nI p) else if a = 30 then some A else none
def gW (ev : Bool) (z : Option (Nat × Int32)) (v : Int32) : Bool := match z with
  | none => true
  | some w => if ev = true then decide (w.2 < v) else decide (v < w.2)
def gUp (ev : Bool) (z : Option (Nat × Int32)) (a : Nat) (v : Int32) : Option (Nat × Int32) := if gW ev z v = true then some (a, v) else z
def gFold (T : Tw) (p : Nat) (ev : Bool) (V : As → Int32) (A : As) : Nat → Option (Nat × Int32)
  | 0 => none
  | a + 1 => match gTk T A p a with
    | none => gFold T p ev V A a
    | some B => gUp ev (gFold T p ev V A a) a (V B)
def enc1 (z : Option (Nat × Int32)) : Int32 := match z with
  | none => -1
  | some w => nI w.1
def enc2 (z : Option (Nat × Int32)) : Int32 := match z with
  | none => 0
  | some w => w.2
def gMv (p o t : Nat) : Nat := if t % 2 = 0 then p else o
def gV (T : Tw) (p o : Nat) : Nat → Nat → As → Int32
  | 0, _, A => tSum T p (msk A.1) - tSum T o (msk A.1)
  | j + 1, t, A => enc2 (gFold T (gMv p o t) (decide (t % 2 = 0)) (gV T p o j (t + 1)) A 31)
def gZ (T : Tw) (p o j t : Nat) (A : As) (a : Nat) : Option (Nat × Int32) := gFold T (gMv p o t) (decide (t % 2 = 0)) (gV T p o j (t + 1)) A a
theorem gZ_n {T : Tw} {p o j t a : Nat} {A : As} (h : gTk T A (gMv p o t) a = none) : gZ T p o j t A (a + 1) = gZ T p o j t A a := by
  unfold gZ
  rw [gFold, h]
theorem gZ_s {T : Tw} {p o j t a : Nat} {A B : As} (h : gTk T A (gMv p o t) a = some B) : gZ T p o j t A (a + 1) = gUp (decide (t % 2 = 0)) (gZ T p o j t A a) a (gV T p o j (t + 1) B) := by
  unfold gZ
  rw [gFold, h]
theorem gTk_ok {T : Tw} {A B : As} {p a : Nat} (hK : tOk T) (hO : aOk T A) (h : gTk T A p a = some B) : aOk T B := by
  unfold gTk at h
  split at h
  · exact aOk_take hK hO h
  · split at h
    · exact aOk_take hK hO h
    · split at h
      · cases h; exact hO
      · cases h
def gFa (T : Tw) (p o : Nat) : Nat → Nat → As → Int32 → Int32
  | 0, _, _, x => x
  | j + 1, t, A, x => if t = 0 then (match gZ T p o j t A 31 with
    | none => x
    | some w => nI w.1) else x
def gEa (t : Nat) (z : Option (Nat × Int32)) (x : Int32) : Int32 := if t = 0 then (match z with
  | none => x
  | some w => nI w.1) else x
theorem gFa_s {T : Tw} {p o j t : Nat} {A : As} {x : Int32} : gFa T p o (j + 1) t A x = gEa t (gZ T p o j t A 31) x := rfl
theorem gFa_p {T : Tw} {p o j t : Nat} {A : As} {x : Int32} : gFa T p o j (t + 1) A x = x := by
  cases j with
  | zero => rfl
  | succ j => rw [gFa_s]; unfold gEa; rw [if_neg (by omega)]
def offGm (t : Nat) (s s' : xS) : Prop := (∀ q, q < 31 ∨ (31 < q ∧ q < 33 + 3 * t) ∨ 48 ≤ q → s'.1 q = s.1 q) ∧ (∀ k, k ≠ 5 → s'.1 31 k = s.1 31 k) ∧ s'.2 = s.2
theorem offGm.rf {t : Nat} {s : xS} : offGm t s s := ⟨fun _ _ => rfl, fun _ _ => rfl, rfl⟩
theorem offGm.tr {t : Nat} {s s' s'' : xS} (h : offGm t s s') (h2 : offGm t s' s'') : offGm t s s'' := ⟨fun q a => (h2.1 q a).trans (h.1 q a), fun k a => (h2.2.1 k a).trans (h.2.1 k a), h2.2.2.trans h.2.2⟩
theorem offGm.up {t : Nat} {s s' : xS} (h : offGm (t + 1) s s') : offGm t s s' := ⟨fun q a => h.1 q (by omega), h.2.1, h.2.2⟩
theorem offGm.ke {s s' : xS} (h : offGm 0 s s') : keC s s' := fun q hq => ⟨h.1 q (by omega), by rw [h.2.2]⟩
theorem offGm.T {t : Nat} {s s' : xS} {T : Tw} (h : offGm t s s') (hT : clsT s 3 T) : clsT s' 3 T := clsT_off (fun q a b => h.1 q (by omega)) hT
theorem sp33 : ∀ k, k < 5 → 33 + 3 * k ∈ g_SP := by decide
section GAMEC
variable {P : Nat → List Value → Option Value} {xs : List Int32} {T : Tw} {p o n : Nat}
set_option maxHeartbeats 4000000 in
theorem s_goOn {d : Nat} (hd : 6 ≤ d) (hK : tOk T) {s : xS} {A : As} {t q a : Nat} (ht : t < 4) (hq : q < tP T) (ha : a ≤ 30) (hT : clsT s 3 T) (hA : clsS s (33 + 3 * t) T A) (hO : aOk T A) : ∃ s', x_ev g_M P d 7 [.ref 31, .int (nI t), .int (nI q), .int (nI a)] (mkH xs s) (some (.int (b01 (gTk T A q a).isSome)), mkH xs s') ∧ off3 s s' (33 + 3 * (t + 1)) ∧ ∀ B, gTk T A q a = some B → clsS s' (33 + 3 * (t + 1)) T B := by
  have hW := hK.1
  have w1 := hW.1
  have w2 := hW.2.1
  have hp := sp33 t (by omega)
  have hp1 := sp33 (t + 1) (by omega)
  have hx0 : x_rd (fun k => 33 + 3 * k) 5 (nI t) = some (33 + 3 * t) := x_rd_nI (by omega) (by omega)
  have hx1 : x_rd (fun k => 33 + 3 * k) 5 (nI (t + 1)) = some (33 + 3 * (t + 1)) := x_rd_nI (by omega) (by omega)
  have hmn : x_rd (s.1 5) 6 (nI q) = some (s.1 5 q) := x_rd_nI (by omega) (by omega)
  obtain ⟨d, rfl⟩ := x_1 (d := d) (by omega)
  obtain ⟨s1, q1, q2, q3⟩ := s_copyFrom (P := P) (d := d) (xs := xs) (by omega) hp1 hp (by omega) hW hA hO.1
  have hT1 := q2.T hp1 hT
  have hown : (if nI a < 0 then (0 : Int32) else if nI (tM T) ≤ nI a then 0 else 1) = if a < tM T then 1 else 0 := by
    rw [if_neg (nI_pos (by omega))]
    by_cases h : a < tM T
    · rw [if_neg (nI_ge h (by omega)), if_pos h]
    · rw [if_pos (nI_le (by omega) (by omega)), if_neg h]
  have e30 : nI a = 30 ↔ a = 30 := nI_eq (b := 30) (by omega) (by omega)
  have e10 : nI a = 10 + nI q ↔ a = 10 + q := by
    rw [show (10 : Int32) + nI q = nI (10 + q) from nI_add 10 q]
    exact nI_eq (by omega) (by omega)
  by_cases h1 : a < tM T ∧ tIs T q a = true
  · have hg : gTk T A q a = aTake T A (nI a) := by unfold gTk; rw [if_pos h1]
    obtain ⟨s2, z1, z2, z3⟩ := s_take (P := P) (d := d) (xs := xs) (by omega) hp1 hT1 hW q3 hO.1 (nI a)
    have hb : bt (s.1 5 q) a = true := (hT.2.2.2.2.2.1 q hq a).mpr h1
    have n30 : ¬ a = 30 := by omega
    refine ⟨s2, ?_, q2.tr z2, fun B hB => ?_⟩
    · rw [hg]
      rw [x_ev_in rfl (Nat.le_of_ble_eq_true rfl)]
      rw [show x_ent (x_nL g_M 7) [.ref 31, .int (nI t), .int (nI q), .int (nI a)] = [some (.ref 31), some (.int (nI t)), some (.int (nI q)), some (.int (nI a)), none, none] from rfl]
      simp only [w_Game_goOn_0, w_Game_goOn_4, w_Game_goOn_8, w_Game_goOn_11, w_Game_goOn_15, w_Game_goOn_18, w_Game_goOn_20, w_Game_goOn_24, w_Game_goOn_28, w_Game_goOn_32, w_Game_goOn_33, w_Game_goOn_40, w_Game_goOn_48, w_Game_goOn_54, w_Game_goOn_56, w_Game_goOn_60, w_Game_goOn_64, w_Game_goOn_72, w_Game_goOn_74, w_Game_goOn_77, w_Game_goOn_83, w_Game_goOn_89, w_Game_goOn_92, w_Game_goOn_96, w_Game_goOn_97, c_3, f_3_0, p_3_0, f_3_1, p_3_1, f_3_2, p_3_2, f_3_3, p_3_3, f_3_4, p_3_4, f_3_5, p_3_5, f_3_6, p_3_6, f_3_7, p_3_7, f_3_8, p_3_8, f_3_9, f_3_10, f_3_11, f_3_12, f_3_13, e_5, i_5, c_31, f_31_0, f_31_1, f_31_2, p_31_2, f_31_3, p_31_3, f_31_4, p_31_4, f_31_5, p_31_5, e_32, cS hp1, Option.some.injEq, exists_eq_left', exists_eq_left, Option.toList_some, Option.toList_none, List.cons_append, List.nil_append, true_and, and_true, Option.map_some, Option.map_none, t_hasMatter (d := d) (by omega) hT, hown, h1.1, if_true, show ¬ ((1 : Int32) = 0) by decide, if_false, hmn, t_bitOf (d := d) (by omega), bit_1 (show a < 32 by omega), hb, not_true_eq_false, not_false_eq_true, hx0, hx1, nI_1, x_ev_iff q1, e30, n30, x_ev_iff z1]
      cases aTake T A (nI a) <;> simp [b01, x_nb0, x_nb1]
    · rw [hg] at hB
      rw [hB] at z3
      exact z3
  · have hno : ∀ r, x_R (x_ev g_M P d) 7 (0, [some (.ref 31), some (.int (nI t)), some (.int (nI q)), some (.int (nI a)), none, none], [], mkH xs s) r ↔ x_R (x_ev g_M P d) 7 (40, [some (.ref 31), some (.int (nI t)), some (.int (nI q)), some (.int (nI a)), some (.int 0), none], [], mkH xs s) r := by
      intro r
      by_cases hm : a < tM T
      · have hb : ¬ bt (s.1 5 q) a = true := fun z => h1 ⟨hm, ((hT.2.2.2.2.2.1 q hq a).mp z).2⟩
        simp only [w_Game_goOn_0, w_Game_goOn_4, w_Game_goOn_8, w_Game_goOn_11, w_Game_goOn_15, w_Game_goOn_18, w_Game_goOn_20, w_Game_goOn_24, w_Game_goOn_32, w_Game_goOn_33, c_3, f_3_0, p_3_0, f_3_1, p_3_1, f_3_2, p_3_2, f_3_3, p_3_3, f_3_4, p_3_4, f_3_5, p_3_5, f_3_6, p_3_6, f_3_7, p_3_7, f_3_8, p_3_8, f_3_9, f_3_10, f_3_11, f_3_12, f_3_13, e_5, i_5, c_31, f_31_0, f_31_1, f_31_2, p_31_2, f_31_3, p_31_3, f_31_4, p_31_4, f_31_5, p_31_5, Option.some.injEq, exists_eq_left', exists_eq_left, Option.toList_some, Option.toList_none, List.cons_append, List.nil_append, true_and, and_true, Option.map_some, Option.map_none, t_hasMatter (d := d) (by omega) hT, hown, hm, if_true, show ¬ ((1 : Int32) = 0) by decide, if_false, hmn, t_bitOf (d := d) (by omega), bit_1 (show a < 32 by omega), hb, Bool.false_eq_true, not_false_eq_true, not_true_eq_false, if_true]
      · simp only [w_Game_goOn_0, w_Game_goOn_4, w_Game_goOn_8, w_Game_goOn_32, w_Game_goOn_33, c_3, f_3_0, p_3_0, f_3_1, p_3_1, f_3_2, p_3_2, f_3_3, p_3_3, f_3_4, p_3_4, f_3_5, p_3_5, f_3_6, p_3_6, f_3_7, p_3_7, f_3_8, p_3_8, f_3_9, f_3_10, f_3_11, f_3_12, f_3_13, c_31, f_31_0, f_31_1, f_31_2, p_31_2, f_31_3, p_31_3, f_31_4, p_31_4, f_31_5, p_31_5, Option.some.injEq, exists_eq_left', exists_eq_left, Option.toList_some, Option.toList_none, List.cons_append, List.nil_append, true_and, and_true, Option.map_some, Option.map_none, t_hasMatter (d := d) (by omega) hT, hown, hm, if_true, if_false, not_true_eq_false]
    by_cases h2 : a = 10 + q
    · have hg : gTk T A q a = aTake T A (10 + nI q) := by unfold gTk; rw [if_neg h1, if_pos h2]
      have hae : nI a = 10 + nI q := e10.mpr h2
      obtain ⟨s2, z1, z2, z3⟩ := s_take (P := P) (d := d) (xs := xs) (by omega) hp1 hT1 hW q3 hO.1 (10 + nI q)
      have n30 : ¬ (10 : Int32) + nI q = 30 := by rw [← hae, e30]; omega
      refine ⟨s2, ?_, q2.tr z2, fun B hB => ?_⟩
      · rw [hg]
        rw [x_ev_in rfl (Nat.le_of_ble_eq_true rfl)]
        rw [show x_ent (x_nL g_M 7) [.ref 31, .int (nI t), .int (nI q), .int (nI a)] = [some (.ref 31), some (.int (nI t)), some (.int (nI q)), some (.int (nI a)), none, none] from rfl]
        rw [hno]
        simp only [w_Game_goOn_0, w_Game_goOn_4, w_Game_goOn_8, w_Game_goOn_11, w_Game_goOn_15, w_Game_goOn_18, w_Game_goOn_20, w_Game_goOn_24, w_Game_goOn_28, w_Game_goOn_32, w_Game_goOn_33, w_Game_goOn_40, w_Game_goOn_48, w_Game_goOn_54, w_Game_goOn_56, w_Game_goOn_60, w_Game_goOn_64, w_Game_goOn_72, w_Game_goOn_74, w_Game_goOn_77, w_Game_goOn_83, w_Game_goOn_89, w_Game_goOn_92, w_Game_goOn_96, w_Game_goOn_97, c_31, f_31_0, f_31_1, f_31_2, p_31_2, f_31_3, p_31_3, f_31_4, p_31_4, f_31_5, p_31_5, e_32, cS hp1, Option.some.injEq, exists_eq_left', exists_eq_left, Option.toList_some, Option.toList_none, List.cons_append, List.nil_append, true_and, and_true, Option.map_some, Option.map_none, hae, if_true, hx0, hx1, nI_1, x_ev_iff q1, n30, if_false, x_ev_iff z1]
        cases aTake T A (10 + nI q) <;> simp [b01, x_nb0, x_nb1]
      · rw [hg] at hB
        rw [hB] at z3
        exact z3
    · have n10 : ¬ nI a = 10 + nI q := fun z => h2 (e10.mp z)
      by_cases h3 : a = 30
      · have hg : gTk T A q a = some A := by unfold gTk; rw [if_neg h1, if_neg h2, if_pos h3]
        have ea : nI a = 30 := e30.mpr h3
        have n10' : ¬ (30 : Int32) = 10 + nI q := by rw [← ea]; exact n10
        refine ⟨s1, ?_, q2, fun B hB => ?_⟩
        · rw [hg]
          rw [x_ev_in rfl (Nat.le_of_ble_eq_true rfl)]
          rw [show x_ent (x_nL g_M 7) [.ref 31, .int (nI t), .int (nI q), .int (nI a)] = [some (.ref 31), some (.int (nI t)), some (.int (nI q)), some (.int (nI a)), none, none] from rfl]
          rw [hno]
          simp only [w_Game_goOn_0, w_Game_goOn_4, w_Game_goOn_8, w_Game_goOn_11, w_Game_goOn_15, w_Game_goOn_18, w_Game_goOn_20, w_Game_goOn_24, w_Game_goOn_28, w_Game_goOn_32, w_Game_goOn_33, w_Game_goOn_40, w_Game_goOn_48, w_Game_goOn_54, w_Game_goOn_56, w_Game_goOn_60, w_Game_goOn_64, w_Game_goOn_72, w_Game_goOn_74, w_Game_goOn_77, w_Game_goOn_83, w_Game_goOn_89, w_Game_goOn_92, w_Game_goOn_96, w_Game_goOn_97, c_31, f_31_0, f_31_1, f_31_2, p_31_2, f_31_3, p_31_3, f_31_4, p_31_4, f_31_5, p_31_5, e_32, cS hp1, Option.some.injEq, exists_eq_left', exists_eq_left, Option.toList_some, Option.toList_none, List.cons_append, List.nil_append, true_and, and_true, Option.map_some, Option.map_none, ea, n10', if_false, if_true, hx0, hx1, nI_1, x_ev_iff q1, x_nb1, Option.isSome_some, b01]
        · rw [hg] at hB
          cases hB
          exact q3
      · have hg : gTk T A q a = none := by unfold gTk; rw [if_neg h1, if_neg h2, if_neg h3]
        refine ⟨s, ?_, off3.rf, fun B hB => by rw [hg] at hB; cases hB⟩
        rw [hg]
        rw [x_ev_in rfl (Nat.le_of_ble_eq_true rfl)]
        rw [show x_ent (x_nL g_M 7) [.ref 31, .int (nI t), .int (nI q), .int (nI a)] = [some (.ref 31), some (.int (nI t)), some (.int (nI q)), some (.int (nI a)), none, none] from rfl]
        rw [hno]
        simp only [w_Game_goOn_0, w_Game_goOn_4, w_Game_goOn_8, w_Game_goOn_11, w_Game_goOn_15, w_Game_goOn_18, w_Game_goOn_20, w_Game_goOn_24, w_Game_goOn_28, w_Game_goOn_32, w_Game_goOn_33, w_Game_goOn_40, w_Game_goOn_48, w_Game_goOn_54, w_Game_goOn_56, w_Game_goOn_60, w_Game_goOn_64, w_Game_goOn_72, w_Game_goOn_74, w_Game_goOn_77, w_Game_goOn_83, w_Game_goOn_89, w_Game_goOn_92, w_Game_goOn_96, w_Game_goOn_97, Option.some.injEq, exists_eq_left', exists_eq_left, Option.toList_some, Option.toList_none, List.cons_append, List.nil_append, true_and, and_true, Option.map_some, Option.map_none, n10, e30, h3, if_false, x_nb0, Option.isSome_none, b01, Bool.false_eq_true]
theorem off3.Gm {t : Nat} {s s' : xS} (h4 : t < 4) (h : off3 s s' (33 + 3 * (t + 1))) : offGm (t + 1) s s' := ⟨fun q a => h.1 q (by omega) (by omega) (by omega), fun k _ => by rw [h.1 31 (by omega) (by omega) (by omega)], h.2⟩
set_option maxHeartbeats 8000000 in
theorem s_outcome (hK : tOk T) (hp : p < tP T) (ho : o < tP T) (hn : n ≤ 4) : ∀ (j t d : Nat) (s : xS) (A : As), t + j = n → 8 + j ≤ d → clsT s 3 T → clsS s (33 + 3 * t) T A → aOk T A → s.1 31 2 = nI p → s.1 31 3 = nI o → s.1 31 4 = nI n →
    ∃ s', x_ev g_M P d 6 [.ref 31, .int (nI t)] (mkH xs s) (some (.int (gV T p o j t A)), mkH xs s') ∧ offGm (t + 1) s s' ∧ s'.1 31 5 = gFa T p o j t A (s.1 31 5) := by
  have hW := hK.1
  have w1 := hW.1
  intro j
  induction j with
  | zero =>
    intro t d s A ht hd hT hA hO f2 f3 f4
    obtain rfl : t = n := by omega
    refine ⟨s, ?_, offGm.rf, rfl⟩
    have hsp := sp33 t (by omega)
    have hx : x_rd (fun k => 33 + 3 * k) 5 (nI t) = some (33 + 3 * t) := x_rd_nI (by omega) (by omega)
    obtain ⟨d, rfl⟩ := x_1 (d := d) (by omega)
    rw [x_ev_in rfl (Nat.le_of_ble_eq_true rfl)]
    rw [show x_ent (x_nL g_M 6) [.ref 31, .int (nI t)] = [some (.ref 31), some (.int (nI t)), none, none, none, none, none, none, none] from rfl]
    simp only [w_Game_outcome_0, w_Game_outcome_4, w_Game_outcome_6, w_Game_outcome_12, w_Game_outcome_15, w_Game_outcome_20, w_Game_outcome_24, w_Game_outcome_28, w_Game_outcome_32, w_Game_outcome_35, w_Game_outcome_39, w_Game_outcome_43, w_Game_outcome_47, w_Game_outcome_50, w_Game_outcome_52, w_Game_outcome_55, w_Game_outcome_58, w_Game_outcome_62, w_Game_outcome_63, w_Game_outcome_68, w_Game_outcome_72, w_Game_outcome_75, w_Game_outcome_79, w_Game_outcome_97, w_Game_outcome_106, w_Game_outcome_109, w_Game_outcome_112, w_Game_outcome_119, w_Game_outcome_126, w_Game_outcome_130, w_Game_outcome_137, w_Game_outcome_140, w_Game_outcome_147, w_Game_outcome_158, w_Game_outcome_164, w_Game_outcome_170, c_3, f_3_0, p_3_0, f_3_1, p_3_1, f_3_2, p_3_2, f_3_3, p_3_3, f_3_4, p_3_4, f_3_5, p_3_5, f_3_6, p_3_6, f_3_7, p_3_7, f_3_8, p_3_8, f_3_9, f_3_10, f_3_11, f_3_12, f_3_13, c_31, f_31_0, f_31_1, f_31_2, p_31_2, f_31_3, p_31_3, f_31_4, p_31_4, f_31_5, p_31_5, e_32, fS1 hsp, Option.some.injEq, exists_eq_left', exists_eq_left, Option.toList_some, Option.toList_none, List.cons_append, List.nil_append, true_and, and_true, Option.map_some, Option.map_none, hx, f2, f3, f4, show nI t ≤ nI t from Int32.le_refl _, if_true, hA.1, t_sumOf (d := d) (by omega) hT hW hp, t_sumOf (d := d) (by omega) hT hW ho, gV]
  | succ j ih =>
    intro t d s A ht hd hT hA hO f2 f3 f4
    have hsp := sp33 t (by omega)
    have hx : x_rd (fun k => 33 + 3 * k) 5 (nI t) = some (33 + 3 * t) := x_rd_nI (by omega) (by omega)
    obtain ⟨d, rfl⟩ := x_1 (d := d) (by omega)
    have hq : gMv p o t < tP T := by unfold gMv; split <;> omega
    have em : nI t - nI t / 2 * 2 = nI (t % 2) := pk_rem (d := 2) (by omega) (by omega) (by omega)
    have et0 : nI t = 0 ↔ t = 0 := nI_eq (b := 0) (by omega) (by omega)
    obtain ⟨⟨s', o8⟩, ⟨ho', h5⟩, e⟩ := x_upY (C := x_ev g_M P d) (k := 6) (N := 31) (β := xS × Option Value) (R := fun a z => offGm (t + 1) s z.1 ∧ z.1.1 31 5 = gEa t (gZ T p o j t A a) (s.1 31 5)) (F := fun a z => (90, [some (.ref 31), some (.int (nI t)), some (.ref (33 + 3 * t)), some (.int (b01 (decide (t % 2 = 0)))), some (.int (nI (gMv p o t))), some (.int (b01 (gZ T p o j t A a).isSome)), some (.int (enc2 (gZ T p o j t A a))), some (.int (nI a)), z.2], [], mkH xs z.1)) (fun a zo ha hR => by
      obtain ⟨z, o8⟩ := zo
      obtain ⟨hz, h5⟩ : offGm (t + 1) s z ∧ z.1 31 5 = gEa t (gZ T p o j t A a) (s.1 31 5) := hR
      have hc : ¬ (30 : Int32) < nI a := nI_nlt (b := a) (a := 30) (by omega) (by omega)
      have hAz : clsS z (33 + 3 * t) T A := clsS_at (fun q x y => hz.1 q (by omega)) hA
      obtain ⟨z1, q1, q2, q3⟩ := s_goOn (P := P) (d := d) (xs := xs) (by omega) hK (t := t) (q := gMv p o t) (a := a) (by omega) hq (by omega) (hz.T hT) hAz hO
      have o1 := hz.tr (q2.Gm (by omega))
      have c31 : z1.1 31 = z.1 31 := q2.1 31 (by omega) (by omega) (by omega)
      cases hg : gTk T A (gMv p o t) a with
      | none =>
        rw [hg] at q1
        refine ⟨(z1, o8), ⟨o1, ?_⟩, fun r => ?_⟩
        · show z1.1 31 5 = _
          rw [c31, gZ_n hg]; exact h5
        · simp only [w_Game_outcome_0, w_Game_outcome_4, w_Game_outcome_6, w_Game_outcome_12, w_Game_outcome_15, w_Game_outcome_20, w_Game_outcome_24, w_Game_outcome_28, w_Game_outcome_32, w_Game_outcome_35, w_Game_outcome_39, w_Game_outcome_43, w_Game_outcome_47, w_Game_outcome_50, w_Game_outcome_52, w_Game_outcome_55, w_Game_outcome_58, w_Game_outcome_62, w_Game_outcome_63, w_Game_outcome_68, w_Game_outcome_72, w_Game_outcome_75, w_Game_outcome_79, w_Game_outcome_97, w_Game_outcome_106, w_Game_outcome_109, w_Game_outcome_112, w_Game_outcome_119, w_Game_outcome_126, w_Game_outcome_130, w_Game_outcome_137, w_Game_outcome_140, w_Game_outcome_147, w_Game_outcome_158, w_Game_outcome_164, w_Game_outcome_170, w_Game_outcome_90 (l7 := nI a), hc, if_false, c_31, f_31_0, f_31_1, f_31_2, p_31_2, f_31_3, p_31_3, f_31_4, p_31_4, f_31_5, p_31_5, Option.some.injEq, exists_eq_left', exists_eq_left, Option.toList_some, Option.toList_none, List.cons_append, List.nil_append, true_and, and_true, Option.map_some, Option.map_none, x_ev_iff q1, Option.isSome_none, b01, Bool.false_eq_true, not_true_eq_false, nI_1, gZ_n hg]
      | some B =>
        rw [hg] at q1
        obtain ⟨z2, v1, v2, v3⟩ := ih (t + 1) d z1 B (by omega) (by omega) (o1.T hT) (q3 B hg) (gTk_ok hK hO hg) (by rw [o1.2.1 2 (by omega)]; exact f2) (by rw [o1.2.1 3 (by omega)]; exact f3) (by rw [o1.2.1 4 (by omega)]; exact f4)
        rw [gFa_p] at v3
        have o2 := o1.tr v2.up
        have h52 : z2.1 31 5 = gEa t (gZ T p o j t A a) (s.1 31 5) := by rw [v3, c31]; exact h5
        generalize hv : gV T p o j (t + 1) B = v at *
        have hstep : ∀ r, x_R (x_ev g_M P d) 6 (90, [some (.ref 31), some (.int (nI t)), some (.ref (33 + 3 * t)), some (.int (b01 (decide (t % 2 = 0)))), some (.int (nI (gMv p o t))), some (.int (b01 (gZ T p o j t A a).isSome)), some (.int (enc2 (gZ T p o j t A a))), some (.int (nI a)), o8], [], mkH xs z) r ↔ x_R (x_ev g_M P d) 6 (119, [some (.ref 31), some (.int (nI t)), some (.ref (33 + 3 * t)), some (.int (b01 (decide (t % 2 = 0)))), some (.int (nI (gMv p o t))), some (.int (b01 (gZ T p o j t A a).isSome)), some (.int (enc2 (gZ T p o j t A a))), some (.int (nI a)), o8], [.int v], mkH xs z2) r := by
          intro r
          simp only [w_Game_outcome_90 (l7 := nI a), w_Game_outcome_97, w_Game_outcome_106, w_Game_outcome_112, hc, if_false, c_31, f_31_0, f_31_1, f_31_2, p_31_2, f_31_3, p_31_3, f_31_4, p_31_4, f_31_5, p_31_5, Option.some.injEq, exists_eq_left', exists_eq_left, Option.toList_some, Option.toList_none, List.cons_append, List.nil_append, true_and, and_true, Option.map_some, Option.map_none, x_ev_iff q1, Option.isSome_some, b01, if_true, show ¬ ((1 : Int32) = 0) by decide, not_false_eq_true, nI_1, x_ev_iff v1]
        have hto : ∀ r, x_R (x_ev g_M P d) 6 (119, [some (.ref 31), some (.int (nI t)), some (.ref (33 + 3 * t)), some (.int (b01 (decide (t % 2 = 0)))), some (.int (nI (gMv p o t))), some (.int (b01 (gZ T p o j t A a).isSome)), some (.int (enc2 (gZ T p o j t A a))), some (.int (nI a)), o8], [.int v], mkH xs z2) r ↔ if gW (decide (t % 2 = 0)) (gZ T p o j t A a) v = true then x_R (x_ev g_M P d) 6 (147, [some (.ref 31), some (.int (nI t)), some (.ref (33 + 3 * t)), some (.int (b01 (decide (t % 2 = 0)))), some (.int (nI (gMv p o t))), some (.int (b01 (gZ T p o j t A a).isSome)), some (.int (enc2 (gZ T p o j t A a))), some (.int (nI a)), some (.int v)], [], mkH xs z2) r else x_R (x_ev g_M P d) 6 (164, [some (.ref 31), some (.int (nI t)), some (.ref (33 + 3 * t)), some (.int (b01 (decide (t % 2 = 0)))), some (.int (nI (gMv p o t))), some (.int (b01 (gZ T p o j t A a).isSome)), some (.int (enc2 (gZ T p o j t A a))), some (.int (nI a)), some (.int v)], [], mkH xs z2) r := by
          intro r
          cases hz0 : gZ T p o j t A a with
          | none =>
            simp only [w_Game_outcome_119, Option.isSome_none, b01, Bool.false_eq_true, if_true, if_false, gW]
          | some w =>
            by_cases ht2 : t % 2 = 0
            · have hle : v ≤ w.2 ↔ ¬ w.2 < v := Int32.not_lt.symm
              simp only [w_Game_outcome_119, w_Game_outcome_126, w_Game_outcome_130, w_Game_outcome_137, Option.isSome_some, b01, ht2, decide_true, if_true, show ¬ ((1 : Int32) = 0) by decide, if_false, gW, enc2, hle, decide_eq_true_eq]
              by_cases hlt : w.2 < v
              · simp only [hlt, not_true_eq_false, if_true, if_false]
              · simp only [hlt, not_false_eq_true, if_true, if_false]
            · have hle : w.2 ≤ v ↔ ¬ v < w.2 := Int32.not_lt.symm
              simp only [w_Game_outcome_119, w_Game_outcome_126, w_Game_outcome_140, Option.isSome_some, b01, ht2, decide_false, Bool.false_eq_true, if_true, show ¬ ((1 : Int32) = 0) by decide, if_false, gW, enc2, hle, decide_eq_true_eq]
              by_cases hlt : v < w.2
              · simp only [hlt, not_true_eq_false, if_true, if_false]
              · simp only [hlt, not_false_eq_true, if_true, if_false]
        have hzs : gZ T p o j t A (a + 1) = if gW (decide (t % 2 = 0)) (gZ T p o j t A a) v = true then some (a, v) else gZ T p o j t A a := by rw [gZ_s hg, hv]; rfl
        by_cases hw : gW (decide (t % 2 = 0)) (gZ T p o j t A a) v = true
        · rw [if_pos hw] at hzs
          by_cases h0 : t = 0
          · refine ⟨(s_p z2 31 5 (nI a), some (.int v)), ⟨o2.tr ⟨fun q hq => s_p_o.1 q (by omega), fun k hk => by simp [s_p, hk], rfl⟩, ?_⟩, fun r => ?_⟩
            · show (s_p z2 31 5 (nI a)).1 31 5 = _
              rw [hzs]
              unfold gEa
              rw [if_pos h0]
              simp [s_p]
            · rw [hstep, hto, if_pos hw]
              have e0 : nI t = 0 := et0.mpr h0
              simp only [w_Game_outcome_147, w_Game_outcome_158, w_Game_outcome_164, e0, not_true_eq_false, if_false, c_31, f_31_0, f_31_1, f_31_2, p_31_2, f_31_3, p_31_3, f_31_4, p_31_4, f_31_5, p_31_5, Option.some.injEq, exists_eq_left', exists_eq_left, Option.toList_some, Option.toList_none, List.cons_append, List.nil_append, true_and, and_true, Option.map_some, Option.map_none, hzs, Option.isSome_some, b01, if_true, enc2, nI_1]
          · refine ⟨(z2, some (.int v)), ⟨o2, ?_⟩, fun r => ?_⟩
            · show z2.1 31 5 = _
              rw [h52]
              unfold gEa
              rw [if_neg h0, if_neg h0]
            · rw [hstep, hto, if_pos hw]
              simp only [w_Game_outcome_147, w_Game_outcome_164, et0, h0, not_false_eq_true, if_true, hzs, Option.isSome_some, b01, enc2, nI_1]
        · rw [if_neg hw] at hzs
          refine ⟨(z2, some (.int v)), ⟨o2, by rw [hzs]; exact h52⟩, fun r => ?_⟩
          rw [hstep, hto, if_neg hw]
          simp only [w_Game_outcome_164, hzs, nI_1]) 31 0 (s, none) (by omega) ⟨offGm.rf, by
        show s.1 31 5 = _
        unfold gEa
        split <;> rfl⟩
    have ho' : offGm (t + 1) s s' := ho'
    have h5 : s'.1 31 5 = gEa t (gZ T p o j t A 31) (s.1 31 5) := h5
    refine ⟨s', ?_, ho', h5⟩
    have hc1 : ¬ nI n ≤ nI t := nI_ge (by omega) (by omega)
    have hc2 : nI t < 4 := nI_lt (b := 4) (by omega) (by omega)
    have em0 : nI (t % 2) = 0 ↔ t % 2 = 0 := nI_eq (b := 0) (by omega) (by omega)
    have hend : x_R (x_ev g_M P d) 6 (90, [some (.ref 31), some (.int (nI t)), some (.ref (33 + 3 * t)), some (.int (b01 (decide (t % 2 = 0)))), some (.int (nI (gMv p o t))), some (.int 0), some (.int 0), some (.int 0), none], [], mkH xs s) (some (.int (gV T p o (j + 1) t A)), mkH xs s') := by
      refine (e _).mpr ?_
      simp only [w_Game_outcome_90 (l7 := nI 31), w_Game_outcome_170, show (30 : Int32) < nI 31 by decide, if_true]
      rfl
    rw [x_ev_in rfl (Nat.le_of_ble_eq_true rfl)]
    rw [show x_ent (x_nL g_M 6) [.ref 31, .int (nI t)] = [some (.ref 31), some (.int (nI t)), none, none, none, none, none, none, none] from rfl]
    by_cases ht2 : t % 2 = 0
    · have hmv : gMv p o t = p := by unfold gMv; rw [if_pos ht2]
      rw [hmv] at hend
      simp only [ht2, decide_true, b01, if_true] at hend
      simp only [w_Game_outcome_0, w_Game_outcome_4, w_Game_outcome_6, w_Game_outcome_12, w_Game_outcome_15, w_Game_outcome_20, w_Game_outcome_24, w_Game_outcome_28, w_Game_outcome_32, w_Game_outcome_35, w_Game_outcome_39, w_Game_outcome_43, w_Game_outcome_47, w_Game_outcome_50, w_Game_outcome_52, w_Game_outcome_55, w_Game_outcome_58, w_Game_outcome_62, w_Game_outcome_63, w_Game_outcome_68, w_Game_outcome_72, w_Game_outcome_75, w_Game_outcome_79, w_Game_outcome_97, w_Game_outcome_106, w_Game_outcome_109, w_Game_outcome_112, w_Game_outcome_119, w_Game_outcome_126, w_Game_outcome_130, w_Game_outcome_137, w_Game_outcome_140, w_Game_outcome_147, w_Game_outcome_158, w_Game_outcome_164, w_Game_outcome_170, c_31, f_31_0, f_31_1, f_31_2, p_31_2, f_31_3, p_31_3, f_31_4, p_31_4, f_31_5, p_31_5, e_32, Option.some.injEq, exists_eq_left', exists_eq_left, Option.toList_some, Option.toList_none, List.cons_append, List.nil_append, true_and, and_true, Option.map_some, Option.map_none, hx, f2, f3, f4, hc1, hc2, if_true, if_false, show ¬ ((2 : Int32) = 0) by decide, not_false_eq_true, em, em0, ht2, not_true_eq_false, show ¬ ((1 : Int32) = 0) by decide]
      exact hend
    · have hmv : gMv p o t = o := by unfold gMv; rw [if_neg ht2]
      rw [hmv] at hend
      simp only [ht2, decide_false, b01, Bool.false_eq_true, if_false] at hend
      simp only [w_Game_outcome_0, w_Game_outcome_4, w_Game_outcome_6, w_Game_outcome_12, w_Game_outcome_15, w_Game_outcome_20, w_Game_outcome_24, w_Game_outcome_28, w_Game_outcome_32, w_Game_outcome_35, w_Game_outcome_39, w_Game_outcome_43, w_Game_outcome_47, w_Game_outcome_50, w_Game_outcome_52, w_Game_outcome_55, w_Game_outcome_58, w_Game_outcome_62, w_Game_outcome_63, w_Game_outcome_68, w_Game_outcome_72, w_Game_outcome_75, w_Game_outcome_79, w_Game_outcome_97, w_Game_outcome_106, w_Game_outcome_109, w_Game_outcome_112, w_Game_outcome_119, w_Game_outcome_126, w_Game_outcome_130, w_Game_outcome_137, w_Game_outcome_140, w_Game_outcome_147, w_Game_outcome_158, w_Game_outcome_164, w_Game_outcome_170, c_31, f_31_0, f_31_1, f_31_2, p_31_2, f_31_3, p_31_3, f_31_4, p_31_4, f_31_5, p_31_5, e_32, Option.some.injEq, exists_eq_left', exists_eq_left, Option.toList_some, Option.toList_none, List.cons_append, List.nil_append, true_and, and_true, Option.map_some, Option.map_none, hx, f2, f3, f4, hc1, hc2, if_true, if_false, show ¬ ((2 : Int32) = 0) by decide, not_false_eq_true, em, em0, ht2]
      exact hend
theorem s_play {d : Nat} (hd : 14 ≤ d) (hK : tOk T) (hp : p < tP T) (ho : o < tP T) (hn : n ≤ 4) {s : xS} {A : As} (hT : clsT s 3 T) (hA : clsS s 9 T A) (hO : aOk T A) : ∃ s', x_ev g_M P d 5 [.ref 31, .ref 9, .int (nI p), .int (nI o), .int (nI n)] (mkH xs s) (some (.int (gV T p o n 0 A)), mkH xs s') ∧ keC s s' ∧ s'.1 31 5 = gFa T p o n 0 A (-1) := by
  have h33 : 33 ∈ g_SP := by decide
  have h9 : 9 ∈ g_SP := by decide
  obtain ⟨d, rfl⟩ := x_1 (d := d) (by omega)
  generalize hz : s_p (s_p (s_p (s_p s 31 2 (nI p)) 31 3 (nI o)) 31 4 (nI n)) 31 5 (-1) = z
  have zo : ∀ q, q ≠ 31 → z.1 q = s.1 q := fun q hq => by
    rw [← hz]
    funext k
    simp [s_p, hq]
  have hT0 : clsT z 3 T := clsT_off (fun q a b => zo q (by omega)) hT
  have hA0 : clsS z 9 T A := clsS_at (fun q a b => zo q (by omega)) hA
  obtain ⟨s1, q1, q2, q3⟩ := s_copyFrom (P := P) (d := d) (xs := xs) (by omega) h33 h9 (by decide) hK.1 hA0 hO.1
  have c31 : s1.1 31 = z.1 31 := q2.1 31 (by omega) (by omega) (by omega)
  obtain ⟨s', z1, z2, z3⟩ := s_outcome (P := P) (xs := xs) hK hp ho hn n 0 d s1 A (by omega) (by omega) (q2.T h33 hT0) q3 hO (by rw [c31, ← hz]; simp [s_p]) (by rw [c31, ← hz]; simp [s_p]) (by rw [c31, ← hz]; simp [s_p])
  refine ⟨s', ?_, fun q hq => ⟨?_, ?_⟩, ?_⟩
  · rw [show nI 0 = 0 from rfl] at z1
    rw [x_ev_in rfl (Nat.le_of_ble_eq_true rfl)]
    rw [show x_ent (x_nL g_M 5) [.ref 31, .ref 9, .int (nI p), .int (nI o), .int (nI n)] = [some (.ref 31), some (.ref 9), some (.int (nI p)), some (.int (nI o)), some (.int (nI n))] from rfl]
    simp only [w_Game_play_0, w_Game_play_5, w_Game_play_10, w_Game_play_16, w_Game_play_21, w_Game_play_25, w_Game_play_27, w_Game_play_31, w_Game_play_36, c_31, f_31_0, f_31_1, f_31_2, p_31_2, f_31_3, p_31_3, f_31_4, p_31_4, f_31_5, p_31_5, e_32, c_33, f_33_0, f_33_1, p_33_1, f_33_2, p_33_2, f_33_3, p_33_3, f_33_4, p_33_4, f_33_5, f_33_6, Option.some.injEq, exists_eq_left', exists_eq_left, Option.toList_some, Option.toList_none, List.cons_append, List.nil_append, true_and, and_true, Option.map_some, Option.map_none, show x_rd (fun k => 33 + 3 * k) 5 0 = some 33 from rfl, hz, x_ev_iff q1, x_ev_iff z1]
  · rw [z2.1 q (by omega), q2.1 q (by omega) (by omega) (by omega), zo q (by omega)]
  · rw [z2.2.2, q2.2, ← hz]
    rfl
  · rw [z3, c31, ← hz]
    simp [s_p]
end GAMEC
