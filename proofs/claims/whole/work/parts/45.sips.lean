/-! WHAT COMES OF DRINKING ALONE: thirst, dregs, who (own work) -/
def aft (T : Tw) (A : As) (p : Nat) : As := aDrink T A p ((aLast T A p).getD 0)
def dk (T : Tw) (p : Nat) : Nat → As → Nat × As
  | 0, A => (0, A)
  | n + 1, A => if aWhy T A p = 0 then ((dk T p n (aft T A p)).1 + 1, (dk T p n (aft T A p)).2) else (0, A)
def dP (A : As) : Nat := 8 - nsm (fun i => if bt A.2.1 i = true then 1 else 0) 8
theorem dP_dn {T : Tw} {A : As} {p : Nat} (hW : tWf T) (hAw : aWf T A) (h0 : aWhy T A p = 0) : dP (aft T A p) < dP A := by
  have w2 := hW.2.1
  obtain ⟨-, -, m, hl, hb, -⟩ := aWhy_0 h0
  have hm : m < tM T := hAw.1 m (lastN_in (Nat.le_refl _) hl).1
  have e := nsm_one (f := fun i => if bt A.2.1 i = true then 1 else 0) (g := fun i => if i < 32 ∧ bt (A.2.1 ||| on1 m) i = true then 1 else 0) (m := m) (fun i hi => by
    by_cases h32 : i < 32
    · simp only [h32, true_and, b_or, b_on (show m < 32 by omega) h32, hi, decide_false, Bool.or_false]
    · simp only [h32, false_and, if_false, b_big (show 32 ≤ i by omega), Bool.false_eq_true]) (by
    simp [hb, b_or, b_on (show m < 32 by omega) (show m < 32 by omega), show m < 32 by omega]) 8 (by omega)
  have e2 : nsm (fun i => if bt (A.2.1 ||| on1 m) i = true then 1 else 0) 8 = nsm (fun i => if i < 32 ∧ bt (A.2.1 ||| on1 m) i = true then 1 else 0) 8 := nsm_eq 8 (fun i hi => by simp [show i < 32 by omega])
  have e3 := nsm_le (f := fun i => if bt (A.2.1 ||| on1 m) i = true then 1 else 0) (fun i => by split <;> omega) 8
  have e4 : dP (aft T A p) = 8 - nsm (fun i => if bt (A.2.1 ||| on1 m) i = true then 1 else 0) 8 := by
    unfold dP aft aDrink
    rw [hl]
    rfl
  rw [e4]
  unfold dP
  omega
theorem dP_8 (A : As) : dP A ≤ 8 := by unfold dP; omega
theorem aft_ok {T : Tw} {A : As} {p : Nat} (h : aOk T A) (h0 : aWhy T A p = 0) (hp : p < tP T) : aOk T (aft T A p) := aOk_drink h h0 hp
theorem aTake_aft {T : Tw} {A : As} (hW : tWf T) {p : Nat} (hp : p < tP T) : aTake T A (10 + nI p) = if aWhy T A p = 0 then some (aft T A p) else none := aTake_d hW hp
theorem dk_ok {T : Tw} {p : Nat} (hp : p < tP T) : ∀ n A, aOk T A → aOk T (dk T p n A).2 := by
  intro n
  induction n with
  | zero => intro A h; exact h
  | succ n ih =>
    intro A h
    rw [dk]
    split
    · rename_i h0; exact ih _ (aft_ok h h0 hp)
    · exact h
theorem dk_le (T : Tw) (p : Nat) : ∀ n A, (dk T p n A).1 ≤ n := by
  intro n
  induction n with
  | zero => intro A; exact Nat.le_refl _
  | succ n ih => intro A; rw [dk]; split; have := ih (aft T A p); simp; omega; exact Nat.zero_le _
def offS (s s' : xS) : Prop := (∀ q, q < 48 ∨ 65 ≤ q → s'.1 q = s.1 q) ∧ s'.2 = s.2
theorem offS.rf {s : xS} : offS s s := ⟨fun _ _ => rfl, rfl⟩
theorem offS.tr {s s' s'' : xS} (h : offS s s') (h2 : offS s' s'') : offS s s'' := ⟨fun q a => (h2.1 q a).trans (h.1 q a), h2.2.trans h.2⟩
theorem offS.ke {s s' : xS} (h : offS s s') : keC s s' := fun q hq => ⟨h.1 q (by omega), by rw [h.2]⟩
theorem offS.T {s s' : xS} {T : Tw} (h : offS s s') (hT : clsT s 3 T) : clsT s' 3 T := clsT_off (fun q a b => h.1 q (by omega)) hT
theorem offS.A {s s' : xS} {T : Tw} {A : As} (h : offS s s') (hA : clsS s 9 T A) : clsS s' 9 T A := clsS_at (fun q a b => h.1 q (by omega)) hA
theorem off3.Si {s s' : xS} {p : Nat} (h1 : 50 ≤ p) (h2 : p ≤ 62) (h : off3 s s' p) : offS s s' := ⟨fun q hq => h.1 q (by omega) (by omega) (by omega), h.2⟩
section SIPS
variable {P : Nat → List Value → Option Value} {d : Nat} {xs : List Int32} {T : Tw}
set_option maxHeartbeats 4000000 in
theorem s_outL (hd : 4 ≤ d) (hK : tOk T) {p : Nat} (hp : p < tP T) : ∀ (n k : Nat) (s : xS) (A : As), k + n = 8 → clsT s 3 T → clsS s 50 T A → aOk T A → s.1 48 3 = nI k →
    ∃ s', x_R (x_ev g_M P d) 55 (20, [some (.ref 48), some (.int (nI p)), some (.ref 50)], [], mkH xs s) (some (.int (msk (dk T p n A).2.1)), mkH xs s') ∧ offS s s' ∧ s'.1 48 3 = nI (k + (dk T p n A).1) := by
  have h50 : 50 ∈ g_SP := by decide
  have hW := hK.1
  intro n
  induction n with
  | zero =>
    intro k s A hk hT hA hO e3
    refine ⟨s, ?_, offS.rf, by rw [e3]; rfl⟩
    have h8 : (8 : Int32) ≤ nI k := nI_le (a := 8) (by omega) (by omega)
    simp only [w_Sips_drinkOut_0, w_Sips_drinkOut_4, w_Sips_drinkOut_6, w_Sips_drinkOut_12, w_Sips_drinkOut_15, w_Sips_drinkOut_24, w_Sips_drinkOut_29, w_Sips_drinkOut_37, w_Sips_drinkOut_40, w_Sips_drinkOut_45, w_Sips_drinkOut_50, w_Sips_drinkOut_53, w_Sips_drinkOut_57, w_Sips_drinkOut_20 (l0 := 48) (h := mkH xs s), c_48, f_48_0, f_48_1, f_48_2, f_48_3, p_48_3, f_48_4, p_48_4, c_50, f_50_0, f_50_1, p_50_1, f_50_2, p_50_2, f_50_3, p_50_3, f_50_4, p_50_4, f_50_5, f_50_6, Option.some.injEq, exists_eq_left', exists_eq_left, Option.toList_some, Option.toList_none, List.cons_append, List.nil_append, true_and, and_true, Option.map_some, Option.map_none, e3, h8, if_true, hA.1, dk]
  | succ n ih =>
    intro k s A hk hT hA hO e3
    obtain ⟨s1, q1, q2, q3⟩ := s_take (P := P) (d := d) (xs := xs) (by omega) h50 hT hW hA hO.1 (10 + nI p)
    rw [aTake_aft hW hp] at q1 q3
    have h8 : ¬ (8 : Int32) ≤ nI k := nI_ge (b := 8) (by omega) (by omega)
    have o1 : offS s s1 := q2.Si (by omega) (by omega)
    have o48 : s1.1 48 = s.1 48 := q2.1 48 (by omega) (by omega) (by omega)
    by_cases h0 : aWhy T A p = 0
    · rw [if_pos h0] at q1 q3
      have e1 : dk T p (n + 1) A = ((dk T p n (aft T A p)).1 + 1, (dk T p n (aft T A p)).2) := by rw [dk, if_pos h0]
      have f3 : s1.1 48 3 = nI k := by rw [o48]; exact e3
      have k3 : ∀ q, q ≠ 48 → (s_p s1 48 3 (nI (k + 1))).1 q = s1.1 q := fun q g => by funext j; simp [s_p, g]
      obtain ⟨s', z1, z2, z3⟩ := ih (k + 1) (s_p s1 48 3 (nI (k + 1))) (aft T A p) (by omega) (clsT_off (fun q a b => k3 q (by omega)) (o1.T hT)) (clsS_at (fun q a b => k3 q (by omega)) q3) (aft_ok hO h0 hp) (by simp [s_p])
      rw [e1]
      refine ⟨s', ?_, (o1.tr ⟨fun q hq => k3 q (by omega), rfl⟩).tr z2, by rw [z3]; congr 1; simp only; omega⟩
      simp only [w_Sips_drinkOut_0, w_Sips_drinkOut_4, w_Sips_drinkOut_6, w_Sips_drinkOut_12, w_Sips_drinkOut_15, w_Sips_drinkOut_24, w_Sips_drinkOut_29, w_Sips_drinkOut_37, w_Sips_drinkOut_40, w_Sips_drinkOut_45, w_Sips_drinkOut_50, w_Sips_drinkOut_53, w_Sips_drinkOut_57, w_Sips_drinkOut_20 (l0 := 48) (h := mkH xs s), c_48, f_48_0, f_48_1, f_48_2, f_48_3, p_48_3, f_48_4, p_48_4, c_50, f_50_0, f_50_1, p_50_1, f_50_2, p_50_2, f_50_3, p_50_3, f_50_4, p_50_4, f_50_5, f_50_6, Option.some.injEq, exists_eq_left', exists_eq_left, Option.toList_some, Option.toList_none, List.cons_append, List.nil_append, true_and, and_true, Option.map_some, Option.map_none, e3, h8, if_false, x_ev_iff q1, Option.isSome_some, if_true, show ¬ ((1 : Int32) = 0) by decide, f3, nI_1]
      exact z1
    · rw [if_neg h0] at q1 q3
      have e1 : dk T p (n + 1) A = (0, A) := by rw [dk, if_neg h0]
      rw [e1]
      refine ⟨s1, ?_, o1, by rw [o48, e3]; rfl⟩
      simp only [w_Sips_drinkOut_0, w_Sips_drinkOut_4, w_Sips_drinkOut_6, w_Sips_drinkOut_12, w_Sips_drinkOut_15, w_Sips_drinkOut_24, w_Sips_drinkOut_29, w_Sips_drinkOut_37, w_Sips_drinkOut_40, w_Sips_drinkOut_45, w_Sips_drinkOut_50, w_Sips_drinkOut_53, w_Sips_drinkOut_57, w_Sips_drinkOut_20 (l0 := 48) (h := mkH xs s), c_48, f_48_0, f_48_1, f_48_2, f_48_3, p_48_3, f_48_4, p_48_4, c_50, f_50_0, f_50_1, p_50_1, f_50_2, p_50_2, f_50_3, p_50_3, f_50_4, p_50_4, f_50_5, f_50_6, Option.some.injEq, exists_eq_left', exists_eq_left, Option.toList_some, Option.toList_none, List.cons_append, List.nil_append, true_and, and_true, Option.map_some, Option.map_none, e3, h8, if_false, x_ev_iff q1, Option.isSome_none, Bool.false_eq_true, if_true, show s1.1 50 1 = msk A.1 from q3.1]
theorem e49_0 : x_rd (fun k => 50 + 3 * k) 5 0 = some 50 := rfl
theorem s_drinkOut (hd : 5 ≤ d) (hK : tOk T) {s : xS} {A : As} (hT : clsT s 3 T) (hA : clsS s 9 T A) (hO : aOk T A) {p : Nat} (hp : p < tP T) : ∃ s', x_ev g_M P d 55 [.ref 48, .int (nI p)] (mkH xs s) (some (.int (msk (dk T p 8 A).2.1)), mkH xs s') ∧ offS s s' ∧ s'.1 48 3 = nI (dk T p 8 A).1 := by
  have h50 : 50 ∈ g_SP := by decide
  have h9 : 9 ∈ g_SP := by decide
  obtain ⟨d, rfl⟩ := x_1 (d := d) (by omega)
  obtain ⟨s1, q1, q2, q3⟩ := s_copyFrom (P := P) (d := d) (xs := xs) (by omega) h50 h9 (by decide) hK.1 hA hO.1
  have k3 : ∀ q, q ≠ 48 → (s_p s1 48 3 0).1 q = s1.1 q := fun q g => by funext j; simp [s_p, g]
  have o1 : offS s s1 := q2.Si (by omega) (by omega)
  obtain ⟨s', z1, z2, z3⟩ := s_outL (P := P) (d := d) (xs := xs) (by omega) hK hp 8 0 (s_p s1 48 3 0) A (by omega) (clsT_off (fun q a b => k3 q (by omega)) (o1.T hT)) (clsS_at (fun q a b => k3 q (by omega)) q3) hO (by simp [s_p]; rfl)
  refine ⟨s', ?_, (o1.tr ⟨fun q hq => k3 q (by omega), rfl⟩).tr z2, by rw [z3, Nat.zero_add]⟩
  rw [x_ev_in rfl (Nat.le_of_ble_eq_true rfl)]
  rw [show x_ent (x_nL g_M 55) [.ref 48, .int (nI p)] = [some (.ref 48), some (.int (nI p)), none] from rfl]
  simp only [w_Sips_drinkOut_0, w_Sips_drinkOut_4, w_Sips_drinkOut_6, w_Sips_drinkOut_12, w_Sips_drinkOut_15, w_Sips_drinkOut_24, w_Sips_drinkOut_29, w_Sips_drinkOut_37, w_Sips_drinkOut_40, w_Sips_drinkOut_45, w_Sips_drinkOut_50, w_Sips_drinkOut_53, w_Sips_drinkOut_57, c_48, f_48_0, f_48_1, f_48_2, f_48_3, p_48_3, f_48_4, p_48_4, e_49, c_50, f_50_0, f_50_1, p_50_1, f_50_2, p_50_2, f_50_3, p_50_3, f_50_4, p_50_4, f_50_5, f_50_6, Option.some.injEq, exists_eq_left', exists_eq_left, Option.toList_some, Option.toList_none, List.cons_append, List.nil_append, true_and, and_true, Option.map_some, Option.map_none, e49_0, x_ev_iff q1]
  exact z1
def aftI (T : Tw) (A : As) (p : Nat) : Int32 := if aWhy T A p = 0 then msk (aft T A p).1 else -1
theorem s_afterSip (hd : 5 ≤ d) (hK : tOk T) {s : xS} {A : As} (hT : clsT s 3 T) (hA : clsS s 9 T A) (hO : aOk T A) {p : Nat} (hp : p < tP T) : ∃ s', x_ev g_M P d 56 [.ref 48, .int (nI p)] (mkH xs s) (some (.int (aftI T A p)), mkH xs s') ∧ offS s s' ∧ s'.1 48 = s.1 48 := by
  have h50 : 50 ∈ g_SP := by decide
  have h9 : 9 ∈ g_SP := by decide
  obtain ⟨d, rfl⟩ := x_1 (d := d) (by omega)
  obtain ⟨s1, q1, q2, q3⟩ := s_copyFrom (P := P) (d := d) (xs := xs) (by omega) h50 h9 (by decide) hK.1 hA hO.1
  have o1 : offS s s1 := q2.Si (by omega) (by omega)
  obtain ⟨s2, z1, z2, z3⟩ := s_take (P := P) (d := d) (xs := xs) (by omega) h50 (o1.T hT) hK.1 q3 hO.1 (10 + nI p)
  rw [aTake_aft hK.1 hp] at z1 z3
  refine ⟨s2, ?_, o1.tr (z2.Si (by omega) (by omega)), by rw [z2.1 48 (by omega) (by omega) (by omega), q2.1 48 (by omega) (by omega) (by omega)]⟩
  rw [x_ev_in rfl (Nat.le_of_ble_eq_true rfl)]
  rw [show x_ent (x_nL g_M 56) [.ref 48, .int (nI p)] = [some (.ref 48), some (.int (nI p)), none] from rfl]
  unfold aftI
  by_cases h0 : aWhy T A p = 0
  · rw [if_pos h0] at z1 z3 ⊢
    simp only [w_Sips_afterSip_0, w_Sips_afterSip_4, w_Sips_afterSip_6, w_Sips_afterSip_12, w_Sips_afterSip_15, w_Sips_afterSip_23, w_Sips_afterSip_26, w_Sips_afterSip_30, w_Sips_afterSip_33, w_Sips_afterSip_34, c_48, f_48_0, f_48_1, f_48_2, f_48_3, p_48_3, f_48_4, p_48_4, e_49, c_50, f_50_0, f_50_1, p_50_1, f_50_2, p_50_2, f_50_3, p_50_3, f_50_4, p_50_4, f_50_5, f_50_6, Option.some.injEq, exists_eq_left', exists_eq_left, Option.toList_some, Option.toList_none, List.cons_append, List.nil_append, true_and, and_true, Option.map_some, Option.map_none, e49_0, x_ev_iff q1, x_ev_iff z1, Option.isSome_some, if_true, show ¬ ((1 : Int32) = 0) by decide, if_false, show s2.1 50 1 = msk (aft T A p).1 from z3.1]
  · rw [if_neg h0] at z1 z3 ⊢
    simp only [w_Sips_afterSip_0, w_Sips_afterSip_4, w_Sips_afterSip_6, w_Sips_afterSip_12, w_Sips_afterSip_15, w_Sips_afterSip_23, w_Sips_afterSip_26, w_Sips_afterSip_30, w_Sips_afterSip_33, w_Sips_afterSip_34, c_48, f_48_0, f_48_1, f_48_2, f_48_3, p_48_3, f_48_4, p_48_4, e_49, c_50, f_50_0, f_50_1, p_50_1, f_50_2, p_50_2, f_50_3, p_50_3, f_50_4, p_50_4, f_50_5, f_50_6, Option.some.injEq, exists_eq_left', exists_eq_left, Option.toList_some, Option.toList_none, List.cons_append, List.nil_append, true_and, and_true, Option.map_some, Option.map_none, e49_0, x_ev_iff q1, x_ev_iff z1, Option.isSome_none, Bool.false_eq_true, if_true, if_false]
theorem s_drinkersTo (hd : 6 ≤ d) (hK : tOk T) {s : xS} {A : As} (hT : clsT s 3 T) (hA : clsS s 9 T A) (hO : aOk T A) (set : Int32) : ∃ s', x_ev g_M P d 57 [.ref 48, .int set] (mkH xs s) (some (.int (mkM (fun p => decide (aftI T A p = set)) (tP T))), mkH xs s') ∧ offS s s' := by
  have w1 := hK.1.1
  obtain ⟨d, rfl⟩ := x_1 (d := d) (by omega)
  obtain ⟨s', ho, e⟩ := x_upY (C := x_ev g_M P d) (k := 57) (N := tP T) (β := xS) (R := fun _ z => offS s z) (F := fun p z => (4, [some (.ref 48), some (.int set), some (.int (mkM (fun p => decide (aftI T A p = set)) p)), some (.int (nI p))], [], mkH xs z)) (fun p z hp ho => by
    obtain ⟨s2, q1, q2, -⟩ := s_afterSip (P := P) (d := d) (xs := xs) (by omega) hK (ho.T hT) (ho.A hA) hO hp
    have t4 := (ho.T hT).1.2.2.2.2.1
    have hc : ¬ nI (tP T) ≤ nI p := nI_ge hp (by omega)
    refine ⟨s2, ho.tr q2, fun r => ?_⟩
    simp only [w_Sips_drinkersTo_0, w_Sips_drinkersTo_9, w_Sips_drinkersTo_12, w_Sips_drinkersTo_15, w_Sips_drinkersTo_20, w_Sips_drinkersTo_24, w_Sips_drinkersTo_30, w_Sips_drinkersTo_36, w_Sips_drinkersTo_4 (l3 := nI p), c_3, f_3_0, p_3_0, f_3_1, p_3_1, f_3_2, p_3_2, f_3_3, p_3_3, f_3_4, p_3_4, f_3_5, p_3_5, f_3_6, p_3_6, f_3_7, p_3_7, f_3_8, p_3_8, f_3_9, f_3_10, f_3_11, f_3_12, f_3_13, c_48, f_48_0, f_48_1, f_48_2, f_48_3, p_48_3, f_48_4, p_48_4, Option.some.injEq, exists_eq_left', exists_eq_left, Option.toList_some, Option.toList_none, List.cons_append, List.nil_append, true_and, and_true, Option.map_some, Option.map_none, t4, hc, if_false, x_ev_iff q1, nI_1, mkM]
    by_cases hb : aftI T A p = set
    · simp only [hb, not_true_eq_false, if_false, decide_true, if_true]
      rfl
    · simp only [hb, not_false_eq_true, if_true, decide_false, if_false, Bool.false_eq_true]) (tP T) 0 s (by omega) offS.rf
  have t4 := (ho.T hT).1.2.2.2.2.1
  refine ⟨s', ?_, ho⟩
  rw [x_ev_in rfl (Nat.le_of_ble_eq_true rfl)]
  rw [show x_ent (x_nL g_M 57) [.ref 48, .int set] = [some (.ref 48), some (.int set), none, none] from rfl]
  rw [w_Sips_drinkersTo_0]
  refine (e _).mpr ?_
  simp only [w_Sips_drinkersTo_0, w_Sips_drinkersTo_9, w_Sips_drinkersTo_12, w_Sips_drinkersTo_15, w_Sips_drinkersTo_20, w_Sips_drinkersTo_24, w_Sips_drinkersTo_30, w_Sips_drinkersTo_36, w_Sips_drinkersTo_4 (l3 := nI (tP T)), c_3, f_3_0, p_3_0, f_3_1, p_3_1, f_3_2, p_3_2, f_3_3, p_3_3, f_3_4, p_3_4, f_3_5, p_3_5, f_3_6, p_3_6, f_3_7, p_3_7, f_3_8, p_3_8, f_3_9, f_3_10, f_3_11, f_3_12, f_3_13, c_48, f_48_0, f_48_1, f_48_2, f_48_3, p_48_3, f_48_4, p_48_4, Option.some.injEq, exists_eq_left', exists_eq_left, Option.toList_some, Option.toList_none, List.cons_append, List.nil_append, true_and, and_true, Option.map_some, Option.map_none, t4, show nI (tP T) ≤ nI (tP T) from Int32.le_refl _, if_true]
set_option maxHeartbeats 4000000 in
theorem r_onL (hd : 7 ≤ d) (hK : tOk T) {p : Nat} (hp : p < tP T) : ∀ (n k : Nat) (s : xS) (A : As), dP A ≤ n → refT s 111 0 T → refS s T A → aOk T A →
    ∃ s', x_R (x_ev g_M P d) 276 (6, [some (.ref 110), some (.int (nI p)), some (.int (nI k))], [], mkH xs s) (some (.int (nI (k + (dk T p n A).1))), mkH xs s') ∧ offR s s' ∧ refS s' T (dk T p n A).2 := by
  have hW := hK.1
  intro n
  induction n with
  | zero =>
    intro k s A hn hT hA hO
    have h0 : ¬ aWhy T A p = 0 := fun z => by have := dP_dn hW hO.1 z; omega
    refine ⟨s, ?_, offR.rf, hA⟩
    simp only [w_Ref_drinkOn_0, w_Ref_drinkOn_4, w_Ref_drinkOn_11, w_Ref_drinkOn_14, w_Ref_drinkOn_19, w_Ref_drinkOn_26, w_Ref_drinkOn_6 (l0 := 110) (l2 := nI k), c_110, f_110_0, p_110_0, f_110_1, f_110_2, f_110_3, f_110_4, f_110_5, p_110_5, f_110_6, f_110_7, p_110_7, f_110_8, p_110_8, f_110_9, p_110_9, f_110_10, p_110_10, f_110_11, p_110_11, f_110_12, p_110_12, f_110_13, p_110_13, f_110_14, f_110_15, f_110_16, p_110_16, f_110_17, f_110_18, p_110_18, f_110_19, p_110_19, f_110_20, f_110_21, p_110_21, f_110_22, p_110_22, f_110_23, f_110_24, f_110_25, p_110_25, f_110_26, f_110_27, f_110_28, f_110_29, f_110_30, f_110_31, p_110_31, f_110_32, p_110_32, f_110_33, p_110_33, f_110_34, p_110_34, f_110_35, f_110_36, f_110_37, f_110_38, Option.some.injEq, exists_eq_left', exists_eq_left, Option.toList_some, Option.toList_none, List.cons_append, List.nil_append, true_and, and_true, Option.map_some, Option.map_none, r_whyNot (d := d) (by omega) hT hW hA hO hp, h0, not_false_eq_true, if_true, dk, Nat.add_zero]
  | succ n ih =>
    intro k s A hn hT hA hO
    by_cases h0 : aWhy T A p = 0
    · obtain ⟨m, hl⟩ := aWhy_last h0
      obtain ⟨s1, q1, q2, q3⟩ := r_drink0 (P := P) (d := d) (xs := xs) (by omega) hT hW hA hO.1 hp hl
      have ea : aft T A p = aDrink T A p m := by unfold aft; rw [hl]; rfl
      have e1 : dk T p (n + 1) A = ((dk T p n (aft T A p)).1 + 1, (dk T p n (aft T A p)).2) := by rw [dk, if_pos h0]
      rw [← ea] at q3
      have hdn := dP_dn hW hO.1 h0
      obtain ⟨s', z1, z2, z3⟩ := ih (k + 1) s1 (aft T A p) (by omega) (q2.T hT) q3 (aft_ok hO h0 hp)
      rw [e1]
      refine ⟨s', ?_, q2.tr z2, z3⟩
      simp only [w_Ref_drinkOn_0, w_Ref_drinkOn_4, w_Ref_drinkOn_11, w_Ref_drinkOn_14, w_Ref_drinkOn_19, w_Ref_drinkOn_26, w_Ref_drinkOn_6 (l0 := 110) (l2 := nI k), c_110, f_110_0, p_110_0, f_110_1, f_110_2, f_110_3, f_110_4, f_110_5, p_110_5, f_110_6, f_110_7, p_110_7, f_110_8, p_110_8, f_110_9, p_110_9, f_110_10, p_110_10, f_110_11, p_110_11, f_110_12, p_110_12, f_110_13, p_110_13, f_110_14, f_110_15, f_110_16, p_110_16, f_110_17, f_110_18, p_110_18, f_110_19, p_110_19, f_110_20, f_110_21, p_110_21, f_110_22, p_110_22, f_110_23, f_110_24, f_110_25, p_110_25, f_110_26, f_110_27, f_110_28, f_110_29, f_110_30, f_110_31, p_110_31, f_110_32, p_110_32, f_110_33, p_110_33, f_110_34, p_110_34, f_110_35, f_110_36, f_110_37, f_110_38, Option.some.injEq, exists_eq_left', exists_eq_left, Option.toList_some, Option.toList_none, List.cons_append, List.nil_append, true_and, and_true, Option.map_some, Option.map_none, r_whyNot (d := d) (by omega) hT hW hA hO hp, h0, not_true_eq_false, if_false, x_ev_iff q1, nI_1]
      rw [show k + ((dk T p n (aft T A p)).1 + 1) = k + 1 + (dk T p n (aft T A p)).1 by omega]
      exact z1
    · have e1 : dk T p (n + 1) A = (0, A) := by rw [dk, if_neg h0]
      rw [e1]
      refine ⟨s, ?_, offR.rf, hA⟩
      simp only [w_Ref_drinkOn_0, w_Ref_drinkOn_4, w_Ref_drinkOn_11, w_Ref_drinkOn_14, w_Ref_drinkOn_19, w_Ref_drinkOn_26, w_Ref_drinkOn_6 (l0 := 110) (l2 := nI k), c_110, f_110_0, p_110_0, f_110_1, f_110_2, f_110_3, f_110_4, f_110_5, p_110_5, f_110_6, f_110_7, p_110_7, f_110_8, p_110_8, f_110_9, p_110_9, f_110_10, p_110_10, f_110_11, p_110_11, f_110_12, p_110_12, f_110_13, p_110_13, f_110_14, f_110_15, f_110_16, p_110_16, f_110_17, f_110_18, p_110_18, f_110_19, p_110_19, f_110_20, f_110_21, p_110_21, f_110_22, p_110_22, f_110_23, f_110_24, f_110_25, p_110_25, f_110_26, f_110_27, f_110_28, f_110_29, f_110_30, f_110_31, p_110_31, f_110_32, p_110_32, f_110_33, p_110_33, f_110_34, p_110_34, f_110_35, f_110_36, f_110_37, f_110_38, Option.some.injEq, exists_eq_left', exists_eq_left, Option.toList_some, Option.toList_none, List.cons_append, List.nil_append, true_and, and_true, Option.map_some, Option.map_none, r_whyNot (d := d) (by omega) hT hW hA hO hp, h0, not_false_eq_true, if_true, Nat.add_zero]
theorem r_drinkOn (hd : 8 ≤ d) (hK : tOk T) {s : xS} {A : As} {acts : List Int32} (hR : refW s T acts) (hr : aRun T (aBegin T) acts = some A) {p : Nat} (hp : p < tP T) : ∃ s', x_ev g_M P d 276 [.ref 110, .int (nI p)] (mkH xs s) (some (.int (nI (dk T p 8 A).1)), mkH xs s') ∧ offR s s' ∧ refS s' T (dk T p 8 A).2 := by
  obtain ⟨d, rfl⟩ := x_1 (d := d) (by omega)
  have hO := aOk_run hK _ _ _ (aOk_begin hK) hr
  obtain ⟨s1, e1, o1, hA1⟩ := r_asItIs (P := P) (d := d) (xs := xs) (by omega) hR hK hr
  obtain ⟨s', z1, z2, z3⟩ := r_onL (P := P) (d := d) (xs := xs) (by omega) hK hp 8 0 s1 A (dP_8 A) (o1.T hR.1) hA1 hO
  refine ⟨s', ?_, o1.tr z2, z3⟩
  rw [x_ev_in rfl (Nat.le_of_ble_eq_true rfl)]
  rw [show x_ent (x_nL g_M 276) [.ref 110, .int (nI p)] = [some (.ref 110), some (.int (nI p)), none] from rfl]
  simp only [w_Ref_drinkOn_0, w_Ref_drinkOn_4, w_Ref_drinkOn_11, w_Ref_drinkOn_14, w_Ref_drinkOn_19, w_Ref_drinkOn_26, c_110, f_110_0, p_110_0, f_110_1, f_110_2, f_110_3, f_110_4, f_110_5, p_110_5, f_110_6, f_110_7, p_110_7, f_110_8, p_110_8, f_110_9, p_110_9, f_110_10, p_110_10, f_110_11, p_110_11, f_110_12, p_110_12, f_110_13, p_110_13, f_110_14, f_110_15, f_110_16, p_110_16, f_110_17, f_110_18, p_110_18, f_110_19, p_110_19, f_110_20, f_110_21, p_110_21, f_110_22, p_110_22, f_110_23, f_110_24, f_110_25, p_110_25, f_110_26, f_110_27, f_110_28, f_110_29, f_110_30, f_110_31, p_110_31, f_110_32, p_110_32, f_110_33, p_110_33, f_110_34, p_110_34, f_110_35, f_110_36, f_110_37, f_110_38, Option.some.injEq, exists_eq_left', exists_eq_left, Option.toList_some, Option.toList_none, List.cons_append, List.nil_append, true_and, and_true, Option.map_some, Option.map_none, x_ev_iff e1]
  rw [Nat.zero_add] at z1
  exact z1
/-- one asks of the state as it is whether p can drink, and then drinks -/
theorem r_sip (hd : 7 ≤ d) (hK : tOk T) {s : xS} {A : As} (hT : refT s 111 0 T) (hA : refS s T A) (hO : aOk T A) {p : Nat} (hp : p < tP T) (h0 : aWhy T A p = 0) : ∃ s' v, x_ev g_M P d 237 [.ref 110, .int (nI p)] (mkH xs s) (some (.int v), mkH xs s') ∧ offR s s' ∧ refS s' T (aft T A p) := by
  obtain ⟨m, hl⟩ := aWhy_last h0
  obtain ⟨s1, q1, q2, q3⟩ := r_drink0 (P := P) (d := d) (xs := xs) (by omega) hT hK.1 hA hO.1 hp hl
  have ea : aft T A p = aDrink T A p m := by unfold aft; rw [hl]; rfl
  rw [← ea] at q3
  exact ⟨s1, _, q1, q2, q3⟩
end SIPS
section SIPS2
variable {P : Nat → List Value → Option Value} {W : Wd}
set_option maxHeartbeats 4000000 in
theorem k_thirst (h : wOk W) (x : Int32) : ask2 P 149 277 [.int x] W := by
  obtain ⟨hK, hl60, hr, hrest⟩ := h; have hW := hK.1; have hO := aOk_run hK _ _ _ (aOk_begin hK) hr; have hAw := hO.1; have w1 := hW.1; have w2 := hW.2.1; have h9 : 9 ∈ g_SP := by decide
  rcases has_cs (n := tP (wT W)) (by omega) x with h0 | ⟨p, hp, rfl, h1⟩
  · refine ⟨-2, cAsk0 ?_, rAsk0 ?_⟩
    · intro d xs s hd hC; obtain ⟨⟨hT, hA, hn, hacts⟩, -⟩ := hC
      obtain ⟨d, rfl⟩ := x_1 (d := d) (by omega)
      rw [x_ev_in rfl (Nat.le_of_ble_eq_true rfl)]
      rw [show x_ent (x_nL g_M 149) [.ref 1, .int x] = [some (.ref 1), some (.int x)] from rfl]
      simp only [w_Top_thirst_0, w_Top_thirst_4, w_Top_thirst_8, w_Top_thirst_11, w_Top_thirst_14, w_Top_thirst_18, w_Top_thirst_22, w_Top_thirst_27, w_Top_thirst_30, c_1, f_1_0, f_1_1, p_1_1, f_1_2, f_1_3, f_1_4, f_1_5, f_1_6, p_1_6, f_1_7, f_1_8, f_1_9, f_1_10, f_1_11, f_1_12, f_1_13, f_1_14, c_3, f_3_0, p_3_0, f_3_1, p_3_1, f_3_2, p_3_2, f_3_3, p_3_3, f_3_4, p_3_4, f_3_5, p_3_5, f_3_6, p_3_6, f_3_7, p_3_7, f_3_8, p_3_8, f_3_9, f_3_10, f_3_11, f_3_12, f_3_13, c_9, f_9_0, f_9_1, p_9_1, f_9_2, p_9_2, f_9_3, p_9_3, f_9_4, p_9_4, f_9_5, f_9_6, Option.some.injEq, exists_eq_left', exists_eq_left, Option.toList_some, Option.toList_none, List.cons_append, List.nil_append, true_and, and_true, Option.map_some, Option.map_none, t_isTold (d := d) (by omega) hT, t_hasPerson (d := d) (by omega) hT, t_hasMatter (d := d) (by omega) hT, t_hasSet (d := d) (by omega) hT hW, t_bitOf (d := d) (by omega), t_isClosed (d := d) (by omega) hT hW, t_sumOfAll (d := d) (by omega) hT hW, s_openOnes (d := d) (by omega) h9 hT hW hA, s_wishers (d := d) (by omega) h9 hT hW hA hAw, s_allCups (d := d) (by omega) h9 hT hW hA, h0, show ¬ ((1 : Int32) = 0) by decide, not_true_eq_false, not_false_eq_true, if_true, if_false]
    · intro d xs s hd hC; obtain ⟨hR, -⟩ := hC; have hT := hR.1
      obtain ⟨d, rfl⟩ := x_1 (d := d) (by omega)
      rw [x_ev_in rfl (Nat.le_of_ble_eq_true rfl)]
      rw [show x_ent (x_nL g_M 277) [.ref 110, .int x] = [some (.ref 110), some (.int x)] from rfl]
      simp only [w_Ref_thirst_0, w_Ref_thirst_5, w_Ref_thirst_8, w_Ref_thirst_13, w_Ref_thirst_16, w_Ref_thirst_18, c_110, f_110_0, p_110_0, f_110_1, f_110_2, f_110_3, f_110_4, f_110_5, p_110_5, f_110_6, f_110_7, p_110_7, f_110_8, p_110_8, f_110_9, p_110_9, f_110_10, p_110_10, f_110_11, p_110_11, f_110_12, p_110_12, f_110_13, p_110_13, f_110_14, f_110_15, f_110_16, p_110_16, f_110_17, f_110_18, p_110_18, f_110_19, p_110_19, f_110_20, f_110_21, p_110_21, f_110_22, p_110_22, f_110_23, f_110_24, f_110_25, p_110_25, f_110_26, f_110_27, f_110_28, f_110_29, f_110_30, f_110_31, p_110_31, f_110_32, p_110_32, f_110_33, p_110_33, f_110_34, p_110_34, f_110_35, f_110_36, f_110_37, f_110_38, Option.some.injEq, exists_eq_left', exists_eq_left, Option.toList_some, Option.toList_none, List.cons_append, List.nil_append, true_and, and_true, Option.map_some, Option.map_none, r_isTown (d := d) (by omega) hT, r_isPerson (d := d) (by omega) hT hW, r_isMatterI (d := d) (by omega) hT hW, r_isSet (d := d) (by omega) hT hW, r_allMatters (d := d) (by omega) hT hW, r_isClosed (d := d) (by omega) hT hW, r_sumOfAll (d := d) (by omega) hT hW, r_restsOf (d := d) (by omega) hT hW, r_in (d := d) (by omega), r_bit (d := d) (by omega), r_bits (d := d) (by omega), h0, show ¬ ((1 : Int32) = 0) by decide, not_true_eq_false, not_false_eq_true, if_true, if_false]
  · refine ⟨nI (dk (wT W) p 8 (wA W)).1, cAsk ?_, rAsk ?_⟩
    · intro d xs s hd hC; obtain ⟨⟨hT, hA, hn, hacts⟩, -⟩ := hC
      obtain ⟨d, rfl⟩ := x_1 (d := d) (by omega)
      obtain ⟨s', q1, q2, q3⟩ := s_drinkOut (P := P) (d := d) (xs := xs) (by omega) hK hT hA hO hp
      refine ⟨s', ?_, q2.ke⟩
      rw [x_ev_in rfl (Nat.le_of_ble_eq_true rfl)]
      rw [show x_ent (x_nL g_M 149) [.ref 1, .int (nI p)] = [some (.ref 1), some (.int (nI p))] from rfl]
      simp only [w_Top_thirst_0, w_Top_thirst_4, w_Top_thirst_8, w_Top_thirst_11, w_Top_thirst_14, w_Top_thirst_18, w_Top_thirst_22, w_Top_thirst_27, w_Top_thirst_30, c_1, f_1_0, f_1_1, p_1_1, f_1_2, f_1_3, f_1_4, f_1_5, f_1_6, p_1_6, f_1_7, f_1_8, f_1_9, f_1_10, f_1_11, f_1_12, f_1_13, f_1_14, c_3, f_3_0, p_3_0, f_3_1, p_3_1, f_3_2, p_3_2, f_3_3, p_3_3, f_3_4, p_3_4, f_3_5, p_3_5, f_3_6, p_3_6, f_3_7, p_3_7, f_3_8, p_3_8, f_3_9, f_3_10, f_3_11, f_3_12, f_3_13, c_9, f_9_0, f_9_1, p_9_1, f_9_2, p_9_2, f_9_3, p_9_3, f_9_4, p_9_4, f_9_5, f_9_6, c_48, f_48_0, f_48_1, f_48_2, f_48_3, p_48_3, f_48_4, p_48_4, Option.some.injEq, exists_eq_left', exists_eq_left, Option.toList_some, Option.toList_none, List.cons_append, List.nil_append, true_and, and_true, Option.map_some, Option.map_none, t_isTold (d := d) (by omega) hT, t_hasPerson (d := d) (by omega) hT, t_hasMatter (d := d) (by omega) hT, t_hasSet (d := d) (by omega) hT hW, t_bitOf (d := d) (by omega), t_isClosed (d := d) (by omega) hT hW, t_sumOfAll (d := d) (by omega) hT hW, s_openOnes (d := d) (by omega) h9 hT hW hA, s_wishers (d := d) (by omega) h9 hT hW hA hAw, s_allCups (d := d) (by omega) h9 hT hW hA, x_ev_iff q1, h1, show ¬ ((1 : Int32) = 0) by decide, not_false_eq_true, if_true, if_false, q3]
    · intro d xs s hd hC; obtain ⟨hR, -⟩ := hC; have hT := hR.1
      obtain ⟨d, rfl⟩ := x_1 (d := d) (by omega)
      obtain ⟨s', e1, o1, z3⟩ := r_drinkOn (P := P) (d := d) (xs := xs) (by omega) hK hR hr hp
      refine ⟨s', ?_, o1.ke⟩
      rw [x_ev_in rfl (Nat.le_of_ble_eq_true rfl)]
      rw [show x_ent (x_nL g_M 277) [.ref 110, .int (nI p)] = [some (.ref 110), some (.int (nI p))] from rfl]
      simp only [w_Ref_thirst_0, w_Ref_thirst_5, w_Ref_thirst_8, w_Ref_thirst_13, w_Ref_thirst_16, w_Ref_thirst_18, c_110, f_110_0, p_110_0, f_110_1, f_110_2, f_110_3, f_110_4, f_110_5, p_110_5, f_110_6, f_110_7, p_110_7, f_110_8, p_110_8, f_110_9, p_110_9, f_110_10, p_110_10, f_110_11, p_110_11, f_110_12, p_110_12, f_110_13, p_110_13, f_110_14, f_110_15, f_110_16, p_110_16, f_110_17, f_110_18, p_110_18, f_110_19, p_110_19, f_110_20, f_110_21, p_110_21, f_110_22, p_110_22, f_110_23, f_110_24, f_110_25, p_110_25, f_110_26, f_110_27, f_110_28, f_110_29, f_110_30, f_110_31, p_110_31, f_110_32, p_110_32, f_110_33, p_110_33, f_110_34, p_110_34, f_110_35, f_110_36, f_110_37, f_110_38, Option.some.injEq, exists_eq_left', exists_eq_left, Option.toList_some, Option.toList_none, List.cons_append, List.nil_append, true_and, and_true, Option.map_some, Option.map_none, r_isTown (d := d) (by omega) hT, r_isPerson (d := d) (by omega) hT hW, r_isMatterI (d := d) (by omega) hT hW, r_isSet (d := d) (by omega) hT hW, r_allMatters (d := d) (by omega) hT hW, r_isClosed (d := d) (by omega) hT hW, r_sumOfAll (d := d) (by omega) hT hW, r_restsOf (d := d) (by omega) hT hW, r_in (d := d) (by omega), r_bit (d := d) (by omega), r_bits (d := d) (by omega), x_ev_iff e1, h1, show ¬ ((1 : Int32) = 0) by decide, not_false_eq_true, if_true, if_false]
set_option maxHeartbeats 4000000 in
theorem k_dregs (h : wOk W) (x : Int32) : ask2 P 150 278 [.int x] W := by
  obtain ⟨hK, hl60, hr, hrest⟩ := h; have hW := hK.1; have hO := aOk_run hK _ _ _ (aOk_begin hK) hr; have hAw := hO.1; have w1 := hW.1; have w2 := hW.2.1; have h9 : 9 ∈ g_SP := by decide
  rcases has_cs (n := tP (wT W)) (by omega) x with h0 | ⟨p, hp, rfl, h1⟩
  · refine ⟨-2, cAsk0 ?_, rAsk0 ?_⟩
    · intro d xs s hd hC; obtain ⟨⟨hT, hA, hn, hacts⟩, -⟩ := hC
      obtain ⟨d, rfl⟩ := x_1 (d := d) (by omega)
      rw [x_ev_in rfl (Nat.le_of_ble_eq_true rfl)]
      rw [show x_ent (x_nL g_M 150) [.ref 1, .int x] = [some (.ref 1), some (.int x)] from rfl]
      simp only [w_Top_dregs_0, w_Top_dregs_4, w_Top_dregs_8, w_Top_dregs_11, w_Top_dregs_15, w_Top_dregs_19, w_Top_dregs_22, w_Top_dregs_24, c_1, f_1_0, f_1_1, p_1_1, f_1_2, f_1_3, f_1_4, f_1_5, f_1_6, p_1_6, f_1_7, f_1_8, f_1_9, f_1_10, f_1_11, f_1_12, f_1_13, f_1_14, c_3, f_3_0, p_3_0, f_3_1, p_3_1, f_3_2, p_3_2, f_3_3, p_3_3, f_3_4, p_3_4, f_3_5, p_3_5, f_3_6, p_3_6, f_3_7, p_3_7, f_3_8, p_3_8, f_3_9, f_3_10, f_3_11, f_3_12, f_3_13, c_9, f_9_0, f_9_1, p_9_1, f_9_2, p_9_2, f_9_3, p_9_3, f_9_4, p_9_4, f_9_5, f_9_6, Option.some.injEq, exists_eq_left', exists_eq_left, Option.toList_some, Option.toList_none, List.cons_append, List.nil_append, true_and, and_true, Option.map_some, Option.map_none, t_isTold (d := d) (by omega) hT, t_hasPerson (d := d) (by omega) hT, t_hasMatter (d := d) (by omega) hT, t_hasSet (d := d) (by omega) hT hW, t_bitOf (d := d) (by omega), t_isClosed (d := d) (by omega) hT hW, t_sumOfAll (d := d) (by omega) hT hW, s_openOnes (d := d) (by omega) h9 hT hW hA, s_wishers (d := d) (by omega) h9 hT hW hA hAw, s_allCups (d := d) (by omega) h9 hT hW hA, h0, show ¬ ((1 : Int32) = 0) by decide, not_true_eq_false, not_false_eq_true, if_true, if_false]
    · intro d xs s hd hC; obtain ⟨hR, -⟩ := hC; have hT := hR.1
      obtain ⟨d, rfl⟩ := x_1 (d := d) (by omega)
      rw [x_ev_in rfl (Nat.le_of_ble_eq_true rfl)]
      rw [show x_ent (x_nL g_M 278) [.ref 110, .int x] = [some (.ref 110), some (.int x)] from rfl]
      simp only [w_Ref_dregs_0, w_Ref_dregs_5, w_Ref_dregs_8, w_Ref_dregs_11, w_Ref_dregs_16, w_Ref_dregs_21, c_110, f_110_0, p_110_0, f_110_1, f_110_2, f_110_3, f_110_4, f_110_5, p_110_5, f_110_6, f_110_7, p_110_7, f_110_8, p_110_8, f_110_9, p_110_9, f_110_10, p_110_10, f_110_11, p_110_11, f_110_12, p_110_12, f_110_13, p_110_13, f_110_14, f_110_15, f_110_16, p_110_16, f_110_17, f_110_18, p_110_18, f_110_19, p_110_19, f_110_20, f_110_21, p_110_21, f_110_22, p_110_22, f_110_23, f_110_24, f_110_25, p_110_25, f_110_26, f_110_27, f_110_28, f_110_29, f_110_30, f_110_31, p_110_31, f_110_32, p_110_32, f_110_33, p_110_33, f_110_34, p_110_34, f_110_35, f_110_36, f_110_37, f_110_38, Option.some.injEq, exists_eq_left', exists_eq_left, Option.toList_some, Option.toList_none, List.cons_append, List.nil_append, true_and, and_true, Option.map_some, Option.map_none, r_isTown (d := d) (by omega) hT, r_isPerson (d := d) (by omega) hT hW, r_isMatterI (d := d) (by omega) hT hW, r_isSet (d := d) (by omega) hT hW, r_allMatters (d := d) (by omega) hT hW, r_isClosed (d := d) (by omega) hT hW, r_sumOfAll (d := d) (by omega) hT hW, r_restsOf (d := d) (by omega) hT hW, r_in (d := d) (by omega), r_bit (d := d) (by omega), r_bits (d := d) (by omega), h0, show ¬ ((1 : Int32) = 0) by decide, not_true_eq_false, not_false_eq_true, if_true, if_false]
  · refine ⟨msk (dk (wT W) p 8 (wA W)).2.1, cAsk ?_, rAsk ?_⟩
    · intro d xs s hd hC; obtain ⟨⟨hT, hA, hn, hacts⟩, -⟩ := hC
      obtain ⟨d, rfl⟩ := x_1 (d := d) (by omega)
      obtain ⟨s', q1, q2, q3⟩ := s_drinkOut (P := P) (d := d) (xs := xs) (by omega) hK hT hA hO hp
      refine ⟨s', ?_, q2.ke⟩
      rw [x_ev_in rfl (Nat.le_of_ble_eq_true rfl)]
      rw [show x_ent (x_nL g_M 150) [.ref 1, .int (nI p)] = [some (.ref 1), some (.int (nI p))] from rfl]
      simp only [w_Top_dregs_0, w_Top_dregs_4, w_Top_dregs_8, w_Top_dregs_11, w_Top_dregs_15, w_Top_dregs_19, w_Top_dregs_22, w_Top_dregs_24, c_1, f_1_0, f_1_1, p_1_1, f_1_2, f_1_3, f_1_4, f_1_5, f_1_6, p_1_6, f_1_7, f_1_8, f_1_9, f_1_10, f_1_11, f_1_12, f_1_13, f_1_14, c_3, f_3_0, p_3_0, f_3_1, p_3_1, f_3_2, p_3_2, f_3_3, p_3_3, f_3_4, p_3_4, f_3_5, p_3_5, f_3_6, p_3_6, f_3_7, p_3_7, f_3_8, p_3_8, f_3_9, f_3_10, f_3_11, f_3_12, f_3_13, c_9, f_9_0, f_9_1, p_9_1, f_9_2, p_9_2, f_9_3, p_9_3, f_9_4, p_9_4, f_9_5, f_9_6, c_48, f_48_0, f_48_1, f_48_2, f_48_3, p_48_3, f_48_4, p_48_4, Option.some.injEq, exists_eq_left', exists_eq_left, Option.toList_some, Option.toList_none, List.cons_append, List.nil_append, true_and, and_true, Option.map_some, Option.map_none, t_isTold (d := d) (by omega) hT, t_hasPerson (d := d) (by omega) hT, t_hasMatter (d := d) (by omega) hT, t_hasSet (d := d) (by omega) hT hW, t_bitOf (d := d) (by omega), t_isClosed (d := d) (by omega) hT hW, t_sumOfAll (d := d) (by omega) hT hW, s_openOnes (d := d) (by omega) h9 hT hW hA, s_wishers (d := d) (by omega) h9 hT hW hA hAw, s_allCups (d := d) (by omega) h9 hT hW hA, x_ev_iff q1, h1, show ¬ ((1 : Int32) = 0) by decide, not_false_eq_true, if_true, if_false, q3]
    · intro d xs s hd hC; obtain ⟨hR, -⟩ := hC; have hT := hR.1
      obtain ⟨d, rfl⟩ := x_1 (d := d) (by omega)
      obtain ⟨s', e1, o1, z3⟩ := r_drinkOn (P := P) (d := d) (xs := xs) (by omega) hK hR hr hp
      refine ⟨s', ?_, o1.ke⟩
      rw [x_ev_in rfl (Nat.le_of_ble_eq_true rfl)]
      rw [show x_ent (x_nL g_M 278) [.ref 110, .int (nI p)] = [some (.ref 110), some (.int (nI p))] from rfl]
      simp only [w_Ref_dregs_0, w_Ref_dregs_5, w_Ref_dregs_8, w_Ref_dregs_11, w_Ref_dregs_16, w_Ref_dregs_21, c_110, f_110_0, p_110_0, f_110_1, f_110_2, f_110_3, f_110_4, f_110_5, p_110_5, f_110_6, f_110_7, p_110_7, f_110_8, p_110_8, f_110_9, p_110_9, f_110_10, p_110_10, f_110_11, p_110_11, f_110_12, p_110_12, f_110_13, p_110_13, f_110_14, f_110_15, f_110_16, p_110_16, f_110_17, f_110_18, p_110_18, f_110_19, p_110_19, f_110_20, f_110_21, p_110_21, f_110_22, p_110_22, f_110_23, f_110_24, f_110_25, p_110_25, f_110_26, f_110_27, f_110_28, f_110_29, f_110_30, f_110_31, p_110_31, f_110_32, p_110_32, f_110_33, p_110_33, f_110_34, p_110_34, f_110_35, f_110_36, f_110_37, f_110_38, Option.some.injEq, exists_eq_left', exists_eq_left, Option.toList_some, Option.toList_none, List.cons_append, List.nil_append, true_and, and_true, Option.map_some, Option.map_none, r_isTown (d := d) (by omega) hT, r_isPerson (d := d) (by omega) hT hW, r_isMatterI (d := d) (by omega) hT hW, r_isSet (d := d) (by omega) hT hW, r_allMatters (d := d) (by omega) hT hW, r_isClosed (d := d) (by omega) hT hW, r_sumOfAll (d := d) (by omega) hT hW, r_restsOf (d := d) (by omega) hT hW, r_in (d := d) (by omega), r_bit (d := d) (by omega), r_bits (d := d) (by omega), x_ev_iff e1, r_settledNow (d := d) (by omega) z3 (dk_ok hp 8 _ hO).1 hW, h1, show ¬ ((1 : Int32) = 0) by decide, not_false_eq_true, if_true, if_false]
theorem aftI_s {T : Tw} {A : As} {p n : Nat} (hn : n < 2 ^ 31) : aftI T A p = nI n ↔ (aWhy T A p = 0 ∧ msk (aft T A p).1 = nI n) := by
  unfold aftI
  by_cases h0 : aWhy T A p = 0
  · rw [if_pos h0]
    exact ⟨fun z => ⟨h0, z⟩, fun z => z.2⟩
  · rw [if_neg h0]
    refine ⟨fun z => ?_, fun z => absurd z.1 h0⟩
    have := nI_pos hn
    rw [← z] at this
    exact absurd (by decide) this
set_option maxHeartbeats 4000000 in
theorem k_who (h : wOk W) (x : Int32) : ask2 P 162 308 [.int x] W := by
  obtain ⟨hK, hl60, hr, hrest⟩ := h; have hW := hK.1; have hO := aOk_run hK _ _ _ (aOk_begin hK) hr; have hAw := hO.1; have w1 := hW.1; have w2 := hW.2.1; have h9 : 9 ∈ g_SP := by decide
  have hp2 := p2_le (tM (wT W)) (by omega)
  rcases set_cs hW x with h0 | ⟨n, hs, rfl, h1, hli⟩
  · refine ⟨-2, cAsk0 ?_, rAsk0 ?_⟩
    · intro d xs s hd hC; obtain ⟨⟨hT, hA, hn, hacts⟩, -⟩ := hC
      obtain ⟨d, rfl⟩ := x_1 (d := d) (by omega)
      rw [x_ev_in rfl (Nat.le_of_ble_eq_true rfl)]
      rw [show x_ent (x_nL g_M 162) [.ref 1, .int x] = [some (.ref 1), some (.int x)] from rfl]
      simp only [w_Top_who_0, w_Top_who_4, w_Top_who_8, w_Top_who_11, w_Top_who_15, w_Top_who_19, w_Top_who_22, w_Top_who_24, c_1, f_1_0, f_1_1, p_1_1, f_1_2, f_1_3, f_1_4, f_1_5, f_1_6, p_1_6, f_1_7, f_1_8, f_1_9, f_1_10, f_1_11, f_1_12, f_1_13, f_1_14, c_3, f_3_0, p_3_0, f_3_1, p_3_1, f_3_2, p_3_2, f_3_3, p_3_3, f_3_4, p_3_4, f_3_5, p_3_5, f_3_6, p_3_6, f_3_7, p_3_7, f_3_8, p_3_8, f_3_9, f_3_10, f_3_11, f_3_12, f_3_13, c_9, f_9_0, f_9_1, p_9_1, f_9_2, p_9_2, f_9_3, p_9_3, f_9_4, p_9_4, f_9_5, f_9_6, Option.some.injEq, exists_eq_left', exists_eq_left, Option.toList_some, Option.toList_none, List.cons_append, List.nil_append, true_and, and_true, Option.map_some, Option.map_none, t_isTold (d := d) (by omega) hT, t_hasPerson (d := d) (by omega) hT, t_hasMatter (d := d) (by omega) hT, t_hasSet (d := d) (by omega) hT hW, t_bitOf (d := d) (by omega), t_isClosed (d := d) (by omega) hT hW, t_sumOfAll (d := d) (by omega) hT hW, s_openOnes (d := d) (by omega) h9 hT hW hA, s_wishers (d := d) (by omega) h9 hT hW hA hAw, s_allCups (d := d) (by omega) h9 hT hW hA, h0, show ¬ ((1 : Int32) = 0) by decide, not_true_eq_false, not_false_eq_true, if_true, if_false]
    · intro d xs s hd hC; obtain ⟨hR, -⟩ := hC; have hT := hR.1
      obtain ⟨d, rfl⟩ := x_1 (d := d) (by omega)
      rw [x_ev_in rfl (Nat.le_of_ble_eq_true rfl)]
      rw [show x_ent (x_nL g_M 308) [.ref 110, .int x] = [some (.ref 110), some (.int x), none, none] from rfl]
      simp only [w_Ref_who_0, w_Ref_who_5, w_Ref_who_8, w_Ref_who_11, w_Ref_who_20, w_Ref_who_22, w_Ref_who_25, w_Ref_who_29, w_Ref_who_34, w_Ref_who_37, w_Ref_who_40, w_Ref_who_45, w_Ref_who_51, w_Ref_who_55, w_Ref_who_61, w_Ref_who_62, w_Ref_who_64, w_Ref_who_70, c_110, f_110_0, p_110_0, f_110_1, f_110_2, f_110_3, f_110_4, f_110_5, p_110_5, f_110_6, f_110_7, p_110_7, f_110_8, p_110_8, f_110_9, p_110_9, f_110_10, p_110_10, f_110_11, p_110_11, f_110_12, p_110_12, f_110_13, p_110_13, f_110_14, f_110_15, f_110_16, p_110_16, f_110_17, f_110_18, p_110_18, f_110_19, p_110_19, f_110_20, f_110_21, p_110_21, f_110_22, p_110_22, f_110_23, f_110_24, f_110_25, p_110_25, f_110_26, f_110_27, f_110_28, f_110_29, f_110_30, f_110_31, p_110_31, f_110_32, p_110_32, f_110_33, p_110_33, f_110_34, p_110_34, f_110_35, f_110_36, f_110_37, f_110_38, Option.some.injEq, exists_eq_left', exists_eq_left, Option.toList_some, Option.toList_none, List.cons_append, List.nil_append, true_and, and_true, Option.map_some, Option.map_none, r_isTown (d := d) (by omega) hT, r_isPerson (d := d) (by omega) hT hW, r_isMatterI (d := d) (by omega) hT hW, r_isSet (d := d) (by omega) hT hW, r_allMatters (d := d) (by omega) hT hW, r_isClosed (d := d) (by omega) hT hW, r_sumOfAll (d := d) (by omega) hT hW, r_restsOf (d := d) (by omega) hT hW, r_in (d := d) (by omega), r_bit (d := d) (by omega), r_bits (d := d) (by omega), h0, show ¬ ((1 : Int32) = 0) by decide, not_true_eq_false, not_false_eq_true, if_true, if_false]
  · refine ⟨mkM (fun p => decide (aftI (wT W) (wA W) p = nI n)) (tP (wT W)), cAsk ?_, rAsk ?_⟩
    · intro d xs s hd hC; obtain ⟨⟨hT, hA, hn, hacts⟩, -⟩ := hC
      obtain ⟨d, rfl⟩ := x_1 (d := d) (by omega)
      obtain ⟨s', q1, q2⟩ := s_drinkersTo (P := P) (d := d) (xs := xs) (by omega) hK hT hA hO (nI n)
      refine ⟨s', ?_, q2.ke⟩
      rw [x_ev_in rfl (Nat.le_of_ble_eq_true rfl)]
      rw [show x_ent (x_nL g_M 162) [.ref 1, .int (nI n)] = [some (.ref 1), some (.int (nI n))] from rfl]
      simp only [w_Top_who_0, w_Top_who_4, w_Top_who_8, w_Top_who_11, w_Top_who_15, w_Top_who_19, w_Top_who_22, w_Top_who_24, c_1, f_1_0, f_1_1, p_1_1, f_1_2, f_1_3, f_1_4, f_1_5, f_1_6, p_1_6, f_1_7, f_1_8, f_1_9, f_1_10, f_1_11, f_1_12, f_1_13, f_1_14, c_3, f_3_0, p_3_0, f_3_1, p_3_1, f_3_2, p_3_2, f_3_3, p_3_3, f_3_4, p_3_4, f_3_5, p_3_5, f_3_6, p_3_6, f_3_7, p_3_7, f_3_8, p_3_8, f_3_9, f_3_10, f_3_11, f_3_12, f_3_13, c_9, f_9_0, f_9_1, p_9_1, f_9_2, p_9_2, f_9_3, p_9_3, f_9_4, p_9_4, f_9_5, f_9_6, c_48, f_48_0, f_48_1, f_48_2, f_48_3, p_48_3, f_48_4, p_48_4, Option.some.injEq, exists_eq_left', exists_eq_left, Option.toList_some, Option.toList_none, List.cons_append, List.nil_append, true_and, and_true, Option.map_some, Option.map_none, t_isTold (d := d) (by omega) hT, t_hasPerson (d := d) (by omega) hT, t_hasMatter (d := d) (by omega) hT, t_hasSet (d := d) (by omega) hT hW, t_bitOf (d := d) (by omega), t_isClosed (d := d) (by omega) hT hW, t_sumOfAll (d := d) (by omega) hT hW, s_openOnes (d := d) (by omega) h9 hT hW hA, s_wishers (d := d) (by omega) h9 hT hW hA hAw, s_allCups (d := d) (by omega) h9 hT hW hA, x_ev_iff q1, h1, show ¬ ((1 : Int32) = 0) by decide, not_false_eq_true, if_true, if_false]
    · intro d xs s hd hC; obtain ⟨hR, -⟩ := hC; have hT := hR.1
      obtain ⟨d, rfl⟩ := x_1 (d := d) (by omega)
      obtain ⟨s', ho, e⟩ := x_upY (C := x_ev g_M P d) (k := 308) (N := tP (wT W)) (β := xS) (R := fun _ z => offR s z) (F := fun p z => (15, [some (.ref 110), some (.int (nI n)), some (.int (mkM (fun p => decide (aftI (wT W) (wA W) p = nI n)) p)), some (.int (nI p))], [], mkH xs z)) (fun p z hp ho => by
        have hc : ¬ nI (tP (wT W)) ≤ nI p := nI_ge hp (by omega)
        have hRz := refW_at (ho.1 111 (by omega) (by omega) (by omega)) hR
        obtain ⟨s1, e1, o1, hA1⟩ := r_asItIs (P := P) (d := d) (xs := xs) (by omega) hRz hK hr
        have hT1 := o1.T hRz.1
        by_cases h0 : aWhy (wT W) (wA W) p = 0
        · obtain ⟨s2, v, q1, q2, q3⟩ := r_sip (P := P) (d := d) (xs := xs) (by omega) hK hT1 hA1 hO hp h0
          have hO2 := aft_ok hO h0 hp
          refine ⟨s2, (ho.tr o1).tr q2, fun r => ?_⟩
          simp only [w_Ref_who_0, w_Ref_who_5, w_Ref_who_8, w_Ref_who_11, w_Ref_who_20, w_Ref_who_22, w_Ref_who_25, w_Ref_who_29, w_Ref_who_34, w_Ref_who_37, w_Ref_who_40, w_Ref_who_45, w_Ref_who_51, w_Ref_who_55, w_Ref_who_61, w_Ref_who_62, w_Ref_who_64, w_Ref_who_70, w_Ref_who_15 (l3 := nI p), c_110, f_110_0, p_110_0, f_110_1, f_110_2, f_110_3, f_110_4, f_110_5, p_110_5, f_110_6, f_110_7, p_110_7, f_110_8, p_110_8, f_110_9, p_110_9, f_110_10, p_110_10, f_110_11, p_110_11, f_110_12, p_110_12, f_110_13, p_110_13, f_110_14, f_110_15, f_110_16, p_110_16, f_110_17, f_110_18, p_110_18, f_110_19, p_110_19, f_110_20, f_110_21, p_110_21, f_110_22, p_110_22, f_110_23, f_110_24, f_110_25, p_110_25, f_110_26, f_110_27, f_110_28, f_110_29, f_110_30, f_110_31, p_110_31, f_110_32, p_110_32, f_110_33, p_110_33, f_110_34, p_110_34, f_110_35, f_110_36, f_110_37, f_110_38, e_111, i_111, Option.some.injEq, exists_eq_left', exists_eq_left, Option.toList_some, Option.toList_none, List.cons_append, List.nil_append, true_and, and_true, Option.map_some, Option.map_none, x_w3 hRz.1, hc, if_false, x_ev_iff e1, r_whyNot (d := d) (by omega) hT1 hW hA1 hO hp, h0, if_true, x_ev_iff q1, r_settledNow (d := d) (by omega) q3 hO2.1 hW, nI_1, mkM, aftI_s (show n < 2 ^ 31 by omega), true_and]
          by_cases hb : msk (aft (wT W) (wA W) p).1 = nI n
          · simp only [hb, not_true_eq_false, if_false, decide_true, if_true]
            rfl
          · simp only [hb, not_false_eq_true, if_true, decide_false, if_false, Bool.false_eq_true, Int32.or_zero]
        · refine ⟨s1, ho.tr o1, fun r => ?_⟩
          simp only [w_Ref_who_0, w_Ref_who_5, w_Ref_who_8, w_Ref_who_11, w_Ref_who_20, w_Ref_who_22, w_Ref_who_25, w_Ref_who_29, w_Ref_who_34, w_Ref_who_37, w_Ref_who_40, w_Ref_who_45, w_Ref_who_51, w_Ref_who_55, w_Ref_who_61, w_Ref_who_62, w_Ref_who_64, w_Ref_who_70, w_Ref_who_15 (l3 := nI p), c_110, f_110_0, p_110_0, f_110_1, f_110_2, f_110_3, f_110_4, f_110_5, p_110_5, f_110_6, f_110_7, p_110_7, f_110_8, p_110_8, f_110_9, p_110_9, f_110_10, p_110_10, f_110_11, p_110_11, f_110_12, p_110_12, f_110_13, p_110_13, f_110_14, f_110_15, f_110_16, p_110_16, f_110_17, f_110_18, p_110_18, f_110_19, p_110_19, f_110_20, f_110_21, p_110_21, f_110_22, p_110_22, f_110_23, f_110_24, f_110_25, p_110_25, f_110_26, f_110_27, f_110_28, f_110_29, f_110_30, f_110_31, p_110_31, f_110_32, p_110_32, f_110_33, p_110_33, f_110_34, p_110_34, f_110_35, f_110_36, f_110_37, f_110_38, e_111, i_111, Option.some.injEq, exists_eq_left', exists_eq_left, Option.toList_some, Option.toList_none, List.cons_append, List.nil_append, true_and, and_true, Option.map_some, Option.map_none, x_w3 hRz.1, hc, if_false, x_ev_iff e1, r_whyNot (d := d) (by omega) hT1 hW hA1 hO hp, h0, nI_1, mkM, aftI_s (show n < 2 ^ 31 by omega), false_and, decide_false, Bool.false_eq_true]) (tP (wT W)) 0 s (by omega) offR.rf
      refine ⟨s', ?_, ho.ke⟩
      rw [x_ev_in rfl (Nat.le_of_ble_eq_true rfl)]
      rw [show x_ent (x_nL g_M 308) [.ref 110, .int (nI n)] = [some (.ref 110), some (.int (nI n)), none, none] from rfl]
      simp only [w_Ref_who_0, w_Ref_who_5, w_Ref_who_8, w_Ref_who_11, w_Ref_who_20, w_Ref_who_22, w_Ref_who_25, w_Ref_who_29, w_Ref_who_34, w_Ref_who_37, w_Ref_who_40, w_Ref_who_45, w_Ref_who_51, w_Ref_who_55, w_Ref_who_61, w_Ref_who_62, w_Ref_who_64, w_Ref_who_70, c_110, f_110_0, p_110_0, f_110_1, f_110_2, f_110_3, f_110_4, f_110_5, p_110_5, f_110_6, f_110_7, p_110_7, f_110_8, p_110_8, f_110_9, p_110_9, f_110_10, p_110_10, f_110_11, p_110_11, f_110_12, p_110_12, f_110_13, p_110_13, f_110_14, f_110_15, f_110_16, p_110_16, f_110_17, f_110_18, p_110_18, f_110_19, p_110_19, f_110_20, f_110_21, p_110_21, f_110_22, p_110_22, f_110_23, f_110_24, f_110_25, p_110_25, f_110_26, f_110_27, f_110_28, f_110_29, f_110_30, f_110_31, p_110_31, f_110_32, p_110_32, f_110_33, p_110_33, f_110_34, p_110_34, f_110_35, f_110_36, f_110_37, f_110_38, Option.some.injEq, exists_eq_left', exists_eq_left, Option.toList_some, Option.toList_none, List.cons_append, List.nil_append, true_and, and_true, Option.map_some, Option.map_none, r_isTown (d := d) (by omega) hT, r_isPerson (d := d) (by omega) hT hW, r_isMatterI (d := d) (by omega) hT hW, r_isSet (d := d) (by omega) hT hW, r_allMatters (d := d) (by omega) hT hW, r_isClosed (d := d) (by omega) hT hW, r_sumOfAll (d := d) (by omega) hT hW, r_restsOf (d := d) (by omega) hT hW, r_in (d := d) (by omega), r_bit (d := d) (by omega), r_bits (d := d) (by omega), h1, show ¬ ((1 : Int32) = 0) by decide, not_false_eq_true, if_true, if_false]
      refine (e _).mpr ?_
      simp only [w_Ref_who_0, w_Ref_who_5, w_Ref_who_8, w_Ref_who_11, w_Ref_who_20, w_Ref_who_22, w_Ref_who_25, w_Ref_who_29, w_Ref_who_34, w_Ref_who_37, w_Ref_who_40, w_Ref_who_45, w_Ref_who_51, w_Ref_who_55, w_Ref_who_61, w_Ref_who_62, w_Ref_who_64, w_Ref_who_70, w_Ref_who_15 (l3 := nI (tP (wT W))), c_110, f_110_0, p_110_0, f_110_1, f_110_2, f_110_3, f_110_4, f_110_5, p_110_5, f_110_6, f_110_7, p_110_7, f_110_8, p_110_8, f_110_9, p_110_9, f_110_10, p_110_10, f_110_11, p_110_11, f_110_12, p_110_12, f_110_13, p_110_13, f_110_14, f_110_15, f_110_16, p_110_16, f_110_17, f_110_18, p_110_18, f_110_19, p_110_19, f_110_20, f_110_21, p_110_21, f_110_22, p_110_22, f_110_23, f_110_24, f_110_25, p_110_25, f_110_26, f_110_27, f_110_28, f_110_29, f_110_30, f_110_31, p_110_31, f_110_32, p_110_32, f_110_33, p_110_33, f_110_34, p_110_34, f_110_35, f_110_36, f_110_37, f_110_38, e_111, i_111, Option.some.injEq, exists_eq_left', exists_eq_left, Option.toList_some, Option.toList_none, List.cons_append, List.nil_append, true_and, and_true, Option.map_some, Option.map_none, x_w3 (ho.T hT), show nI (tP (wT W)) ≤ nI (tP (wT W)) from Int32.le_refl _, if_true]
end SIPS2
