/-! lasts, yields (own work) -/
def wLv (T : Tw) (l : Int32) : Int32 := if l + tSp T < 99 then l + tSp T else 99
def wtr (T : Tw) (n : Int32) : Nat → Nat → Int32 → Int32
  | 0, _, _ => -1
  | k + 1, i, l => if n ≤ wLv T l then wtr T n k (i + 1) (wLv T l - n) else nI i
def yl (T : Tw) (l : Int32) : Nat → Nat
  | 0 => 0
  | n + 1 => if wtr T (nI (n + 1)) 1000 1 l = -1 then n + 1 else yl T l n
theorem wLv_ok {T : Tw} (hK : tOk T) {l : Int32} (h0 : 0 ≤ l) (h9 : l ≤ 99) : 0 ≤ wLv T l ∧ wLv T l ≤ 99 := by
  obtain ⟨-, -, ⟨s0, s9⟩, -⟩ := hK
  unfold wLv
  rw [Int32.le_iff_toInt_le] at h0 h9 s0 s9
  have e0 : (0 : Int32).toInt = 0 := rfl
  have e9 : (9 : Int32).toInt = 9 := rfl
  have e99 : (99 : Int32).toInt = 99 := rfl
  have e : (l + tSp T).toInt = l.toInt + (tSp T).toInt := by
    rw [Int32.toInt_add]
    apply Int.bmod_eq_of_le <;> omega
  split
  · rename_i hl
    refine ⟨?_, Int32.le_of_lt hl⟩
    rw [Int32.le_iff_toInt_le, e]
    omega
  · exact ⟨by decide, by decide⟩
theorem wtr_0 {T : Tw} (hK : tOk T) : ∀ k i l, 0 ≤ l → l ≤ 99 → wtr T 0 k i l = -1 := by
  intro k
  induction k with
  | zero => intro i l _ _; rfl
  | succ k ih =>
    intro i l h0 h9
    have := wLv_ok hK h0 h9
    rw [wtr, if_pos this.1, Int32.sub_zero]
    exact ih _ _ this.1 this.2
def aLev (A : As) (l : Int32) : As := (A.1, A.2.1, l, A.2.2.2)
section WATER
variable {P : Nat → List Value → Option Value} {d : Nat} {xs : List Int32} {T : Tw} {A : As}
theorem s_firstDry (hd : 1 ≤ d) {s : xS} (hT : clsT s 3 T) (l n : Int32) {q : Option Value × xH} : x_ev g_M P d 102 [.ref 72, .int l, .int n] (mkH xs s) q ↔ q = (some (.int (wtr T n 1000 1 l)), mkH xs s) := by
  have t2 := hT.1.2.2.1
  obtain ⟨d, rfl⟩ := x_1 (d := d) (by omega)
  rw [x_ev_in rfl (Nat.le_of_ble_eq_true rfl)]
  rw [show x_ent (x_nL g_M 102) [.ref 72, .int l, .int n] = [some (.ref 72), some (.int l), some (.int n), none, none] from rfl]
  rw [w_Years_firstDry_0]
  have key : ∀ (k i : Nat) (z : Int32), i + k = 1001 → (x_R (x_ev g_M P d) 102 (5, [some (.ref 72), some (.int l), some (.int n), some (.int z), some (.int (nI i))], [], mkH xs s) q ↔ q = (some (.int (wtr T n k i z)), mkH xs s)) := by
    intro k
    induction k with
    | zero =>
      intro i z hi
      obtain rfl : i = 1001 := by omega
      simp only [w_Years_firstDry_0, w_Years_firstDry_13, w_Years_firstDry_20, w_Years_firstDry_23, w_Years_firstDry_33, w_Years_firstDry_36, w_Years_firstDry_46, w_Years_firstDry_5 (l4 := nI 1001), show (1000 : Int32) < nI 1001 by decide, if_true, wtr]
      exact eq_comm
    | succ k ih =>
      intro i z hi
      have hc : ¬ (1000 : Int32) < nI i := nI_nlt (b := i) (a := 1000) (by omega) (by omega)
      have ew : (if z + tSp T < 99 then z + tSp T else 99) = wLv T z := rfl
      simp only [w_Years_firstDry_0, w_Years_firstDry_13, w_Years_firstDry_20, w_Years_firstDry_23, w_Years_firstDry_33, w_Years_firstDry_36, w_Years_firstDry_46, w_Years_firstDry_5 (l4 := nI i), hc, if_false, c_3, f_3_0, p_3_0, f_3_1, p_3_1, f_3_2, p_3_2, f_3_3, p_3_3, f_3_4, p_3_4, f_3_5, p_3_5, f_3_6, p_3_6, f_3_7, p_3_7, f_3_8, p_3_8, f_3_9, f_3_10, f_3_11, f_3_12, f_3_13, c_72, f_72_0, f_72_1, f_72_2, p_72_2, f_72_3, p_72_3, f_72_4, p_72_4, Option.some.injEq, exists_eq_left', exists_eq_left, Option.toList_some, Option.toList_none, List.cons_append, List.nil_append, true_and, and_true, Option.map_some, Option.map_none, t2, ew, wtr]
      by_cases h1 : n ≤ wLv T z
      · simp only [h1, if_true, nI_1]
        exact ih (i + 1) _ (by omega)
      · simp only [h1, if_false]
        exact eq_comm
  exact key 1000 1 l (by omega)
theorem s_mostYield (hd : 2 ≤ d) {s : xS} (hT : clsT s 3 T) (l : Int32) {q : Option Value × xH} : x_ev g_M P d 103 [.ref 72, .int l] (mkH xs s) q ↔ q = (some (.int (nI (yl T l 99))), mkH xs s) := by
  obtain ⟨d, rfl⟩ := x_1 (d := d) (by omega)
  rw [x_ev_in rfl (Nat.le_of_ble_eq_true rfl)]
  rw [show x_ent (x_nL g_M 103) [.ref 72, .int l] = [some (.ref 72), some (.int l), none] from rfl]
  rw [w_Years_mostYield_0]
  have key : ∀ n, n ≤ 99 → (x_R (x_ev g_M P d) 103 (3, [some (.ref 72), some (.int l), some (.int (nI n))], [], mkH xs s) q ↔ q = (some (.int (nI (yl T l n))), mkH xs s)) := by
    intro n
    induction n with
    | zero =>
      intro _
      simp only [w_Years_mostYield_0, w_Years_mostYield_7, w_Years_mostYield_13, w_Years_mostYield_17, w_Years_mostYield_23, w_Years_mostYield_3 (l2 := nI 0), show nI 0 ≤ 0 by decide, if_true, yl]
      exact eq_comm
    | succ n ih =>
      intro hn
      have hc : ¬ nI (n + 1) ≤ 0 := nI_nle (by omega) (by omega)
      simp only [w_Years_mostYield_0, w_Years_mostYield_7, w_Years_mostYield_13, w_Years_mostYield_17, w_Years_mostYield_23, w_Years_mostYield_3 (l2 := nI (n + 1)), hc, if_false, c_72, f_72_0, f_72_1, f_72_2, p_72_2, f_72_3, p_72_3, f_72_4, p_72_4, Option.some.injEq, exists_eq_left', exists_eq_left, Option.toList_some, Option.toList_none, List.cons_append, List.nil_append, true_and, and_true, Option.map_some, Option.map_none, s_firstDry (d := d) (by omega) hT, pk_m1, yl]
      by_cases h1 : wtr T (nI (n + 1)) 1000 1 l = -1
      · simp only [h1, if_true]
        exact eq_comm
      · simp only [h1, if_false]
        exact ih (by omega)
  exact key 99 (by omega)
theorem r_lastsL (hd : 2 ≤ d) (n : Int32) : ∀ (k i : Nat) (s : xS) (l : Int32), i + k = 1001 → refT s 111 0 T → refS s T (aLev A l) →
    ∃ s', x_R (x_ev g_M P d) 320 (6, [some (.ref 110), some (.int n), some (.int (nI i))], [], mkH xs s) (some (.int (wtr T n k i l)), mkH xs s') ∧ offR s s' := by
  intro k
  induction k with
  | zero =>
    intro i s l hi hT hA
    refine ⟨s, ?_, offR.rf⟩
    obtain rfl : i = 1001 := by omega
    simp only [w_Ref_lastsOf_0, w_Ref_lastsOf_4, w_Ref_lastsOf_13, w_Ref_lastsOf_17, w_Ref_lastsOf_21, w_Ref_lastsOf_25, w_Ref_lastsOf_27, w_Ref_lastsOf_32, w_Ref_lastsOf_37, w_Ref_lastsOf_43, w_Ref_lastsOf_6 (l2 := nI 1001), show (1000 : Int32) < nI 1001 by decide, if_true, wtr]
  | succ k ih =>
    intro i s l hi hT hA
    have hc : ¬ (1000 : Int32) < nI i := nI_nlt (b := i) (a := 1000) (by omega) (by omega)
    obtain ⟨s1, q1, q2, q3⟩ := r_day0 (P := P) (d := d) (xs := xs) (by omega) hT hA
    have e18 : s1.1 110 18 = wLv T l := q3.2.2.2.1
    rw [wtr]
    by_cases h1 : n ≤ wLv T l
    · rw [if_pos h1]
      have o2 : offR s1 (s_p s1 110 18 (wLv T l - n)) := ⟨fun q a _ _ => by funext j; simp [s_p, a], fun k _ b _ => by simp [s_p, b], rfl⟩
      have hA2 : refS (s_p s1 110 18 (wLv T l - n)) T (aLev A (wLv T l - n)) := by
        obtain ⟨b1, b2, b3, b4, b5⟩ := q3
        refine ⟨?_, fun i hi => ?_, fun j hj => ?_, ?_, ?_⟩
        · have : (s_p s1 110 18 (wLv T l - n)).1 110 16 = s1.1 110 16 := by simp [s_p]
          rw [this]; exact b1
        · have : (s_p s1 110 18 (wLv T l - n)).1 117 i = s1.1 117 i := by simp [s_p]
          rw [this]; exact b2 i hi
        · have : (s_p s1 110 18 (wLv T l - n)).1 118 j = s1.1 118 j := by simp [s_p]
          rw [this]; exact b3 j hj
        · simp [s_p, aLev]
        · have : (s_p s1 110 18 (wLv T l - n)).1 110 19 = s1.1 110 19 := by simp [s_p]
          rw [this]; exact b5
      obtain ⟨s', z1, z2⟩ := ih (i + 1) (s_p s1 110 18 (wLv T l - n)) (wLv T l - n) (by omega) (o2.T (q2.T hT)) hA2
      refine ⟨s', ?_, (q2.tr o2).tr z2⟩
      simp only [w_Ref_lastsOf_0, w_Ref_lastsOf_4, w_Ref_lastsOf_13, w_Ref_lastsOf_17, w_Ref_lastsOf_21, w_Ref_lastsOf_25, w_Ref_lastsOf_27, w_Ref_lastsOf_32, w_Ref_lastsOf_37, w_Ref_lastsOf_43, w_Ref_lastsOf_6 (l2 := nI i), hc, if_false, c_110, f_110_0, p_110_0, f_110_1, f_110_2, f_110_3, f_110_4, f_110_5, p_110_5, f_110_6, f_110_7, p_110_7, f_110_8, p_110_8, f_110_9, p_110_9, f_110_10, p_110_10, f_110_11, p_110_11, f_110_12, p_110_12, f_110_13, p_110_13, f_110_14, f_110_15, f_110_16, p_110_16, f_110_17, f_110_18, p_110_18, f_110_19, p_110_19, f_110_20, f_110_21, p_110_21, f_110_22, p_110_22, f_110_23, f_110_24, f_110_25, p_110_25, f_110_26, f_110_27, f_110_28, f_110_29, f_110_30, f_110_31, p_110_31, f_110_32, p_110_32, f_110_33, p_110_33, f_110_34, p_110_34, f_110_35, f_110_36, f_110_37, f_110_38, Option.some.injEq, exists_eq_left', exists_eq_left, Option.toList_some, Option.toList_none, List.cons_append, List.nil_append, true_and, and_true, Option.map_some, Option.map_none, x_ev_iff q1, e18, h1, if_true, nI_1]
      exact z1
    · rw [if_neg h1]
      refine ⟨s1, ?_, q2⟩
      simp only [w_Ref_lastsOf_0, w_Ref_lastsOf_4, w_Ref_lastsOf_13, w_Ref_lastsOf_17, w_Ref_lastsOf_21, w_Ref_lastsOf_25, w_Ref_lastsOf_27, w_Ref_lastsOf_32, w_Ref_lastsOf_37, w_Ref_lastsOf_43, w_Ref_lastsOf_6 (l2 := nI i), hc, if_false, c_110, f_110_0, p_110_0, f_110_1, f_110_2, f_110_3, f_110_4, f_110_5, p_110_5, f_110_6, f_110_7, p_110_7, f_110_8, p_110_8, f_110_9, p_110_9, f_110_10, p_110_10, f_110_11, p_110_11, f_110_12, p_110_12, f_110_13, p_110_13, f_110_14, f_110_15, f_110_16, p_110_16, f_110_17, f_110_18, p_110_18, f_110_19, p_110_19, f_110_20, f_110_21, p_110_21, f_110_22, p_110_22, f_110_23, f_110_24, f_110_25, p_110_25, f_110_26, f_110_27, f_110_28, f_110_29, f_110_30, f_110_31, p_110_31, f_110_32, p_110_32, f_110_33, p_110_33, f_110_34, p_110_34, f_110_35, f_110_36, f_110_37, f_110_38, Option.some.injEq, exists_eq_left', exists_eq_left, Option.toList_some, Option.toList_none, List.cons_append, List.nil_append, true_and, and_true, Option.map_some, Option.map_none, x_ev_iff q1, e18, h1]
theorem r_lastsOf (hd : 7 ≤ d) {s : xS} {acts : List Int32} (hR : refW s T acts) (hK : tOk T) (hr : aRun T (aBegin T) acts = some A) (n : Int32) : ∃ s', x_ev g_M P d 320 [.ref 110, .int n] (mkH xs s) (some (.int (wtr T n 1000 1 A.2.2.1)), mkH xs s') ∧ offR s s' := by
  obtain ⟨d, rfl⟩ := x_1 (d := d) (by omega)
  obtain ⟨s1, q1, q2, q3⟩ := r_asItIs (P := P) (d := d) (xs := xs) (by omega) hR hK hr
  obtain ⟨s', z1, z2⟩ := r_lastsL (P := P) (d := d) (xs := xs) (T := T) (A := A) (by omega) n 1000 1 s1 A.2.2.1 (by omega) (q2.T hR.1) q3
  refine ⟨s', ?_, q2.tr z2⟩
  rw [x_ev_in rfl (Nat.le_of_ble_eq_true rfl)]
  rw [show x_ent (x_nL g_M 320) [.ref 110, .int n] = [some (.ref 110), some (.int n), none] from rfl]
  simp only [w_Ref_lastsOf_0, w_Ref_lastsOf_4, w_Ref_lastsOf_13, w_Ref_lastsOf_17, w_Ref_lastsOf_21, w_Ref_lastsOf_25, w_Ref_lastsOf_27, w_Ref_lastsOf_32, w_Ref_lastsOf_37, w_Ref_lastsOf_43, c_110, f_110_0, p_110_0, f_110_1, f_110_2, f_110_3, f_110_4, f_110_5, p_110_5, f_110_6, f_110_7, p_110_7, f_110_8, p_110_8, f_110_9, p_110_9, f_110_10, p_110_10, f_110_11, p_110_11, f_110_12, p_110_12, f_110_13, p_110_13, f_110_14, f_110_15, f_110_16, p_110_16, f_110_17, f_110_18, p_110_18, f_110_19, p_110_19, f_110_20, f_110_21, p_110_21, f_110_22, p_110_22, f_110_23, f_110_24, f_110_25, p_110_25, f_110_26, f_110_27, f_110_28, f_110_29, f_110_30, f_110_31, p_110_31, f_110_32, p_110_32, f_110_33, p_110_33, f_110_34, p_110_34, f_110_35, f_110_36, f_110_37, f_110_38, Option.some.injEq, exists_eq_left', exists_eq_left, Option.toList_some, Option.toList_none, List.cons_append, List.nil_append, true_and, and_true, Option.map_some, Option.map_none, x_ev_iff q1]
  exact z1
theorem r_yieldsL (hd : 7 ≤ d) (hK : tOk T) {acts : List Int32} (hr : aRun T (aBegin T) acts = some A) : ∀ (n : Nat) (s : xS), n ≤ 99 → refW s T acts → ∃ s', x_R (x_ev g_M P d) 322 (13, [some (.ref 110), some (.int (nI n))], [], mkH xs s) (some (.int (nI (yl T A.2.2.1 n))), mkH xs s') ∧ offR s s' := by
  have hO := aOk_run hK _ _ _ (aOk_begin hK) hr
  intro n
  induction n with
  | zero =>
    intro s _ hR
    obtain ⟨s1, q1, q2⟩ := r_lastsOf (P := P) (d := d) (xs := xs) hd hR hK hr (nI 0)
    have e : wtr T (nI 0) 1000 1 A.2.2.1 = -1 := wtr_0 hK _ _ _ hO.2.1.1 hO.2.1.2
    rw [e] at q1
    refine ⟨s1, ?_, q2⟩
    simp only [w_Ref_yields_0, w_Ref_yields_4, w_Ref_yields_7, w_Ref_yields_10, w_Ref_yields_18, w_Ref_yields_22, w_Ref_yields_28, w_Ref_yields_13 (l1 := nI 0), c_110, f_110_0, p_110_0, f_110_1, f_110_2, f_110_3, f_110_4, f_110_5, p_110_5, f_110_6, f_110_7, p_110_7, f_110_8, p_110_8, f_110_9, p_110_9, f_110_10, p_110_10, f_110_11, p_110_11, f_110_12, p_110_12, f_110_13, p_110_13, f_110_14, f_110_15, f_110_16, p_110_16, f_110_17, f_110_18, p_110_18, f_110_19, p_110_19, f_110_20, f_110_21, p_110_21, f_110_22, p_110_22, f_110_23, f_110_24, f_110_25, p_110_25, f_110_26, f_110_27, f_110_28, f_110_29, f_110_30, f_110_31, p_110_31, f_110_32, p_110_32, f_110_33, p_110_33, f_110_34, p_110_34, f_110_35, f_110_36, f_110_37, f_110_38, Option.some.injEq, exists_eq_left', exists_eq_left, Option.toList_some, Option.toList_none, List.cons_append, List.nil_append, true_and, and_true, Option.map_some, Option.map_none, x_ev_iff q1, if_true, yl]
  | succ n ih =>
    intro s hn hR
    obtain ⟨s1, q1, q2⟩ := r_lastsOf (P := P) (d := d) (xs := xs) hd hR hK hr (nI (n + 1))
    rw [yl]
    by_cases h1 : wtr T (nI (n + 1)) 1000 1 A.2.2.1 = -1
    · rw [if_pos h1]
      rw [h1] at q1
      refine ⟨s1, ?_, q2⟩
      simp only [w_Ref_yields_0, w_Ref_yields_4, w_Ref_yields_7, w_Ref_yields_10, w_Ref_yields_18, w_Ref_yields_22, w_Ref_yields_28, w_Ref_yields_13 (l1 := nI (n + 1)), c_110, f_110_0, p_110_0, f_110_1, f_110_2, f_110_3, f_110_4, f_110_5, p_110_5, f_110_6, f_110_7, p_110_7, f_110_8, p_110_8, f_110_9, p_110_9, f_110_10, p_110_10, f_110_11, p_110_11, f_110_12, p_110_12, f_110_13, p_110_13, f_110_14, f_110_15, f_110_16, p_110_16, f_110_17, f_110_18, p_110_18, f_110_19, p_110_19, f_110_20, f_110_21, p_110_21, f_110_22, p_110_22, f_110_23, f_110_24, f_110_25, p_110_25, f_110_26, f_110_27, f_110_28, f_110_29, f_110_30, f_110_31, p_110_31, f_110_32, p_110_32, f_110_33, p_110_33, f_110_34, p_110_34, f_110_35, f_110_36, f_110_37, f_110_38, Option.some.injEq, exists_eq_left', exists_eq_left, Option.toList_some, Option.toList_none, List.cons_append, List.nil_append, true_and, and_true, Option.map_some, Option.map_none, x_ev_iff q1, if_true]
    · rw [if_neg h1]
      obtain ⟨s2, z1, z2⟩ := ih s1 (by omega) (refW_at (q2.1 111 (by omega) (by omega) (by omega)) hR)
      refine ⟨s2, ?_, q2.tr z2⟩
      simp only [w_Ref_yields_0, w_Ref_yields_4, w_Ref_yields_7, w_Ref_yields_10, w_Ref_yields_18, w_Ref_yields_22, w_Ref_yields_28, w_Ref_yields_13 (l1 := nI (n + 1)), c_110, f_110_0, p_110_0, f_110_1, f_110_2, f_110_3, f_110_4, f_110_5, p_110_5, f_110_6, f_110_7, p_110_7, f_110_8, p_110_8, f_110_9, p_110_9, f_110_10, p_110_10, f_110_11, p_110_11, f_110_12, p_110_12, f_110_13, p_110_13, f_110_14, f_110_15, f_110_16, p_110_16, f_110_17, f_110_18, p_110_18, f_110_19, p_110_19, f_110_20, f_110_21, p_110_21, f_110_22, p_110_22, f_110_23, f_110_24, f_110_25, p_110_25, f_110_26, f_110_27, f_110_28, f_110_29, f_110_30, f_110_31, p_110_31, f_110_32, p_110_32, f_110_33, p_110_33, f_110_34, p_110_34, f_110_35, f_110_36, f_110_37, f_110_38, Option.some.injEq, exists_eq_left', exists_eq_left, Option.toList_some, Option.toList_none, List.cons_append, List.nil_append, true_and, and_true, Option.map_some, Option.map_none, x_ev_iff q1, h1, if_false, pk_m1]
      exact z1
end WATER
section WATER2
variable {P : Nat → List Value → Option Value} {W : Wd}
set_option maxHeartbeats 4000000 in
theorem k_lasts (h : wOk W) (x : Int32) : ask2 P 172 321 [.int x] W := by
  obtain ⟨hK, hl60, hr, hrest⟩ := h; have hW := hK.1; have hO := aOk_run hK _ _ _ (aOk_begin hK) hr; have hAw := hO.1; have w1 := hW.1; have w2 := hW.2.1; have h9 : 9 ∈ g_SP := by decide
  have e0 : x.toInt64 < 0 ↔ x < 0 := w_lt x 0
  have e1 : (99 : Int64) < x.toInt64 ↔ 99 < x := w_lt 99 x
  by_cases h1 : tLi (wT W) ≤ 0
  · refine ⟨-2, cAsk0 ?_, rAsk0 ?_⟩
    · intro d xs s hd hC; obtain ⟨⟨hT, hA, hn, hacts⟩, -⟩ := hC
      obtain ⟨d, rfl⟩ := x_1 (d := d) (by omega)
      rw [x_ev_in rfl (Nat.le_of_ble_eq_true rfl)]
      rw [show x_ent (x_nL g_M 172) [.ref 1, .int x] = [some (.ref 1), some (.int x)] from rfl]
      simp only [w_Top_lasts_0, w_Top_lasts_4, w_Top_lasts_7, w_Top_lasts_10, w_Top_lasts_14, w_Top_lasts_20, w_Top_lasts_23, w_Top_lasts_27, w_Top_lasts_31, w_Top_lasts_34, w_Top_lasts_38, c_1, f_1_0, f_1_1, p_1_1, f_1_2, f_1_3, f_1_4, f_1_5, f_1_6, p_1_6, f_1_7, f_1_8, f_1_9, f_1_10, f_1_11, f_1_12, f_1_13, f_1_14, c_3, f_3_0, p_3_0, f_3_1, p_3_1, f_3_2, p_3_2, f_3_3, p_3_3, f_3_4, p_3_4, f_3_5, p_3_5, f_3_6, p_3_6, f_3_7, p_3_7, f_3_8, p_3_8, f_3_9, f_3_10, f_3_11, f_3_12, f_3_13, c_9, f_9_0, f_9_1, p_9_1, f_9_2, p_9_2, f_9_3, p_9_3, f_9_4, p_9_4, f_9_5, f_9_6, Option.some.injEq, exists_eq_left', exists_eq_left, Option.toList_some, Option.toList_none, List.cons_append, List.nil_append, true_and, and_true, Option.map_some, Option.map_none, t_isTold (d := d) (by omega) hT, t_hasPerson (d := d) (by omega) hT, t_hasMatter (d := d) (by omega) hT, t_hasSet (d := d) (by omega) hT hW, t_bitOf (d := d) (by omega), t_isClosed (d := d) (by omega) hT hW, t_sumOfAll (d := d) (by omega) hT hW, s_openOnes (d := d) (by omega) h9 hT hW hA, s_wishers (d := d) (by omega) h9 hT hW hA hAw, s_allCups (d := d) (by omega) h9 hT hW hA, h1, if_true]
    · intro d xs s hd hC; obtain ⟨hR, -⟩ := hC; have hT := hR.1
      obtain ⟨d, rfl⟩ := x_1 (d := d) (by omega)
      rw [x_ev_in rfl (Nat.le_of_ble_eq_true rfl)]
      rw [show x_ent (x_nL g_M 321) [.ref 110, .int x] = [some (.ref 110), some (.int x)] from rfl]
      simp only [w_Ref_lasts_0, w_Ref_lasts_4, w_Ref_lasts_7, w_Ref_lasts_16, w_Ref_lasts_19, w_Ref_lasts_24, w_Ref_lasts_27, w_Ref_lasts_29, c_110, f_110_0, p_110_0, f_110_1, f_110_2, f_110_3, f_110_4, f_110_5, p_110_5, f_110_6, f_110_7, p_110_7, f_110_8, p_110_8, f_110_9, p_110_9, f_110_10, p_110_10, f_110_11, p_110_11, f_110_12, p_110_12, f_110_13, p_110_13, f_110_14, f_110_15, f_110_16, p_110_16, f_110_17, f_110_18, p_110_18, f_110_19, p_110_19, f_110_20, f_110_21, p_110_21, f_110_22, p_110_22, f_110_23, f_110_24, f_110_25, p_110_25, f_110_26, f_110_27, f_110_28, f_110_29, f_110_30, f_110_31, p_110_31, f_110_32, p_110_32, f_110_33, p_110_33, f_110_34, p_110_34, f_110_35, f_110_36, f_110_37, f_110_38, Option.some.injEq, exists_eq_left', exists_eq_left, Option.toList_some, Option.toList_none, List.cons_append, List.nil_append, true_and, and_true, Option.map_some, Option.map_none, r_isTown (d := d) (by omega) hT, r_isPerson (d := d) (by omega) hT hW, r_isMatterI (d := d) (by omega) hT hW, r_isSet (d := d) (by omega) hT hW, r_allMatters (d := d) (by omega) hT hW, r_isClosed (d := d) (by omega) hT hW, r_sumOfAll (d := d) (by omega) hT hW, r_restsOf (d := d) (by omega) hT hW, r_in (d := d) (by omega), r_bit (d := d) (by omega), r_bits (d := d) (by omega), h1, if_true]
  by_cases h2 : x < 0
  · refine ⟨-2, cAsk0 ?_, rAsk0 ?_⟩
    · intro d xs s hd hC; obtain ⟨⟨hT, hA, hn, hacts⟩, -⟩ := hC
      obtain ⟨d, rfl⟩ := x_1 (d := d) (by omega)
      rw [x_ev_in rfl (Nat.le_of_ble_eq_true rfl)]
      rw [show x_ent (x_nL g_M 172) [.ref 1, .int x] = [some (.ref 1), some (.int x)] from rfl]
      simp only [w_Top_lasts_0, w_Top_lasts_4, w_Top_lasts_7, w_Top_lasts_10, w_Top_lasts_14, w_Top_lasts_20, w_Top_lasts_23, w_Top_lasts_27, w_Top_lasts_31, w_Top_lasts_34, w_Top_lasts_38, c_1, f_1_0, f_1_1, p_1_1, f_1_2, f_1_3, f_1_4, f_1_5, f_1_6, p_1_6, f_1_7, f_1_8, f_1_9, f_1_10, f_1_11, f_1_12, f_1_13, f_1_14, c_3, f_3_0, p_3_0, f_3_1, p_3_1, f_3_2, p_3_2, f_3_3, p_3_3, f_3_4, p_3_4, f_3_5, p_3_5, f_3_6, p_3_6, f_3_7, p_3_7, f_3_8, p_3_8, f_3_9, f_3_10, f_3_11, f_3_12, f_3_13, c_9, f_9_0, f_9_1, p_9_1, f_9_2, p_9_2, f_9_3, p_9_3, f_9_4, p_9_4, f_9_5, f_9_6, Option.some.injEq, exists_eq_left', exists_eq_left, Option.toList_some, Option.toList_none, List.cons_append, List.nil_append, true_and, and_true, Option.map_some, Option.map_none, t_isTold (d := d) (by omega) hT, t_hasPerson (d := d) (by omega) hT, t_hasMatter (d := d) (by omega) hT, t_hasSet (d := d) (by omega) hT hW, t_bitOf (d := d) (by omega), t_isClosed (d := d) (by omega) hT hW, t_sumOfAll (d := d) (by omega) hT hW, s_openOnes (d := d) (by omega) h9 hT hW hA, s_wishers (d := d) (by omega) h9 hT hW hA hAw, s_allCups (d := d) (by omega) h9 hT hW hA, h1, show ¬ ((1 : Int32) = 0) by decide, if_false, h2, if_true]
    · intro d xs s hd hC; obtain ⟨hR, -⟩ := hC; have hT := hR.1
      obtain ⟨d, rfl⟩ := x_1 (d := d) (by omega)
      rw [x_ev_in rfl (Nat.le_of_ble_eq_true rfl)]
      rw [show x_ent (x_nL g_M 321) [.ref 110, .int x] = [some (.ref 110), some (.int x)] from rfl]
      simp only [w_Ref_lasts_0, w_Ref_lasts_4, w_Ref_lasts_7, w_Ref_lasts_16, w_Ref_lasts_19, w_Ref_lasts_24, w_Ref_lasts_27, w_Ref_lasts_29, c_110, f_110_0, p_110_0, f_110_1, f_110_2, f_110_3, f_110_4, f_110_5, p_110_5, f_110_6, f_110_7, p_110_7, f_110_8, p_110_8, f_110_9, p_110_9, f_110_10, p_110_10, f_110_11, p_110_11, f_110_12, p_110_12, f_110_13, p_110_13, f_110_14, f_110_15, f_110_16, p_110_16, f_110_17, f_110_18, p_110_18, f_110_19, p_110_19, f_110_20, f_110_21, p_110_21, f_110_22, p_110_22, f_110_23, f_110_24, f_110_25, p_110_25, f_110_26, f_110_27, f_110_28, f_110_29, f_110_30, f_110_31, p_110_31, f_110_32, p_110_32, f_110_33, p_110_33, f_110_34, p_110_34, f_110_35, f_110_36, f_110_37, f_110_38, Option.some.injEq, exists_eq_left', exists_eq_left, Option.toList_some, Option.toList_none, List.cons_append, List.nil_append, true_and, and_true, Option.map_some, Option.map_none, r_isTown (d := d) (by omega) hT, r_isPerson (d := d) (by omega) hT hW, r_isMatterI (d := d) (by omega) hT hW, r_isSet (d := d) (by omega) hT hW, r_allMatters (d := d) (by omega) hT hW, r_isClosed (d := d) (by omega) hT hW, r_sumOfAll (d := d) (by omega) hT hW, r_restsOf (d := d) (by omega) hT hW, r_in (d := d) (by omega), r_bit (d := d) (by omega), r_bits (d := d) (by omega), h1, show ¬ ((1 : Int32) = 0) by decide, if_false, e0, h2, if_true]
  by_cases h3 : x ≤ 99
  · have h3' : ¬ 99 < x := Int32.not_lt.mpr h3
    refine ⟨wtr (wT W) x 1000 1 (wA W).2.2.1, cAsk0 ?_, rAsk ?_⟩
    · intro d xs s hd hC; obtain ⟨⟨hT, hA, hn, hacts⟩, -⟩ := hC
      have a3 := hA.2.2.1
      obtain ⟨d, rfl⟩ := x_1 (d := d) (by omega)
      rw [x_ev_in rfl (Nat.le_of_ble_eq_true rfl)]
      rw [show x_ent (x_nL g_M 172) [.ref 1, .int x] = [some (.ref 1), some (.int x)] from rfl]
      simp only [w_Top_lasts_0, w_Top_lasts_4, w_Top_lasts_7, w_Top_lasts_10, w_Top_lasts_14, w_Top_lasts_20, w_Top_lasts_23, w_Top_lasts_27, w_Top_lasts_31, w_Top_lasts_34, w_Top_lasts_38, c_1, f_1_0, f_1_1, p_1_1, f_1_2, f_1_3, f_1_4, f_1_5, f_1_6, p_1_6, f_1_7, f_1_8, f_1_9, f_1_10, f_1_11, f_1_12, f_1_13, f_1_14, c_3, f_3_0, p_3_0, f_3_1, p_3_1, f_3_2, p_3_2, f_3_3, p_3_3, f_3_4, p_3_4, f_3_5, p_3_5, f_3_6, p_3_6, f_3_7, p_3_7, f_3_8, p_3_8, f_3_9, f_3_10, f_3_11, f_3_12, f_3_13, c_9, f_9_0, f_9_1, p_9_1, f_9_2, p_9_2, f_9_3, p_9_3, f_9_4, p_9_4, f_9_5, f_9_6, c_72, f_72_0, f_72_1, f_72_2, p_72_2, f_72_3, p_72_3, f_72_4, p_72_4, Option.some.injEq, exists_eq_left', exists_eq_left, Option.toList_some, Option.toList_none, List.cons_append, List.nil_append, true_and, and_true, Option.map_some, Option.map_none, t_isTold (d := d) (by omega) hT, t_hasPerson (d := d) (by omega) hT, t_hasMatter (d := d) (by omega) hT, t_hasSet (d := d) (by omega) hT hW, t_bitOf (d := d) (by omega), t_isClosed (d := d) (by omega) hT hW, t_sumOfAll (d := d) (by omega) hT hW, s_openOnes (d := d) (by omega) h9 hT hW hA, s_wishers (d := d) (by omega) h9 hT hW hA hAw, s_allCups (d := d) (by omega) h9 hT hW hA, h1, show ¬ ((1 : Int32) = 0) by decide, if_false, h2, h3, if_true, a3, s_firstDry (d := d) (by omega) hT]
    · intro d xs s hd hC; obtain ⟨hR, -⟩ := hC; have hT := hR.1
      obtain ⟨d, rfl⟩ := x_1 (d := d) (by omega)
      obtain ⟨s', q1, q2⟩ := r_lastsOf (P := P) (d := d) (xs := xs) (by omega) hR hK hr x
      refine ⟨s', ?_, q2.ke⟩
      rw [x_ev_in rfl (Nat.le_of_ble_eq_true rfl)]
      rw [show x_ent (x_nL g_M 321) [.ref 110, .int x] = [some (.ref 110), some (.int x)] from rfl]
      simp only [w_Ref_lasts_0, w_Ref_lasts_4, w_Ref_lasts_7, w_Ref_lasts_16, w_Ref_lasts_19, w_Ref_lasts_24, w_Ref_lasts_27, w_Ref_lasts_29, c_110, f_110_0, p_110_0, f_110_1, f_110_2, f_110_3, f_110_4, f_110_5, p_110_5, f_110_6, f_110_7, p_110_7, f_110_8, p_110_8, f_110_9, p_110_9, f_110_10, p_110_10, f_110_11, p_110_11, f_110_12, p_110_12, f_110_13, p_110_13, f_110_14, f_110_15, f_110_16, p_110_16, f_110_17, f_110_18, p_110_18, f_110_19, p_110_19, f_110_20, f_110_21, p_110_21, f_110_22, p_110_22, f_110_23, f_110_24, f_110_25, p_110_25, f_110_26, f_110_27, f_110_28, f_110_29, f_110_30, f_110_31, p_110_31, f_110_32, p_110_32, f_110_33, p_110_33, f_110_34, p_110_34, f_110_35, f_110_36, f_110_37, f_110_38, Option.some.injEq, exists_eq_left', exists_eq_left, Option.toList_some, Option.toList_none, List.cons_append, List.nil_append, true_and, and_true, Option.map_some, Option.map_none, r_isTown (d := d) (by omega) hT, r_isPerson (d := d) (by omega) hT hW, r_isMatterI (d := d) (by omega) hT hW, r_isSet (d := d) (by omega) hT hW, r_allMatters (d := d) (by omega) hT hW, r_isClosed (d := d) (by omega) hT hW, r_sumOfAll (d := d) (by omega) hT hW, r_restsOf (d := d) (by omega) hT hW, r_in (d := d) (by omega), r_bit (d := d) (by omega), r_bits (d := d) (by omega), h1, show ¬ ((1 : Int32) = 0) by decide, if_false, e0, e1, h2, h3', x_ev_iff q1]
  · have h3' : 99 < x := Int32.not_le.mp h3
    refine ⟨-2, cAsk0 ?_, rAsk0 ?_⟩
    · intro d xs s hd hC; obtain ⟨⟨hT, hA, hn, hacts⟩, -⟩ := hC
      obtain ⟨d, rfl⟩ := x_1 (d := d) (by omega)
      rw [x_ev_in rfl (Nat.le_of_ble_eq_true rfl)]
      rw [show x_ent (x_nL g_M 172) [.ref 1, .int x] = [some (.ref 1), some (.int x)] from rfl]
      simp only [w_Top_lasts_0, w_Top_lasts_4, w_Top_lasts_7, w_Top_lasts_10, w_Top_lasts_14, w_Top_lasts_20, w_Top_lasts_23, w_Top_lasts_27, w_Top_lasts_31, w_Top_lasts_34, w_Top_lasts_38, c_1, f_1_0, f_1_1, p_1_1, f_1_2, f_1_3, f_1_4, f_1_5, f_1_6, p_1_6, f_1_7, f_1_8, f_1_9, f_1_10, f_1_11, f_1_12, f_1_13, f_1_14, c_3, f_3_0, p_3_0, f_3_1, p_3_1, f_3_2, p_3_2, f_3_3, p_3_3, f_3_4, p_3_4, f_3_5, p_3_5, f_3_6, p_3_6, f_3_7, p_3_7, f_3_8, p_3_8, f_3_9, f_3_10, f_3_11, f_3_12, f_3_13, c_9, f_9_0, f_9_1, p_9_1, f_9_2, p_9_2, f_9_3, p_9_3, f_9_4, p_9_4, f_9_5, f_9_6, Option.some.injEq, exists_eq_left', exists_eq_left, Option.toList_some, Option.toList_none, List.cons_append, List.nil_append, true_and, and_true, Option.map_some, Option.map_none, t_isTold (d := d) (by omega) hT, t_hasPerson (d := d) (by omega) hT, t_hasMatter (d := d) (by omega) hT, t_hasSet (d := d) (by omega) hT hW, t_bitOf (d := d) (by omega), t_isClosed (d := d) (by omega) hT hW, t_sumOfAll (d := d) (by omega) hT hW, s_openOnes (d := d) (by omega) h9 hT hW hA, s_wishers (d := d) (by omega) h9 hT hW hA hAw, s_allCups (d := d) (by omega) h9 hT hW hA, h1, show ¬ ((1 : Int32) = 0) by decide, if_false, h2, h3]
    · intro d xs s hd hC; obtain ⟨hR, -⟩ := hC; have hT := hR.1
      obtain ⟨d, rfl⟩ := x_1 (d := d) (by omega)
      rw [x_ev_in rfl (Nat.le_of_ble_eq_true rfl)]
      rw [show x_ent (x_nL g_M 321) [.ref 110, .int x] = [some (.ref 110), some (.int x)] from rfl]
      simp only [w_Ref_lasts_0, w_Ref_lasts_4, w_Ref_lasts_7, w_Ref_lasts_16, w_Ref_lasts_19, w_Ref_lasts_24, w_Ref_lasts_27, w_Ref_lasts_29, c_110, f_110_0, p_110_0, f_110_1, f_110_2, f_110_3, f_110_4, f_110_5, p_110_5, f_110_6, f_110_7, p_110_7, f_110_8, p_110_8, f_110_9, p_110_9, f_110_10, p_110_10, f_110_11, p_110_11, f_110_12, p_110_12, f_110_13, p_110_13, f_110_14, f_110_15, f_110_16, p_110_16, f_110_17, f_110_18, p_110_18, f_110_19, p_110_19, f_110_20, f_110_21, p_110_21, f_110_22, p_110_22, f_110_23, f_110_24, f_110_25, p_110_25, f_110_26, f_110_27, f_110_28, f_110_29, f_110_30, f_110_31, p_110_31, f_110_32, p_110_32, f_110_33, p_110_33, f_110_34, p_110_34, f_110_35, f_110_36, f_110_37, f_110_38, Option.some.injEq, exists_eq_left', exists_eq_left, Option.toList_some, Option.toList_none, List.cons_append, List.nil_append, true_and, and_true, Option.map_some, Option.map_none, r_isTown (d := d) (by omega) hT, r_isPerson (d := d) (by omega) hT hW, r_isMatterI (d := d) (by omega) hT hW, r_isSet (d := d) (by omega) hT hW, r_allMatters (d := d) (by omega) hT hW, r_isClosed (d := d) (by omega) hT hW, r_sumOfAll (d := d) (by omega) hT hW, r_restsOf (d := d) (by omega) hT hW, r_in (d := d) (by omega), r_bit (d := d) (by omega), r_bits (d := d) (by omega), h1, show ¬ ((1 : Int32) = 0) by decide, if_false, e0, e1, h2, h3', if_true]
set_option maxHeartbeats 4000000 in
theorem k_yields (h : wOk W) : ask2 P 173 322 [] W := by
  obtain ⟨hK, hl60, hr, hrest⟩ := h; have hW := hK.1; have hO := aOk_run hK _ _ _ (aOk_begin hK) hr; have hAw := hO.1; have w1 := hW.1; have w2 := hW.2.1; have h9 : 9 ∈ g_SP := by decide
  by_cases h1 : tLi (wT W) ≤ 0
  · refine ⟨-2, cAsk0 ?_, rAsk0 ?_⟩
    · intro d xs s hd hC; obtain ⟨⟨hT, hA, hn, hacts⟩, -⟩ := hC
      obtain ⟨d, rfl⟩ := x_1 (d := d) (by omega)
      rw [x_ev_in rfl (Nat.le_of_ble_eq_true rfl)]
      rw [show x_ent (x_nL g_M 173) [.ref 1] = [some (.ref 1)] from rfl]
      simp only [w_Top_yields_0, w_Top_yields_4, w_Top_yields_7, w_Top_yields_10, w_Top_yields_14, w_Top_yields_18, w_Top_yields_21, w_Top_yields_24, w_Top_yields_27, w_Top_yields_29, c_1, f_1_0, f_1_1, p_1_1, f_1_2, f_1_3, f_1_4, f_1_5, f_1_6, p_1_6, f_1_7, f_1_8, f_1_9, f_1_10, f_1_11, f_1_12, f_1_13, f_1_14, c_3, f_3_0, p_3_0, f_3_1, p_3_1, f_3_2, p_3_2, f_3_3, p_3_3, f_3_4, p_3_4, f_3_5, p_3_5, f_3_6, p_3_6, f_3_7, p_3_7, f_3_8, p_3_8, f_3_9, f_3_10, f_3_11, f_3_12, f_3_13, c_9, f_9_0, f_9_1, p_9_1, f_9_2, p_9_2, f_9_3, p_9_3, f_9_4, p_9_4, f_9_5, f_9_6, Option.some.injEq, exists_eq_left', exists_eq_left, Option.toList_some, Option.toList_none, List.cons_append, List.nil_append, true_and, and_true, Option.map_some, Option.map_none, t_isTold (d := d) (by omega) hT, t_hasPerson (d := d) (by omega) hT, t_hasMatter (d := d) (by omega) hT, t_hasSet (d := d) (by omega) hT hW, t_bitOf (d := d) (by omega), t_isClosed (d := d) (by omega) hT hW, t_sumOfAll (d := d) (by omega) hT hW, s_openOnes (d := d) (by omega) h9 hT hW hA, s_wishers (d := d) (by omega) h9 hT hW hA hAw, s_allCups (d := d) (by omega) h9 hT hW hA, h1, if_true]
    · intro d xs s hd hC; obtain ⟨hR, -⟩ := hC; have hT := hR.1
      obtain ⟨d, rfl⟩ := x_1 (d := d) (by omega)
      rw [x_ev_in rfl (Nat.le_of_ble_eq_true rfl)]
      rw [show x_ent (x_nL g_M 322) [.ref 110] = [some (.ref 110), none] from rfl]
      simp only [w_Ref_yields_0, w_Ref_yields_4, w_Ref_yields_7, w_Ref_yields_10, w_Ref_yields_18, w_Ref_yields_22, w_Ref_yields_28, c_110, f_110_0, p_110_0, f_110_1, f_110_2, f_110_3, f_110_4, f_110_5, p_110_5, f_110_6, f_110_7, p_110_7, f_110_8, p_110_8, f_110_9, p_110_9, f_110_10, p_110_10, f_110_11, p_110_11, f_110_12, p_110_12, f_110_13, p_110_13, f_110_14, f_110_15, f_110_16, p_110_16, f_110_17, f_110_18, p_110_18, f_110_19, p_110_19, f_110_20, f_110_21, p_110_21, f_110_22, p_110_22, f_110_23, f_110_24, f_110_25, p_110_25, f_110_26, f_110_27, f_110_28, f_110_29, f_110_30, f_110_31, p_110_31, f_110_32, p_110_32, f_110_33, p_110_33, f_110_34, p_110_34, f_110_35, f_110_36, f_110_37, f_110_38, Option.some.injEq, exists_eq_left', exists_eq_left, Option.toList_some, Option.toList_none, List.cons_append, List.nil_append, true_and, and_true, Option.map_some, Option.map_none, r_isTown (d := d) (by omega) hT, r_isPerson (d := d) (by omega) hT hW, r_isMatterI (d := d) (by omega) hT hW, r_isSet (d := d) (by omega) hT hW, r_allMatters (d := d) (by omega) hT hW, r_isClosed (d := d) (by omega) hT hW, r_sumOfAll (d := d) (by omega) hT hW, r_restsOf (d := d) (by omega) hT hW, r_in (d := d) (by omega), r_bit (d := d) (by omega), r_bits (d := d) (by omega), h1, if_true, not_true_eq_false, if_false]
  · refine ⟨nI (yl (wT W) (wA W).2.2.1 99), cAsk0 ?_, rAsk ?_⟩
    · intro d xs s hd hC; obtain ⟨⟨hT, hA, hn, hacts⟩, -⟩ := hC
      have a3 := hA.2.2.1
      obtain ⟨d, rfl⟩ := x_1 (d := d) (by omega)
      rw [x_ev_in rfl (Nat.le_of_ble_eq_true rfl)]
      rw [show x_ent (x_nL g_M 173) [.ref 1] = [some (.ref 1)] from rfl]
      simp only [w_Top_yields_0, w_Top_yields_4, w_Top_yields_7, w_Top_yields_10, w_Top_yields_14, w_Top_yields_18, w_Top_yields_21, w_Top_yields_24, w_Top_yields_27, w_Top_yields_29, c_1, f_1_0, f_1_1, p_1_1, f_1_2, f_1_3, f_1_4, f_1_5, f_1_6, p_1_6, f_1_7, f_1_8, f_1_9, f_1_10, f_1_11, f_1_12, f_1_13, f_1_14, c_3, f_3_0, p_3_0, f_3_1, p_3_1, f_3_2, p_3_2, f_3_3, p_3_3, f_3_4, p_3_4, f_3_5, p_3_5, f_3_6, p_3_6, f_3_7, p_3_7, f_3_8, p_3_8, f_3_9, f_3_10, f_3_11, f_3_12, f_3_13, c_9, f_9_0, f_9_1, p_9_1, f_9_2, p_9_2, f_9_3, p_9_3, f_9_4, p_9_4, f_9_5, f_9_6, c_72, f_72_0, f_72_1, f_72_2, p_72_2, f_72_3, p_72_3, f_72_4, p_72_4, Option.some.injEq, exists_eq_left', exists_eq_left, Option.toList_some, Option.toList_none, List.cons_append, List.nil_append, true_and, and_true, Option.map_some, Option.map_none, t_isTold (d := d) (by omega) hT, t_hasPerson (d := d) (by omega) hT, t_hasMatter (d := d) (by omega) hT, t_hasSet (d := d) (by omega) hT hW, t_bitOf (d := d) (by omega), t_isClosed (d := d) (by omega) hT hW, t_sumOfAll (d := d) (by omega) hT hW, s_openOnes (d := d) (by omega) h9 hT hW hA, s_wishers (d := d) (by omega) h9 hT hW hA hAw, s_allCups (d := d) (by omega) h9 hT hW hA, h1, show ¬ ((1 : Int32) = 0) by decide, if_false, a3, s_mostYield (d := d) (by omega) hT]
    · intro d xs s hd hC; obtain ⟨hR, -⟩ := hC; have hT := hR.1
      obtain ⟨d, rfl⟩ := x_1 (d := d) (by omega)
      obtain ⟨s', q1, q2⟩ := r_yieldsL (P := P) (d := d) (xs := xs) (by omega) hK hr 99 s (by omega) hR
      refine ⟨s', ?_, q2.ke⟩
      rw [x_ev_in rfl (Nat.le_of_ble_eq_true rfl)]
      rw [show x_ent (x_nL g_M 322) [.ref 110] = [some (.ref 110), none] from rfl]
      simp only [w_Ref_yields_0, w_Ref_yields_4, w_Ref_yields_7, w_Ref_yields_10, w_Ref_yields_18, w_Ref_yields_22, w_Ref_yields_28, c_110, f_110_0, p_110_0, f_110_1, f_110_2, f_110_3, f_110_4, f_110_5, p_110_5, f_110_6, f_110_7, p_110_7, f_110_8, p_110_8, f_110_9, p_110_9, f_110_10, p_110_10, f_110_11, p_110_11, f_110_12, p_110_12, f_110_13, p_110_13, f_110_14, f_110_15, f_110_16, p_110_16, f_110_17, f_110_18, p_110_18, f_110_19, p_110_19, f_110_20, f_110_21, p_110_21, f_110_22, p_110_22, f_110_23, f_110_24, f_110_25, p_110_25, f_110_26, f_110_27, f_110_28, f_110_29, f_110_30, f_110_31, p_110_31, f_110_32, p_110_32, f_110_33, p_110_33, f_110_34, p_110_34, f_110_35, f_110_36, f_110_37, f_110_38, Option.some.injEq, exists_eq_left', exists_eq_left, Option.toList_some, Option.toList_none, List.cons_append, List.nil_append, true_and, and_true, Option.map_some, Option.map_none, r_isTown (d := d) (by omega) hT, r_isPerson (d := d) (by omega) hT hW, r_isMatterI (d := d) (by omega) hT hW, r_isSet (d := d) (by omega) hT hW, r_allMatters (d := d) (by omega) hT hW, r_isClosed (d := d) (by omega) hT hW, r_sumOfAll (d := d) (by omega) hT hW, r_restsOf (d := d) (by omega) hT hW, r_in (d := d) (by omega), r_bit (d := d) (by omega), r_bits (d := d) (by omega), h1, show ¬ ((1 : Int32) = 0) by decide, if_false, not_false_eq_true, if_true]
      exact q1
end WATER2
