/-! THE READER of the reference: how it makes the TOWN (own work) -/
def frF (s : xS) (T : Tw) : Prop := (s.1 116 0 = tLe T ∧ s.1 116 1 = tSp T ∧ s.1 116 2 = tFr T ∧ s.1 116 3 = nI (tP T) ∧ s.1 116 4 = nI (tM T) ∧ s.1 116 5 = tLi T ∧ s.1 116 6 = 0) ∧ (∀ p, p < tP T → s.1 116 (7 + 2 * p) = tCu T p ∧ s.1 116 (8 + 2 * p) = b01 (tSt T p)) ∧ ∀ m, m < tM T → ∀ w, w < 7 → s.1 116 (19 + 7 * m + w) = tOf T m w
def offF (s s' : xS) : Prop := (∀ q, q ≠ 110 → q ≠ 116 → s'.1 q = s.1 q) ∧ (∀ k, k < 8 ∨ 13 < k → s'.1 110 k = s.1 110 k) ∧ s'.2 = s.2
theorem offF.rf {s : xS} : offF s s := ⟨fun _ _ _ => rfl, fun _ _ => rfl, rfl⟩
theorem offF.tr {s s' s'' : xS} (h : offF s s') (h2 : offF s' s'') : offF s s'' := ⟨fun q a c => (h2.1 q a c).trans (h.1 q a c), fun k a => (h2.2.1 k a).trans (h.2.1 k a), h2.2.2.trans h.2.2⟩
theorem offU.F {s s' : xS} (h : offU s s') : offF s s' := ⟨fun q a _ => h.1 q a, h.2.1, h.2.2⟩
theorem oC.F {k : Nat} {s s' : xS} (h : oC 116 k s s') : offF s s' := ⟨fun q _ c => h.1 q c, fun k _ => by rw [h.1 110 (by omega)], h.2.2⟩
theorem tpR_F {s s' : xS} {b : Nat → Int32} {n : Nat} (h : offF s s') (ht : tpR s b n) : tpR s' b n := ht.off (h.1 114 (by omega) (by omega))
theorem tkR_o {s s' : xS} {b : Nat → Int32} {n : Nat} {t : Tk} (h : s'.1 110 = s.1 110) (ht : tkR s b n t) : tkR s' b n t := by
  unfold tkR at *
  rw [h]
  exact ht
theorem frF_o {s s' : xS} {T : Tw} (h : s'.1 116 = s.1 116) (hf : frF s T) : frF s' T := by
  unfold frF at *
  rw [h]
  exact hf
theorem fr_P {s s' : xS} {T : Tw} {c : Int32} {st : Bool} (h6 : tP T < 6) (hf : frF s T) (h3 : s'.1 116 3 = nI (tP T + 1)) (hc : s'.1 116 (7 + 2 * tP T) = c) (hs : s'.1 116 (8 + 2 * tP T) = b01 st) (ho : ∀ j, j ≠ 3 → j ≠ 7 + 2 * tP T → j ≠ 8 + 2 * tP T → s'.1 116 j = s.1 116 j) : frF s' (tAddP T c st) := by
  obtain ⟨⟨a0, a1, a2, a3, a4, a5, a6⟩, hp, hm⟩ := hf
  refine ⟨⟨by rw [ho 0 (by omega) (by omega) (by omega)]; exact a0, by rw [ho 1 (by omega) (by omega) (by omega)]; exact a1, by rw [ho 2 (by omega) (by omega) (by omega)]; exact a2, h3, by rw [ho 4 (by omega) (by omega) (by omega)]; exact a4, by rw [ho 5 (by omega) (by omega) (by omega)]; exact a5, by rw [ho 6 (by omega) (by omega) (by omega)]; exact a6⟩, fun p hpp => ?_, fun m hmm w hw => ?_⟩
  · have hpp : p < tP T + 1 := hpp
    show s'.1 116 (7 + 2 * p) = (if p = tP T then c else tCu T p) ∧ s'.1 116 (8 + 2 * p) = b01 (if p = tP T then st else tSt T p)
    by_cases h : p = tP T
    · rw [if_pos h, if_pos h, h]; exact ⟨hc, hs⟩
    · rw [if_neg h, if_neg h, ho _ (by omega) (by omega) (by omega), ho _ (by omega) (by omega) (by omega)]
      exact hp p (by omega)
  · rw [ho _ (by omega) (by omega) (by omega)]
    have := hm m hmm w hw
    rw [this]
    rcases (show w = 0 ∨ w = 1 ∨ w = 2 ∨ w = 3 ∨ w = 4 ∨ w = 5 ∨ w = 6 by omega) with rfl | rfl | rfl | rfl | rfl | rfl | rfl <;> rfl
theorem fr_M {s s' : xS} {T : Tw} {p0 g0 p1 g1 : Int32} {x : Int32 × Bool × Bool} (h8 : tM T < 8) (hf : frF s T) (hp0 : p0 = nI p0.toNatClampNeg) (hp1 : p1 = nI p1.toNatClampNeg) (h4 : s'.1 116 4 = nI (tM T + 1)) (e0 : s'.1 116 (19 + 7 * tM T) = p0) (e1 : s'.1 116 (19 + 7 * tM T + 1) = p1) (e2 : s'.1 116 (19 + 7 * tM T + 2) = g0) (e3 : s'.1 116 (19 + 7 * tM T + 3) = g1) (e4 : s'.1 116 (19 + 7 * tM T + 4) = x.1) (e5 : s'.1 116 (19 + 7 * tM T + 5) = b01 x.2.1) (e6 : s'.1 116 (19 + 7 * tM T + 6) = b01 x.2.2) (hP6 : tP T ≤ 6) (ho : ∀ j, j ≠ 4 → j < 19 + 7 * tM T ∨ 19 + 7 * tM T + 7 ≤ j → s'.1 116 j = s.1 116 j) : frF s' (tAddM T p0 g0 p1 g1 x) := by
  obtain ⟨⟨a0, a1, a2, a3, a4, a5, a6⟩, hp, hm⟩ := hf
  refine ⟨⟨by rw [ho 0 (by omega) (by omega)]; exact a0, by rw [ho 1 (by omega) (by omega)]; exact a1, by rw [ho 2 (by omega) (by omega)]; exact a2, by rw [ho 3 (by omega) (by omega)]; exact a3, h4, by rw [ho 5 (by omega) (by omega)]; exact a5, by rw [ho 6 (by omega) (by omega)]; exact a6⟩, fun p hpp => ?_, fun m hmm w hw => ?_⟩
  · have hpp : p < tP T := hpp
    rw [ho _ (by omega) (by omega), ho _ (by omega) (by omega)]
    exact hp p hpp
  · have hmm : m < tM T + 1 := hmm
    by_cases h : m = tM T
    · subst h
      rcases (show w = 0 ∨ w = 1 ∨ w = 2 ∨ w = 3 ∨ w = 4 ∨ w = 5 ∨ w = 6 by omega) with rfl | rfl | rfl | rfl | rfl | rfl | rfl
      · show s'.1 116 (19 + 7 * tM T) = nI (if tM T = tM T then (if 0 = 0 then p0.toNatClampNeg else p1.toNatClampNeg) else tPa T (tM T) 0)
        rw [if_pos rfl, if_pos rfl, e0]; exact hp0
      · show s'.1 116 (19 + 7 * tM T + 1) = nI (if tM T = tM T then (if 1 = 0 then p0.toNatClampNeg else p1.toNatClampNeg) else tPa T (tM T) 1)
        rw [if_pos rfl, if_neg (by omega), e1]; exact hp1
      · show s'.1 116 (19 + 7 * tM T + 2) = (if tM T = tM T then (if 0 = 0 then g0 else g1) else tGa T (tM T) 0)
        rw [if_pos rfl, if_pos rfl, e2]
      · show s'.1 116 (19 + 7 * tM T + 3) = (if tM T = tM T then (if 1 = 0 then g0 else g1) else tGa T (tM T) 1)
        rw [if_pos rfl, if_neg (by omega), e3]
      · show s'.1 116 (19 + 7 * tM T + 4) = (if tM T = tM T then x.1 else tOn T (tM T))
        rw [if_pos rfl, e4]
      · show s'.1 116 (19 + 7 * tM T + 5) = b01 (if tM T = tM T then x.2.1 else tDry T (tM T))
        rw [if_pos rfl, e5]
      · show s'.1 116 (19 + 7 * tM T + 6) = b01 (if tM T = tM T then x.2.2 else tJug T (tM T))
        rw [if_pos rfl, e6]
    · rw [ho _ (by omega) (by omega), hm m (by omega) w hw]
      rcases (show w = 0 ∨ w = 1 ∨ w = 2 ∨ w = 3 ∨ w = 4 ∨ w = 5 ∨ w = 6 by omega) with rfl | rfl | rfl | rfl | rfl | rfl | rfl
      · exact congrArg nI (if_neg h).symm
      · exact congrArg nI (if_neg h).symm
      · exact (if_neg h).symm
      · exact (if_neg h).symm
      · exact (if_neg h).symm
      · exact congrArg b01 (if_neg h).symm
      · exact congrArg b01 (if_neg h).symm
theorem fr_W {s s' : xS} {T : Tw} {le sp fr : Int32} (hf : frF s T) (h0 : s'.1 116 0 = le) (h1 : s'.1 116 1 = sp) (h2 : s'.1 116 2 = fr) (ho : ∀ j, 2 < j → s'.1 116 j = s.1 116 j) : frF s' (tWell T le sp fr) := by
  obtain ⟨⟨a0, a1, a2, a3, a4, a5, a6⟩, hp, hm⟩ := hf
  refine ⟨⟨h0, h1, h2, by rw [ho 3 (by omega)]; exact a3, by rw [ho 4 (by omega)]; exact a4, by rw [ho 5 (by omega)]; exact a5, by rw [ho 6 (by omega)]; exact a6⟩, fun p hpp => ?_, fun m hmm w hw => ?_⟩
  · rw [ho _ (by omega), ho _ (by omega)]; exact hp p hpp
  · rw [ho _ (by omega), hm m hmm w hw]
    rcases (show w = 0 ∨ w = 1 ∨ w = 2 ∨ w = 3 ∨ w = 4 ∨ w = 5 ∨ w = 6 by omega) with rfl | rfl | rfl | rfl | rfl | rfl | rfl <;> rfl
theorem fr_I {s : xS} {T : Tw} (hf : frF s T) : frF (s_p s 116 5 (s.1 116 5 + 1)) (tInc T) := by
  have o := oC_p s 116 5 (s.1 116 5 + 1)
  obtain ⟨⟨a0, a1, a2, a3, a4, a5, a6⟩, hp, hm⟩ := hf
  refine ⟨⟨by rw [o.2.1 0 (by omega)]; exact a0, by rw [o.2.1 1 (by omega)]; exact a1, by rw [o.2.1 2 (by omega)]; exact a2, by rw [o.2.1 3 (by omega)]; exact a3, by rw [o.2.1 4 (by omega)]; exact a4, by rw [s_p_v, a5]; rfl, by rw [o.2.1 6 (by omega)]; exact a6⟩, fun p hpp => ?_, fun m hmm w hw => ?_⟩
  · rw [o.2.1 _ (by omega), o.2.1 _ (by omega)]; exact hp p hpp
  · rw [o.2.1 _ (by omega), hm m hmm w hw]
    rcases (show w = 0 ∨ w = 1 ∨ w = 2 ∨ w = 3 ∨ w = 4 ∨ w = 5 ∨ w = 6 by omega) with rfl | rfl | rfl | rfl | rfl | rfl | rfl <;> rfl
theorem rd116 (z : xS) {j : Nat} (hj : j < 135) : x_rd (z.1 116) 135 (nI j) = some (z.1 116 j) := x_rd_nI hj (by omega)
theorem rd116_0 (z : xS) : x_rd (z.1 116) 135 0 = some (z.1 116 0) := rd116 z (j := 0) (by omega)
theorem rd116_1 (z : xS) : x_rd (z.1 116) 135 1 = some (z.1 116 1) := rd116 z (j := 1) (by omega)
theorem rd116_2 (z : xS) : x_rd (z.1 116) 135 2 = some (z.1 116 2) := rd116 z (j := 2) (by omega)
theorem rd116_3 (z : xS) : x_rd (z.1 116) 135 3 = some (z.1 116 3) := rd116 z (j := 3) (by omega)
theorem rd116_4 (z : xS) : x_rd (z.1 116) 135 4 = some (z.1 116 4) := rd116 z (j := 4) (by omega)
theorem rd116_5 (z : xS) : x_rd (z.1 116) 135 5 = some (z.1 116 5) := rd116 z (j := 5) (by omega)
theorem cl_0 : (0 : Int32).toNatClampNeg = 0 := by decide
theorem cl_1 : (1 : Int32).toNatClampNeg = 1 := by decide
theorem cl_2 : (2 : Int32).toNatClampNeg = 2 := by decide
theorem cl_3 : (3 : Int32).toNatClampNeg = 3 := by decide
theorem cl_4 : (4 : Int32).toNatClampNeg = 4 := by decide
theorem cl_5 : (5 : Int32).toNatClampNeg = 5 := by decide
theorem nI_pl (k : Nat) (c : Nat) : nI k + nI c = nI (k + c) := nI_add k c
section FRESH
variable {P : Nat → List Value → Option Value} {d : Nat} {xs : List Int32} {b : Nat → Int32} {n : Nat}
set_option maxHeartbeats 4000000 in
theorem r_readPerson (hd : 10 ≤ d) (hP : wdP P) {s : xS} {T : Tw} {t : Tk} (ht : tpR s b n) (h6 : tP T < 6) (hok : tkOk n t) (htk : tkR s b n t) (hf : frF s T) : ∃ s', x_ev g_M P d 219 [.ref 110] (mkH xs s) (none, mkH xs s') ∧ tkR s' b n (rdP b n T t).1 ∧ tkOk n (rdP b n T t).1 ∧ offF s s' ∧ frF s' (rdP b n T t).2 := by
  obtain ⟨d, rfl⟩ := x_1 (d := d) (by omega)
  have f3 := hf.1.2.2.2.1
  obtain ⟨s1, a1, a2, a3⟩ := r_told (P := P) (d := d) (xs := xs) (by omega) hP ht hok htk (show 5 < 13 by omega) (show (9 : Int32) ≤ 100 by decide)
  have k1 : tkOk n (r1P b n t).2 := tkN_ok (b := b) (x := 9) (u := -1) ht.1 (tkW_ok (b := b) (w := 5) ht.1 hok)
  have a1 : x_ev g_M P d 216 [.ref 110, .ref 1000005, .int 0, .int 9] (mkH xs s) (some (.int (r1P b n t).1), mkH xs s1) := a1
  have a3 : tkR s1 b n (r1P b n t).2 := a3
  have o1 := oC_p s1 116 (7 + 2 * tP T) (r1P b n t).1
  generalize hy1 : s_p s1 116 (7 + 2 * tP T) (r1P b n t).1 = y1 at *
  have ht1 : tpR y1 b n := ht.off (by rw [o1.1 114 (by omega), a2.1 114 (by omega)])
  obtain ⟨s2, b1, b2, b3⟩ := r_takes (P := P) (d := d) (xs := xs) (by omega) hP ht1 k1 (tkR_o (o1.1 110 (by omega)) a3) (show 6 < 13 by omega)
  rw [show 1000000 + 6 = 1000006 from rfl] at b1
  have k2 := tkT_ok (b := b) (w := 6) k1
  have o2 := oC_p s2 116 (8 + 2 * tP T) (b01 (tkT b n 6 (r1P b n t).2).1)
  generalize hy2 : s_p s2 116 (8 + 2 * tP T) (b01 (tkT b n 6 (r1P b n t).2).1) = y2 at *
  have o3 := oC_p y2 116 3 (nI (tP T + 1))
  have y23 : y2.1 116 3 = nI (tP T) := by rw [o2.2.1 3 (by omega), b2.1 116 (by omega), o1.2.1 3 (by omega), a2.1 116 (by omega)]; exact f3
  have ek : (7 : Int32) + 2 * nI (tP T) = nI (7 + 2 * tP T) := by rw [show (7 : Int32) = nI 7 from rfl, show (2 : Int32) = nI 2 from rfl, pk_mul, nI_add]
  have ek1 : nI (7 + 2 * tP T) + 1 = nI (8 + 2 * tP T) := by rw [nI_1]; congr 1; omega
  refine ⟨s_p y2 116 3 (nI (tP T + 1)), ?_, tkR_o (by rw [o3.1 110 (by omega), o2.1 110 (by omega)]) b3, k2, (((a2.F.tr o1.F).tr b2.F).tr o2.F).tr o3.F, ?_⟩
  · have c1 : ∀ z : xS, x_rd (z.1 116) 135 (nI (7 + 2 * tP T)) = some (z.1 116 (7 + 2 * tP T)) := fun z => rd116 z (by omega)
    have c2 : ∀ z : xS, x_rd (z.1 116) 135 (nI (8 + 2 * tP T)) = some (z.1 116 (8 + 2 * tP T)) := fun z => rd116 z (by omega)
    have bb : ∀ r, x_R (x_ev g_M P d) 219 (40, [some (.ref 110), some (.int (nI (7 + 2 * tP T)))], [.int (b01 (tkT b n 6 (r1P b n t).2).1), .int (nI (8 + 2 * tP T)), .ref 116], mkH xs s2) r ↔ x_R (x_ev g_M P d) 219 (49, [some (.ref 110), some (.int (nI (7 + 2 * tP T)))], [], mkH xs y2) r := fun r => by
      rw [← hy2]
      cases (tkT b n 6 (r1P b n t).2).1 with
      | true => simp only [w_Ref_readPerson_40, w_Ref_readPerson_43, w_Ref_readPerson_48, e_116, i_116, Option.some.injEq, exists_eq_left', exists_eq_left, Option.toList_some, Option.toList_none, List.cons_append, List.nil_append, true_and, and_true, Option.map_some, Option.map_none, b01, if_true, show ¬ ((1 : Int32) = 0) by decide, if_false, c2, nI_clamp (show 8 + 2 * tP T < 2 ^ 31 by omega)]
      | false => simp only [w_Ref_readPerson_40, w_Ref_readPerson_47, w_Ref_readPerson_48, e_116, i_116, Option.some.injEq, exists_eq_left', exists_eq_left, Option.toList_some, Option.toList_none, List.cons_append, List.nil_append, true_and, and_true, Option.map_some, Option.map_none, b01, if_true, Bool.false_eq_true, if_false, c2, nI_clamp (show 8 + 2 * tP T < 2 ^ 31 by omega)]
    rw [x_ev_in rfl (Nat.le_of_ble_eq_true rfl)]
    rw [show x_ent (x_nL g_M 219) [.ref 110] = [some (.ref 110), none] from rfl]
    simp only [w_Ref_readPerson_0, w_Ref_readPerson_7, w_Ref_readPerson_9, w_Ref_readPerson_16, w_Ref_readPerson_26, w_Ref_readPerson_27, w_Ref_readPerson_31, c_110, f_110_0, p_110_0, f_110_1, f_110_2, f_110_3, f_110_4, f_110_5, p_110_5, f_110_6, f_110_7, p_110_7, f_110_8, p_110_8, f_110_9, p_110_9, f_110_10, p_110_10, f_110_11, p_110_11, f_110_12, p_110_12, f_110_13, p_110_13, f_110_14, f_110_15, f_110_16, p_110_16, f_110_17, f_110_18, p_110_18, f_110_19, p_110_19, f_110_20, f_110_21, p_110_21, f_110_22, p_110_22, f_110_23, f_110_24, f_110_25, p_110_25, f_110_26, f_110_27, f_110_28, f_110_29, f_110_30, f_110_31, p_110_31, f_110_32, p_110_32, f_110_33, p_110_33, f_110_34, p_110_34, f_110_35, f_110_36, f_110_37, f_110_38, e_116, i_116, Option.some.injEq, exists_eq_left', exists_eq_left, Option.toList_some, Option.toList_none, List.cons_append, List.nil_append, true_and, and_true, Option.map_some, Option.map_none, rd116_3, f3, ek, x_ev_iff a1, c1, nI_clamp (show 7 + 2 * tP T < 2 ^ 31 by omega), hy1, x_ev_iff b1, ek1]
    rw [bb]
    simp only [w_Ref_readPerson_49, w_Ref_readPerson_53, w_Ref_readPerson_56, w_Ref_readPerson_59, c_110, f_110_0, p_110_0, f_110_1, f_110_2, f_110_3, f_110_4, f_110_5, p_110_5, f_110_6, f_110_7, p_110_7, f_110_8, p_110_8, f_110_9, p_110_9, f_110_10, p_110_10, f_110_11, p_110_11, f_110_12, p_110_12, f_110_13, p_110_13, f_110_14, f_110_15, f_110_16, p_110_16, f_110_17, f_110_18, p_110_18, f_110_19, p_110_19, f_110_20, f_110_21, p_110_21, f_110_22, p_110_22, f_110_23, f_110_24, f_110_25, p_110_25, f_110_26, f_110_27, f_110_28, f_110_29, f_110_30, f_110_31, p_110_31, f_110_32, p_110_32, f_110_33, p_110_33, f_110_34, p_110_34, f_110_35, f_110_36, f_110_37, f_110_38, e_116, i_116, Option.some.injEq, exists_eq_left', exists_eq_left, Option.toList_some, Option.toList_none, List.cons_append, List.nil_append, true_and, and_true, Option.map_some, Option.map_none, rd116_3, y23, cl_3, nI_1]
  · refine fr_P h6 hf (s_p_v _ _ _ _) ?_ ?_ (fun j z1 z2 z3 => ?_)
    · rw [o3.2.1 _ (by omega), o2.2.1 _ (by omega), b2.1 116 (by omega), ← hy1, s_p_v]
    · rw [o3.2.1 _ (by omega), ← hy2, s_p_v]
    · rw [o3.2.1 _ z1, o2.2.1 _ z3, b2.1 116 (by omega), o1.2.1 _ z2, a2.1 116 (by omega)]
theorem i_m8 {M : Nat} (hM : M ≤ 8) : nI M - 1 ≤ 100 := by
  have : ∀ M, M ≤ 8 → nI M - 1 ≤ 100 := by decide
  exact this M hM
theorem r_fOn (hd : 3 ≤ d) {M : Nat} (hM : M ≤ 8) : ∀ (f : Nat) (acc : Int32) (t : Tk) (z : xS) (o : Option Value), tpR z b n → tkOk n t → n < t.1 + f → tkR z b n t → z.1 116 4 = nI M → ∃ z' V, x_R (x_ev g_M P d) 221 (2, [some (.ref 110), some (.int acc), o], [], mkH xs z) (some (.int V), mkH xs z') ∧ offU z z' ∧ tkR z' b n (onL b n M f acc t).2 ∧ tkOk n (onL b n M f acc t).2 ∧ ((onL b n M f acc t).2.2 = none → V = (onL b n M f acc t).1) := by
  intro f
  induction f with
  | zero => intro acc t z o _ h1 h2; have := h1.1; omega
  | succ f ih =>
    intro acc t z o ht hok hf htk h4
    obtain ⟨z1, q1, q2, q3⟩ := r_number (P := P) (d := d) (xs := xs) hd ht hok htk (i_m8 hM)
    have hok1 := tkN_ok (b := b) (x := nI M - 1) (u := -1) ht.1 hok
    generalize hr : tkN b n (nI M - 1) (-1) t = r at *
    have a4 := q3.2.2.2.1
    have hk4 := kdT_4 b n r.2.1
    have sv : ∀ v : Int32, (1 : Int32) <<< (v &&& 31) = shV v := fun v => rfl
    have st : ∀ r', x_R (x_ev g_M P d) 221 (2, [some (.ref 110), some (.int acc), o], [], mkH xs z) r' ↔ x_R (x_ev g_M P d) 221 (20, [some (.ref 110), some (.int acc), some (.int r.1)], [.int (b01 (decide (r.2.2 = none)))], mkH xs z1) r' := fun r' => by
      simp only [w_Ref_freshOn_2 (l1 := acc), w_Ref_freshOn_8, w_Ref_freshOn_10, w_Ref_freshOn_15, c_110, f_110_0, p_110_0, f_110_1, f_110_2, f_110_3, f_110_4, f_110_5, p_110_5, f_110_6, f_110_7, p_110_7, f_110_8, p_110_8, f_110_9, p_110_9, f_110_10, p_110_10, f_110_11, p_110_11, f_110_12, p_110_12, f_110_13, p_110_13, f_110_14, f_110_15, f_110_16, p_110_16, f_110_17, f_110_18, p_110_18, f_110_19, p_110_19, f_110_20, f_110_21, p_110_21, f_110_22, p_110_22, f_110_23, f_110_24, f_110_25, p_110_25, f_110_26, f_110_27, f_110_28, f_110_29, f_110_30, f_110_31, p_110_31, f_110_32, p_110_32, f_110_33, p_110_33, f_110_34, p_110_34, f_110_35, f_110_36, f_110_37, f_110_38, e_116, i_116, Option.some.injEq, exists_eq_left', exists_eq_left, Option.toList_some, Option.toList_none, List.cons_append, List.nil_append, true_and, and_true, Option.map_some, Option.map_none, rd116_4, h4, x_ev_iff q1, r_good (d := d) (by omega) hok1.2 q3]
    rw [onL, hr]
    by_cases hn : r.2.2 = none
    · by_cases hk : kdT b n r.2.1 = 2
      · rw [if_pos ⟨hn, hk⟩]
        have hv := tkN_v (b := b) (n := n) (x := nI M - 1) (u := -1) (t := t) (by rw [hr]; exact hn)
        have e2 := hv.2.2.1
        rw [hr] at e2
        have hlt : t.1 < n := (kdT_2 hv.2.1).1
        have h1 := enT_gt (b := b) hlt
        have h2 := skT_le (b := b) (enT_le (b := b) (Nat.le_of_lt hlt)).2
        have hnx : t.1 < nxT b n t.1 := by unfold nxT; omega
        have e21 : r.2.1 = nxT b n t.1 := by rw [e2]
        obtain ⟨z', V, k1, k2, k3, k4, k5⟩ := ih (acc ||| shV r.1) r.2 z1 (some (.int r.1)) (ht.off (q2.1 114 (by omega))) hok1 (by omega) q3 (by rw [q2.1 116 (by omega)]; exact h4)
        refine ⟨z', V, ?_, q2.tr k2, k3, k4, k5⟩
        rw [st]
        have kk : nI (kdT b n r.2.1) = 2 := by rw [hk]; rfl
        simp only [w_Ref_freshOn_20, w_Ref_freshOn_25, w_Ref_freshOn_35, c_110, f_110_0, p_110_0, f_110_1, f_110_2, f_110_3, f_110_4, f_110_5, p_110_5, f_110_6, f_110_7, p_110_7, f_110_8, p_110_8, f_110_9, p_110_9, f_110_10, p_110_10, f_110_11, p_110_11, f_110_12, p_110_12, f_110_13, p_110_13, f_110_14, f_110_15, f_110_16, p_110_16, f_110_17, f_110_18, p_110_18, f_110_19, p_110_19, f_110_20, f_110_21, p_110_21, f_110_22, p_110_22, f_110_23, f_110_24, f_110_25, p_110_25, f_110_26, f_110_27, f_110_28, f_110_29, f_110_30, f_110_31, p_110_31, f_110_32, p_110_32, f_110_33, p_110_33, f_110_34, p_110_34, f_110_35, f_110_36, f_110_37, f_110_38, Option.some.injEq, exists_eq_left', exists_eq_left, Option.toList_some, Option.toList_none, List.cons_append, List.nil_append, true_and, and_true, Option.map_some, Option.map_none, hn, decide_true, b01, if_true, show ¬ ((1 : Int32) = 0) by decide, not_false_eq_true, a4, kk, sv]
        exact k1
      · rw [if_neg (fun w => hk w.2)]
        refine ⟨z1, acc ||| shV r.1, ?_, q2, q3, hok1, fun _ => rfl⟩
        rw [st]
        have kk : ¬ nI (kdT b n r.2.1) = 2 := fun w => hk ((nI_eq (b := 2) (by omega) (by omega)).mp w)
        simp only [w_Ref_freshOn_20, w_Ref_freshOn_25, w_Ref_freshOn_35, w_Ref_freshOn_39, c_110, f_110_0, p_110_0, f_110_1, f_110_2, f_110_3, f_110_4, f_110_5, p_110_5, f_110_6, f_110_7, p_110_7, f_110_8, p_110_8, f_110_9, p_110_9, f_110_10, p_110_10, f_110_11, p_110_11, f_110_12, p_110_12, f_110_13, p_110_13, f_110_14, f_110_15, f_110_16, p_110_16, f_110_17, f_110_18, p_110_18, f_110_19, p_110_19, f_110_20, f_110_21, p_110_21, f_110_22, p_110_22, f_110_23, f_110_24, f_110_25, p_110_25, f_110_26, f_110_27, f_110_28, f_110_29, f_110_30, f_110_31, p_110_31, f_110_32, p_110_32, f_110_33, p_110_33, f_110_34, p_110_34, f_110_35, f_110_36, f_110_37, f_110_38, Option.some.injEq, exists_eq_left', exists_eq_left, Option.toList_some, Option.toList_none, List.cons_append, List.nil_append, true_and, and_true, Option.map_some, Option.map_none, hn, decide_true, b01, if_true, show ¬ ((1 : Int32) = 0) by decide, not_false_eq_true, a4, kk, if_false, sv]
    · rw [if_neg (fun w => hn w.1)]
      refine ⟨z1, 0, ?_, q2, q3, hok1, fun w => absurd w hn⟩
      rw [st]
      simp only [w_Ref_freshOn_20, w_Ref_freshOn_23, hn, decide_false, b01, Bool.false_eq_true, if_false, not_true_eq_false]
theorem r_freshOn (hd : 4 ≤ d) {M : Nat} (hM : M ≤ 8) {z : xS} {t : Tk} (ht : tpR z b n) (hok : tkOk n t) (htk : tkR z b n t) (h4 : z.1 116 4 = nI M) : ∃ z' V, x_ev g_M P d 221 [.ref 110] (mkH xs z) (some (.int V), mkH xs z') ∧ offU z z' ∧ tkR z' b n (onL b n M 901 0 t).2 ∧ tkOk n (onL b n M 901 0 t).2 ∧ ((onL b n M 901 0 t).2.2 = none → V = (onL b n M 901 0 t).1) := by
  obtain ⟨d, rfl⟩ := x_1 (d := d) (by omega)
  obtain ⟨z', V, k1, k⟩ := r_fOn (P := P) (d := d) (xs := xs) (by omega) hM 901 0 t z none ht hok (by have := ht.1; omega) htk h4
  refine ⟨z', V, ?_, k⟩
  rw [x_ev_in rfl (Nat.le_of_ble_eq_true rfl)]
  rw [show x_ent (x_nL g_M 221) [.ref 110] = [some (.ref 110), none, none] from rfl]
  rw [w_Ref_freshOn_0]
  exact k1
end FRESH
