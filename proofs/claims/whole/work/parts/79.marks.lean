/-! THE READER of the class: the MARKS (own work) -/
def mrk (o d j : Bool) : Int32 := (if o = true then 1 else 0) ||| ((if d = true then 2 else 0) ||| (if j = true then 4 else 0))
theorem mrk_f : ∀ o d j, ((mrk o d j &&& 1 = 0) ↔ o = false) ∧ (mrk o d j &&& 2 = 0 ↔ d = false) ∧ (mrk o d j &&& 4 = 0 ↔ j = false) ∧ mrk o d j ||| 1 = mrk true d j ∧ mrk o d j ||| 2 = mrk o true j ∧ mrk o d j ||| 4 = mrk o d true := by decide
def cntM (x : Int32 × Bool × Bool) : Nat := (if x.1 = 0 then 1 else 0) + ((if x.2.1 = true then 0 else 1) + (if x.2.2 = true then 0 else 1))
def rlM (b : Nat → Int32) (n : Nat) (t' r : Tk) : Prop := (t'.2 = r.2 ∧ (r.2 = none → t' = r)) ∨ (t'.2 = none ∧ kdT b n t'.1 ≠ 3 ∧ r = (t'.1, some (1, t'.1)))
def mkO (s z : xS) (M : Nat) : Prop := (∀ q, q ≠ 13 → q ≠ 14 → q ≠ 18 → z.1 q = s.1 q) ∧ (∀ k, k ≠ 7 → k ≠ 8 → z.1 14 k = s.1 14 k) ∧ (∀ k, k ≠ M → z.1 18 k = s.1 18 k) ∧ z.2 = s.2
def mkV (s z : xS) (M : Nat) (x : Int32 × Bool × Bool) : Prop := z.1 18 M = x.1 ∧ z.1 14 7 = (if x.2.1 = true then s.1 14 7 ||| on1 M else s.1 14 7) ∧ z.1 14 8 = (if x.2.2 = true then s.1 14 8 ||| on1 M else s.1 14 8)
theorem isW_k {b : Nat → Int32} {n w i : Nat} (h : isW b n w i = true) : kdT b n i = 1 := by
  unfold isW at h
  rw [Bool.and_eq_true, decide_eq_true_eq] at h
  exact h.1
theorem isW_x {b : Nat → Int32} {n i v w : Nat} (hv : 0 < (wdL v).length) (hw : 0 < (wdL w).length) (hd : nI (lo (wdL v) 0) ≠ nI (lo (wdL w) 0)) (h : isW b n v i = true) : ¬ isW b n w i = true := fun h2 => by
  have a := isW_0 h hv
  have c := isW_0 h2 hw
  rw [a] at c
  exact hd c
theorem mkL_f {b : Nat → Int32} {n M f : Nat} {x : Tk × Int32 × Bool × Bool} (h : x.1.2 ≠ none) : mkL b n M f x = x := by
  cases f with
  | zero => rfl
  | succ f => rw [mkL, if_neg (fun z => h z.1)]
section MARKS
variable {P : Nat → List Value → Option Value} {d : Nat} {xs : List Int32} {b : Nat → Int32} {n : Nat}
theorem t_mkF {z : xS} {t : Tk} (hf : fOk t.2) (htk : tk13 z b n t) (hn : t.2 ≠ none) (l1 l2 : Int32) (o : Option Value) : x_R (x_ev g_M P d) 24 (4, [some (.ref 13), some (.int l1), some (.int l2), o], [], mkH xs z) (none, mkH xs z) := by
  have a5 := htk.2.2.2.2.1
  by_cases h3 : (3 : Int32) ≤ l2
  · simp only [w_Reader_readMarks_4 (l2 := l2), w_Reader_readMarks_108, h3, if_true]
  · simp only [w_Reader_readMarks_4 (l2 := l2), w_Reader_readMarks_9, w_Reader_readMarks_13, w_Reader_readMarks_108, c_13, f_13_0, f_13_1, f_13_2, p_13_2, f_13_3, p_13_3, f_13_4, p_13_4, f_13_5, p_13_5, f_13_6, p_13_6, f_13_7, p_13_7, Option.some.injEq, exists_eq_left', exists_eq_left, Option.toList_some, Option.toList_none, List.cons_append, List.nil_append, true_and, and_true, Option.map_some, Option.map_none, h3, if_false, a5, fkN_s hf hn, not_false_eq_true, if_true]
set_option maxHeartbeats 4000000 in
theorem t_mkL (hd : 7 ≤ d) (hP : wdP P) {M : Nat} (hM : M < 8) {s : xS} (h5 : s.1 14 5 = nI M) (h18 : s.1 18 M = 0) (ht : tpC s b n) : ∀ (u i : Nat) (x : Tk × Int32 × Bool × Bool) (z : xS) (o : Option Value), cntM x.2 = u → i + u = 3 → x.1.2 = none → tkOk n x.1 → tk13 z b n x.1 → mkO s z M → mkV s z M x.2 → ∃ z' t', x_R (x_ev g_M P d) 24 (4, [some (.ref 13), some (.int (mrk (!decide (x.2.1 = 0)) x.2.2.1 x.2.2.2)), some (.int (nI i)), o], [], mkH xs z) (none, mkH xs z') ∧ tk13 z' b n t' ∧ tkOk n t' ∧ rlM b n t' (mkL b n M (u + 1) x).1 ∧ mkO s z' M ∧ ((mkL b n M (u + 1) x).1.2 = none → mkV s z' M (mkL b n M (u + 1) x).2) := by
  intro u
  induction u with
  | zero =>
    intro i x z o hu hi hn hok htk hO hV
    obtain ⟨t, on, dr, jg⟩ := x
    obtain rfl : i = 3 := by omega
    refine ⟨z, t, ?_, htk, hok, ?_, hO, ?_⟩
    · simp only [w_Reader_readMarks_4 (l2 := nI 3), w_Reader_readMarks_108, show (3 : Int32) ≤ nI 3 by decide, if_true]
    · have hu : (if on = 0 then 1 else 0) + ((if dr = true then 0 else 1) + (if jg = true then 0 else 1)) = 0 := hu
      have o1 : ¬ on = 0 := fun w => by rw [if_pos w] at hu; omega
      have o2 : dr = true := by
        cases dr
        · simp at hu
        · rfl
      have o3 : jg = true := by
        cases jg
        · simp at hu
        · rfl
      rw [mkL]
      by_cases hk : kdT b n t.1 = 3
      · rw [if_neg (fun w => w.2 hk)]
        exact Or.inl ⟨rfl, fun _ => rfl⟩
      · rw [if_pos ⟨hn, hk⟩, if_neg (fun w => o1 w.2), if_neg (fun w => by rw [o2] at w; cases w.2), if_neg (fun w => by rw [o3] at w; cases w.2)]
        exact Or.inr ⟨hn, hk, rfl⟩
    · rw [mkL]
      by_cases hk : kdT b n t.1 = 3
      · rw [if_neg (fun w => w.2 hk)]
        exact fun _ => hV
      · have hu : (if on = 0 then 1 else 0) + ((if dr = true then 0 else 1) + (if jg = true then 0 else 1)) = 0 := hu
        have o1 : ¬ on = 0 := fun w => by rw [if_pos w] at hu; omega
        have o2 : dr = true := by
          cases dr
          · simp at hu
          · rfl
        have o3 : jg = true := by
          cases jg
          · simp at hu
          · rfl
        rw [if_pos ⟨hn, hk⟩, if_neg (fun w => o1 w.2), if_neg (fun w => by rw [o2] at w; cases w.2), if_neg (fun w => by rw [o3] at w; cases w.2)]
        intro w
        cases w
  | succ u ih =>
    intro i x z o hu hi hn hok htk hO hV
    obtain ⟨t, on, dr, jg⟩ := x
    have hn : t.2 = none := hn
    have a5 : z.1 13 6 = 0 := by have := htk.2.2.2.2.1; rw [this]; show fkN t.2 = 0; rw [hn]; rfl
    have hc3 : ¬ (3 : Int32) ≤ nI i := nI_ge (b := 3) (by omega) (by omega)
    have htz : tpC z b n := ht.off (hO.1 2 (by omega) (by omega) (by omega))
    have z5 : z.1 14 5 = nI M := by rw [hO.2.1 5 (by omega) (by omega)]; exact h5
    have mh := fun q => t_markHere (P := P) (d := d) (xs := xs) (q := q) (by omega) hP htz hok.1 htk
    obtain ⟨m1, m2, m3, m4, m5, m6⟩ := mrk_f (!decide (on = 0)) dr jg
    have hu : (if on = 0 then 1 else 0) + ((if dr = true then 0 else 1) + (if jg = true then 0 else 1)) = u + 1 := hu
    have stop : ∀ m : Int32, (if isW b n 10 t.1 = true then (1 : Int32) else if isW b n 11 t.1 = true then 2 else if isW b n 12 t.1 = true then 4 else 0) = m → (m = 0 ∨ ¬ mrk (!decide (on = 0)) dr jg &&& m = 0) → x_R (x_ev g_M P d) 24 (4, [some (.ref 13), some (.int (mrk (!decide (on = 0)) dr jg)), some (.int (nI i)), o], [], mkH xs z) (none, mkH xs z) := fun m hm hmm => by
      by_cases hm0 : m = 0
      · simp only [w_Reader_readMarks_4 (l2 := nI i), w_Reader_readMarks_9, w_Reader_readMarks_13, w_Reader_readMarks_16, w_Reader_readMarks_20, w_Reader_readMarks_31, c_13, f_13_0, f_13_1, f_13_2, p_13_2, f_13_3, p_13_3, f_13_4, p_13_4, f_13_5, p_13_5, f_13_6, p_13_6, f_13_7, p_13_7, Option.some.injEq, exists_eq_left', exists_eq_left, Option.toList_some, Option.toList_none, List.cons_append, List.nil_append, true_and, and_true, Option.map_some, Option.map_none, hc3, if_false, a5, not_true_eq_false, mh, hm, hm0, if_true]
      · have hmm : ¬ mrk (!decide (on = 0)) dr jg &&& m = 0 := by rcases hmm with w | w; exact absurd w hm0; exact w
        simp only [w_Reader_readMarks_4 (l2 := nI i), w_Reader_readMarks_9, w_Reader_readMarks_13, w_Reader_readMarks_16, w_Reader_readMarks_20, w_Reader_readMarks_25, w_Reader_readMarks_31, c_13, f_13_0, f_13_1, f_13_2, p_13_2, f_13_3, p_13_3, f_13_4, p_13_4, f_13_5, p_13_5, f_13_6, p_13_6, f_13_7, p_13_7, Option.some.injEq, exists_eq_left', exists_eq_left, Option.toList_some, Option.toList_none, List.cons_append, List.nil_append, true_and, and_true, Option.map_some, Option.map_none, hc3, if_false, a5, not_true_eq_false, mh, hm, hm0, hmm]
    have err : kdT b n t.1 ≠ 3 → mkL b n M (u + 1 + 1) (t, on, dr, jg) = ((t.1, some (1, t.1)), on, dr, jg) → ∃ z' t', x_R (x_ev g_M P d) 24 (4, [some (.ref 13), some (.int (mrk (!decide (on = 0)) dr jg)), some (.int (nI i)), o], [], mkH xs z) (none, mkH xs z) → x_R (x_ev g_M P d) 24 (4, [some (.ref 13), some (.int (mrk (!decide (on = 0)) dr jg)), some (.int (nI i)), o], [], mkH xs z) (none, mkH xs z') ∧ tk13 z' b n t' ∧ tkOk n t' ∧ rlM b n t' (mkL b n M (u + 1 + 1) (t, on, dr, jg)).1 ∧ mkO s z' M ∧ ((mkL b n M (u + 1 + 1) (t, on, dr, jg)).1.2 = none → mkV s z' M (mkL b n M (u + 1 + 1) (t, on, dr, jg)).2) := fun hk e => by
      refine ⟨z, t, fun w => ⟨w, htk, hok, ?_, hO, ?_⟩⟩
      · rw [e]; exact Or.inr ⟨hn, hk, rfl⟩
      · rw [e]; intro w; cases w
    -- on to the next token
    obtain ⟨z1, q1, q2, q3⟩ := t_next (P := P) (d := d) (xs := xs) (by omega) htz hok.1 htk
    have hokn : tkOk n (nxT b n t.1, t.2) := ⟨(nxT_le hok.1).2, hok.2⟩
    have O1 : mkO s z1 M := ⟨fun q a c e => by rw [q2.1 q a, hO.1 q a c e], fun k a c => by rw [q2.1 14 (by omega), hO.2.1 k a c], fun k a => by rw [q2.1 18 (by omega), hO.2.2.1 k a], by rw [q2.2, hO.2.2.2]⟩
    have z15 : z1.1 14 5 = nI M := by rw [q2.1 14 (by omega)]; exact z5
    have mvon : ∀ m : Int32, (if isW b n 10 t.1 = true then (1 : Int32) else if isW b n 11 t.1 = true then 2 else if isW b n 12 t.1 = true then 4 else 0) = m → ¬ m = 0 → mrk (!decide (on = 0)) dr jg &&& m = 0 → ∀ r, x_R (x_ev g_M P d) 24 (4, [some (.ref 13), some (.int (mrk (!decide (on = 0)) dr jg)), some (.int (nI i)), o], [], mkH xs z) r ↔ x_R (x_ev g_M P d) 24 (40, [some (.ref 13), some (.int (mrk (!decide (on = 0)) dr jg ||| m)), some (.int (nI i)), some (.int m)], [], mkH xs z1) r := fun m hm hm0 hmm r => by
      simp only [w_Reader_readMarks_4 (l2 := nI i), w_Reader_readMarks_9, w_Reader_readMarks_13, w_Reader_readMarks_16, w_Reader_readMarks_20, w_Reader_readMarks_25, w_Reader_readMarks_32, c_13, f_13_0, f_13_1, f_13_2, p_13_2, f_13_3, p_13_3, f_13_4, p_13_4, f_13_5, p_13_5, f_13_6, p_13_6, f_13_7, p_13_7, Option.some.injEq, exists_eq_left', exists_eq_left, Option.toList_some, Option.toList_none, List.cons_append, List.nil_append, true_and, and_true, Option.map_some, Option.map_none, hc3, if_false, a5, not_true_eq_false, mh, hm, hm0, hmm, if_true, x_ev_iff q1]
    by_cases w10 : isW b n 10 t.1 = true
    · have hk : kdT b n t.1 ≠ 3 := by rw [isW_k w10]; decide
      have hm : (if isW b n 10 t.1 = true then (1 : Int32) else if isW b n 11 t.1 = true then 2 else if isW b n 12 t.1 = true then 4 else 0) = 1 := if_pos w10
      have n11 := isW_x (v := 10) (w := 11) (by decide) (by decide) (by decide) w10
      have n12 := isW_x (v := 10) (w := 12) (by decide) (by decide) (by decide) w10
      by_cases ho : on = 0
      · have hz18 : z1.1 18 M = 0 := by rw [q2.1 18 (by omega)]; exact hV.1.trans ho
        obtain ⟨z2, k1, k2, k3, k4, k5, k6, k7⟩ := t_takeMatters (P := P) (d := d) (xs := xs) (by omega) hM (ht.off (O1.1 2 (by omega) (by omega) (by omega))) hokn q3 z15 hz18
        have hmx : mkL b n M (u + 1 + 1) (t, on, dr, jg) = mkL b n M (u + 1) ((onL b n M 901 0 (nxT b n t.1, none)).2, (onL b n M 901 0 (nxT b n t.1, none)).1, dr, jg) := by
          rw [mkL, if_pos ⟨hn, hk⟩, if_pos ⟨w10, ho⟩]
        rw [hn] at k2 k3 k4
        have mv := mvon 1 hm (by decide) (m1.mpr (by rw [decide_eq_true ho]; rfl))
        have O2 : mkO s z2 M := ⟨fun q a c e => by rw [k5 q a e, O1.1 q a c e], fun k a c => by rw [k5 14 (by omega) (by omega), O1.2.1 k a c], fun k a => by rw [k6 k a, O1.2.2.1 k a], by rw [k7, O1.2.2.2]⟩
        have st : ∀ r, x_R (x_ev g_M P d) 24 (4, [some (.ref 13), some (.int (mrk (!decide (on = 0)) dr jg)), some (.int (nI i)), o], [], mkH xs z) r ↔ x_R (x_ev g_M P d) 24 (4, [some (.ref 13), some (.int (mrk true dr jg)), some (.int (nI (i + 1))), some (.int 1)], [], mkH xs z2) r := fun r => by
          rw [mv r, m4]
          simp only [w_Reader_readMarks_40, w_Reader_readMarks_45, w_Reader_readMarks_49, w_Reader_readMarks_102, c_13, f_13_0, f_13_1, f_13_2, p_13_2, f_13_3, p_13_3, f_13_4, p_13_4, f_13_5, p_13_5, f_13_6, p_13_6, f_13_7, p_13_7, Option.some.injEq, exists_eq_left', exists_eq_left, Option.toList_some, Option.toList_none, List.cons_append, List.nil_append, true_and, and_true, Option.map_some, Option.map_none, not_true_eq_false, if_false, x_ev_iff k1, nI_1]
        rw [hmx]
        by_cases hof : (onL b n M 901 0 (nxT b n t.1, none)).2.2 = none
        · obtain ⟨v1, v2, v3, v4⟩ := onL_v (show M ≤ 8 by omega) 901 0 (nxT b n t.1, none) (by omega) hof (nxT_le hok.1).2 (fun j hj => by rw [b_0] at hj; cases hj)
          obtain ⟨z', t', g1, g2, g3, g4, g5, g6⟩ := ih (i + 1) ((onL b n M 901 0 (nxT b n t.1, none)).2, (onL b n M 901 0 (nxT b n t.1, none)).1, dr, jg) z2 (some (.int 1)) (by
            show (if (onL b n M 901 0 (nxT b n t.1, none)).1 = 0 then 1 else 0) + ((if dr = true then 0 else 1) + (if jg = true then 0 else 1)) = u
            rw [if_neg v2]
            rw [if_pos ho] at hu
            omega) (by omega) hof k3 k2 O2 ⟨k4, by rw [k5 14 (by omega) (by omega), q2.1 14 (by omega)]; exact hV.2.1, by rw [k5 14 (by omega) (by omega), q2.1 14 (by omega)]; exact hV.2.2⟩
          refine ⟨z', t', ?_, g2, g3, g4, g5, g6⟩
          rw [st]
          have ed : (!decide ((onL b n M 901 0 (nxT b n t.1, none)).1 = 0)) = true := by rw [decide_eq_false v2]; rfl
          have g1' := g1
          simp only [ed] at g1'
          exact g1'
        · rw [mkL_f (x := ((onL b n M 901 0 (nxT b n t.1, none)).2, (onL b n M 901 0 (nxT b n t.1, none)).1, dr, jg)) hof]
          refine ⟨z2, (onL b n M 901 0 (nxT b n t.1, none)).2, ?_, k2, k3, Or.inl ⟨rfl, fun _ => rfl⟩, O2, fun w => absurd w hof⟩
          rw [st]
          exact t_mkF k3.2 k2 hof _ _ _
      · have e : mkL b n M (u + 1 + 1) (t, on, dr, jg) = ((t.1, some (1, t.1)), on, dr, jg) := by
          rw [mkL, if_pos ⟨hn, hk⟩, if_neg (fun w => ho w.2), if_neg (fun w => n11 w.1), if_neg (fun w => n12 w.1)]
        obtain ⟨z', t', g⟩ := err hk e
        exact ⟨z', t', g (stop 1 hm (Or.inr (fun w => by rw [m1, decide_eq_false ho] at w; cases w)))⟩
    · by_cases w11 : isW b n 11 t.1 = true
      · have hk : kdT b n t.1 ≠ 3 := by rw [isW_k w11]; decide
        have hm : (if isW b n 10 t.1 = true then (1 : Int32) else if isW b n 11 t.1 = true then 2 else if isW b n 12 t.1 = true then 4 else 0) = 2 := by rw [if_neg w10, if_pos w11]
        have n12 := isW_x (v := 11) (w := 12) (by decide) (by decide) (by decide) w11
        cases hdr : dr with
        | false =>
          subst hdr
          have hmx : mkL b n M (u + 1 + 1) (t, on, false, jg) = mkL b n M (u + 1) ((nxT b n t.1, none), on, true, jg) := by
            rw [mkL, if_pos ⟨hn, hk⟩, if_neg (fun w => w10 w.1), if_pos ⟨w11, rfl⟩]
          have mv := mvon 2 hm (by decide) (m2.mpr rfl)
          have o2 := oC_p z1 14 7 (z1.1 14 7 ||| on1 M)
          generalize hy : s_p z1 14 7 (z1.1 14 7 ||| on1 M) = y at *
          have y7 : y.1 14 7 = s.1 14 7 ||| on1 M := by
            rw [← hy, s_p_v, q2.1 14 (by omega), hV.2.1]; rfl
          have O2 : mkO s y M := ⟨fun q a c e => by rw [o2.1 q c, O1.1 q a c e], fun k a c => by rw [o2.2.1 k a, O1.2.1 k a c], fun k a => by rw [o2.1 18 (by omega), O1.2.2.1 k a], by rw [o2.2.2, O1.2.2.2]⟩
          have st : ∀ r, x_R (x_ev g_M P d) 24 (4, [some (.ref 13), some (.int (mrk (!decide (on = 0)) false jg)), some (.int (nI i)), o], [], mkH xs z) r ↔ x_R (x_ev g_M P d) 24 (4, [some (.ref 13), some (.int (mrk (!decide (on = 0)) true jg)), some (.int (nI (i + 1))), some (.int 2)], [], mkH xs y) r := fun r => by
            rw [mv r, m5]
            have sv : (1 : Int32) <<< (nI M &&& 31) = on1 M := rfl
            simp only [w_Reader_readMarks_40, w_Reader_readMarks_52, w_Reader_readMarks_57, w_Reader_readMarks_61, w_Reader_readMarks_65, w_Reader_readMarks_70, w_Reader_readMarks_73, w_Reader_readMarks_78, w_Reader_readMarks_102, c_13, f_13_0, f_13_1, f_13_2, p_13_2, f_13_3, p_13_3, f_13_4, p_13_4, f_13_5, p_13_5, f_13_6, p_13_6, f_13_7, p_13_7, c_14, f_14_0, p_14_0, f_14_1, p_14_1, f_14_2, p_14_2, f_14_3, p_14_3, f_14_4, p_14_4, f_14_5, p_14_5, f_14_6, p_14_6, f_14_7, p_14_7, f_14_8, p_14_8, f_14_9, f_14_10, f_14_11, f_14_12, f_14_13, Option.some.injEq, exists_eq_left', exists_eq_left, Option.toList_some, Option.toList_none, List.cons_append, List.nil_append, true_and, and_true, Option.map_some, Option.map_none, show ¬ ((2 : Int32) = 1) by decide, not_false_eq_true, if_true, not_true_eq_false, if_false, z15, sv, hy, nI_1]
          rw [hn] at q3 hokn
          obtain ⟨z', t', g1, g2, g3, g4, g5, g6⟩ := ih (i + 1) ((nxT b n t.1, none), on, true, jg) y (some (.int 2)) (by
            show (if on = 0 then 1 else 0) + ((if true = true then 0 else 1) + (if jg = true then 0 else 1)) = u
            simp only [Bool.false_eq_true, if_false] at hu
            simp only [if_true]
            omega) (by omega) rfl hokn (tk13_o (o2.1 13 (by omega)) q3) O2 ⟨by rw [o2.1 18 (by omega), q2.1 18 (by omega)]; exact hV.1, by rw [y7]; rfl, by rw [o2.2.1 8 (by omega), q2.1 14 (by omega)]; exact hV.2.2⟩
          rw [hmx]
          refine ⟨z', t', ?_, g2, g3, g4, g5, g6⟩
          rw [st]
          exact g1
        | true =>
          subst hdr
          have e : mkL b n M (u + 1 + 1) (t, on, true, jg) = ((t.1, some (1, t.1)), on, true, jg) := by
            rw [mkL, if_pos ⟨hn, hk⟩, if_neg (fun w => w10 w.1), if_neg (fun w => by cases w.2), if_neg (fun w => n12 w.1)]
          obtain ⟨z', t', g⟩ := err hk e
          exact ⟨z', t', g (stop 2 hm (Or.inr (fun w => by rw [m2] at w; cases w)))⟩
      · by_cases w12 : isW b n 12 t.1 = true
        · have hk : kdT b n t.1 ≠ 3 := by rw [isW_k w12]; decide
          have hm : (if isW b n 10 t.1 = true then (1 : Int32) else if isW b n 11 t.1 = true then 2 else if isW b n 12 t.1 = true then 4 else 0) = 4 := by rw [if_neg w10, if_neg w11, if_pos w12]
          cases hjg : jg with
          | false =>
            subst hjg
            have hmx : mkL b n M (u + 1 + 1) (t, on, dr, false) = mkL b n M (u + 1) ((nxT b n t.1, none), on, dr, true) := by
              rw [mkL, if_pos ⟨hn, hk⟩, if_neg (fun w => w10 w.1), if_neg (fun w => w11 w.1), if_pos ⟨w12, rfl⟩]
            have mv := mvon 4 hm (by decide) (m3.mpr rfl)
            have o2 := oC_p z1 14 8 (z1.1 14 8 ||| on1 M)
            generalize hy : s_p z1 14 8 (z1.1 14 8 ||| on1 M) = y at *
            have y8 : y.1 14 8 = s.1 14 8 ||| on1 M := by
              rw [← hy, s_p_v, q2.1 14 (by omega), hV.2.2]; rfl
            have O2 : mkO s y M := ⟨fun q a c e => by rw [o2.1 q c, O1.1 q a c e], fun k a c => by rw [o2.2.1 k c, O1.2.1 k a c], fun k a => by rw [o2.1 18 (by omega), O1.2.2.1 k a], by rw [o2.2.2, O1.2.2.2]⟩
            have st : ∀ r, x_R (x_ev g_M P d) 24 (4, [some (.ref 13), some (.int (mrk (!decide (on = 0)) dr false)), some (.int (nI i)), o], [], mkH xs z) r ↔ x_R (x_ev g_M P d) 24 (4, [some (.ref 13), some (.int (mrk (!decide (on = 0)) dr true)), some (.int (nI (i + 1))), some (.int 4)], [], mkH xs y) r := fun r => by
              rw [mv r, m6]
              have sv : (1 : Int32) <<< (nI M &&& 31) = on1 M := rfl
              simp only [w_Reader_readMarks_40, w_Reader_readMarks_52, w_Reader_readMarks_81, w_Reader_readMarks_85, w_Reader_readMarks_89, w_Reader_readMarks_94, w_Reader_readMarks_97, w_Reader_readMarks_102, c_13, f_13_0, f_13_1, f_13_2, p_13_2, f_13_3, p_13_3, f_13_4, p_13_4, f_13_5, p_13_5, f_13_6, p_13_6, f_13_7, p_13_7, c_14, f_14_0, p_14_0, f_14_1, p_14_1, f_14_2, p_14_2, f_14_3, p_14_3, f_14_4, p_14_4, f_14_5, p_14_5, f_14_6, p_14_6, f_14_7, p_14_7, f_14_8, p_14_8, f_14_9, f_14_10, f_14_11, f_14_12, f_14_13, Option.some.injEq, exists_eq_left', exists_eq_left, Option.toList_some, Option.toList_none, List.cons_append, List.nil_append, true_and, and_true, Option.map_some, Option.map_none, show ¬ ((4 : Int32) = 1) by decide, show ¬ ((4 : Int32) = 2) by decide, not_false_eq_true, if_true, z15, sv, hy, nI_1]
            rw [hn] at q3 hokn
            obtain ⟨z', t', g1, g2, g3, g4, g5, g6⟩ := ih (i + 1) ((nxT b n t.1, none), on, dr, true) y (some (.int 4)) (by
              show (if on = 0 then 1 else 0) + ((if dr = true then 0 else 1) + (if true = true then 0 else 1)) = u
              simp only [Bool.false_eq_true, if_false] at hu
              simp only [if_true]
              omega) (by omega) rfl hokn (tk13_o (o2.1 13 (by omega)) q3) O2 ⟨by rw [o2.1 18 (by omega), q2.1 18 (by omega)]; exact hV.1, by rw [o2.2.1 7 (by omega), q2.1 14 (by omega)]; exact hV.2.1, by rw [y8]; rfl⟩
            rw [hmx]
            refine ⟨z', t', ?_, g2, g3, g4, g5, g6⟩
            rw [st]
            exact g1
          | true =>
            subst hjg
            have e : mkL b n M (u + 1 + 1) (t, on, dr, true) = ((t.1, some (1, t.1)), on, dr, true) := by
              rw [mkL, if_pos ⟨hn, hk⟩, if_neg (fun w => w10 w.1), if_neg (fun w => w11 w.1), if_neg (fun w => by cases w.2)]
            obtain ⟨z', t', g⟩ := err hk e
            exact ⟨z', t', g (stop 4 hm (Or.inr (fun w => by rw [m3] at w; cases w)))⟩
        · have hm : (if isW b n 10 t.1 = true then (1 : Int32) else if isW b n 11 t.1 = true then 2 else if isW b n 12 t.1 = true then 4 else 0) = 0 := by rw [if_neg w10, if_neg w11, if_neg w12]
          have w := stop 0 hm (Or.inl rfl)
          by_cases hk : kdT b n t.1 = 3
          · have e : mkL b n M (u + 1 + 1) (t, on, dr, jg) = (t, on, dr, jg) := by rw [mkL, if_neg (fun w => w.2 hk)]
            rw [e]
            exact ⟨z, t, w, htk, hok, Or.inl ⟨rfl, fun _ => rfl⟩, hO, fun _ => hV⟩
          · have e : mkL b n M (u + 1 + 1) (t, on, dr, jg) = ((t.1, some (1, t.1)), on, dr, jg) := by
              rw [mkL, if_pos ⟨hn, hk⟩, if_neg (fun w => w10 w.1), if_neg (fun w => w11 w.1), if_neg (fun w => w12 w.1)]
            obtain ⟨z', t', g⟩ := err hk e
            exact ⟨z', t', g w⟩
theorem t_readMarks (hd : 8 ≤ d) (hP : wdP P) {M : Nat} (hM : M < 8) {s : xS} (h5 : s.1 14 5 = nI M) (h18 : s.1 18 M = 0) (ht : tpC s b n) {t : Tk} (hn : t.2 = none) (hok : tkOk n t) (htk : tk13 s b n t) : ∃ z' t', x_ev g_M P d 24 [.ref 13] (mkH xs s) (none, mkH xs z') ∧ tk13 z' b n t' ∧ tkOk n t' ∧ rlM b n t' (mkL b n M 4 (t, 0, false, false)).1 ∧ mkO s z' M ∧ ((mkL b n M 4 (t, 0, false, false)).1.2 = none → mkV s z' M (mkL b n M 4 (t, 0, false, false)).2) := by
  obtain ⟨d, rfl⟩ := x_1 (d := d) (by omega)
  obtain ⟨z', t', g1, g⟩ := t_mkL (P := P) (d := d) (xs := xs) (by omega) hP hM h5 h18 ht 3 0 (t, 0, false, false) s none rfl (by omega) hn hok htk ⟨fun _ _ _ _ => rfl, fun _ _ _ => rfl, fun _ _ => rfl, rfl⟩ ⟨h18, rfl, rfl⟩
  refine ⟨z', t', ?_, g⟩
  have e : mrk (!decide ((0 : Int32) = 0)) false false = 0 := by decide
  change x_R (x_ev g_M P d) 24 (4, [some (.ref 13), some (.int (mrk (!decide ((0 : Int32) = 0)) false false)), some (.int (nI 0)), none], [], mkH xs s) (none, mkH xs z') at g1
  rw [e] at g1
  rw [x_ev_in rfl (Nat.le_of_ble_eq_true rfl)]
  rw [show x_ent (x_nL g_M 24) [.ref 13] = [some (.ref 13), none, none, none] from rfl]
  rw [w_Reader_readMarks_0]
  exact g1
end MARKS
