/-! town: both sides read the same (own work) -/
def wTown (W : Wd) (T : Tw) : Wd := ((T, [], aBegin T), (wTp W, 0, 0, -1), W.2.2)
theorem rdT_v {b : Nat → Int32} {n : Nat} (hn9 : n ≤ 900) : ∀ (f c : Nat) (t : Tk) (T : Tw), c ≤ t.1 → t.1 ≤ n → tGd T c → (rdT b n f (t, T)).1.2 = none → ∃ c', c' ≤ n ∧ tGd (rdT b n f (t, T)).2 c' := by
  intro f
  induction f with
  | zero => intro c t T h1 h2 h3 _; exact ⟨c, by omega, h3⟩
  | succ f ih =>
    intro c t T h1 h2 h3 h4
    rw [rdT] at h4 ⊢
    by_cases h0 : t.2 = none ∧ kdT b n t.1 ≠ 0
    · rw [if_pos h0] at h4 ⊢
      have h4 : (rdT b n f (rdL b n T t)).1.2 = none := h4
      by_cases hx : (rdL b n T t).1.2 = none
      · obtain ⟨v1, v2, v3⟩ := rdL_v hx h2 (show c < 2 ^ 31 by omega) h3
        exact ih (c + 1) (rdL b n T t).1 (rdL b n T t).2 (by omega) v3 v1 h4
      · rw [rdT_f hx] at h4
        exact absurd h4 hx
    · rw [if_neg h0] at h4 ⊢
      exact ⟨c, by omega, h3⟩
theorem rdA_v {b : Nat → Int32} {n : Nat} (hn9 : n ≤ 900) (h : (rdA b n).1.2 = none) : ∃ c, c ≤ 900 ∧ tGd (rdA b n).2 c := by
  have hsk := skT_le (b := b) (show 0 ≤ n by omega)
  obtain ⟨c, h1, h2⟩ := rdT_v hn9 901 0 (skT b n 0, none) t00 (Nat.zero_le _) hsk.2 t00_gd h
  exact ⟨c, by omega, h2⟩
section RTOWN
variable {P : Nat → List Value → Option Value} {d : Nat} {xs : List Int32} {b : Nat → Int32} {n : Nat}
set_option maxHeartbeats 4000000 in
theorem r_town (hd : 13 ≤ d) (hP : wdP P) {s : xS} (ht : tpR s b n) (h5 : s.1 110 5 = nI n) : ∃ s', x_ev g_M P d 225 [.ref 110] (mkH xs s) (some (.int (rdV (rdA b n))), mkH xs s') ∧ (∀ q, q ≠ 110 → q ≠ 111 → q ≠ 116 → s'.1 q = s.1 q) ∧ (∀ k, k < 5 ∨ 13 < k → s'.1 110 k = s.1 110 k) ∧ s'.2 = s.2 ∧ s'.1 110 5 = 0 ∧ s'.1 110 12 = fkN (rdA b n).1.2 ∧ s'.1 110 13 = fpN (rdA b n).1.2 ∧ ((rdA b n).1.2 ≠ none → s'.1 111 = s.1 111) ∧ ((rdA b n).1.2 = none → refW s' (rdA b n).2 []) := by
  obtain ⟨d, rfl⟩ := x_1 (d := d) (by omega)
  have n9 := ht.1
  generalize hy : s_p (s_p (s_p (s_p (s_p s 110 7 (nI n)) 110 5 0) 110 8 0) 110 12 0) 110 13 (-1) = y
  have yo : ∀ q, q ≠ 110 → y.1 q = s.1 q := fun q hq => by rw [← hy]; funext k; simp [s_p, hq]
  have yk : ∀ k, k < 5 ∨ 13 < k → y.1 110 k = s.1 110 k := fun k hk => by
    have e1 : ¬ k = 7 := by omega
    have e2 : ¬ k = 5 := by omega
    have e3 : ¬ k = 8 := by omega
    have e4 : ¬ k = 12 := by omega
    have e5 : ¬ k = 13 := by omega
    rw [← hy]; simp [s_p, e1, e2, e3, e4, e5]
  have yl : y.2 = s.2 := by rw [← hy]; rfl
  have y5 : y.1 110 5 = 0 := by rw [← hy]; simp [s_p]
  have y7 : y.1 110 7 = nI n := by rw [← hy]; simp [s_p]
  have y8 : y.1 110 8 = nI 0 := by rw [← hy]; simp [s_p]; rfl
  have y12 : y.1 110 12 = 0 := by rw [← hy]; simp [s_p]
  have y13 : y.1 110 13 = -1 := by rw [← hy]; simp [s_p]
  -- all of fresh is 0
  obtain ⟨z, ⟨zo, zf, zl⟩, e⟩ := x_upY (C := x_ev g_M P d) (k := 225) (N := 135) (β := xS) (R := fun m z => (∀ q, q ≠ 116 → z.1 q = y.1 q) ∧ (∀ j, j < m → z.1 116 j = 0) ∧ z.2 = y.2) (F := fun m z => (30, [some (.ref 110), some (.int (nI m))], [], mkH xs z)) (fun m z hm hz => by
    obtain ⟨h1, h2, h3⟩ := hz
    have hc : ¬ 135 ≤ nI m := nI_ge (b := 135) hm (by omega)
    have o := oC_p z 116 m 0
    refine ⟨s_p z 116 m 0, ⟨fun q hq => by rw [o.1 q hq, h1 q hq], fun j hj => ?_, h3⟩, fun r => ?_⟩
    · by_cases hj2 : j = m
      · rw [hj2, s_p_v]
      · rw [o.2.1 j hj2]; exact h2 j (by omega)
    · simp only [w_Ref_town_30 (l1 := nI m), w_Ref_town_37, w_Ref_town_41, w_Ref_town_44, c_110, f_110_0, p_110_0, f_110_1, f_110_2, f_110_3, f_110_4, f_110_5, p_110_5, f_110_6, f_110_7, p_110_7, f_110_8, p_110_8, f_110_9, p_110_9, f_110_10, p_110_10, f_110_11, p_110_11, f_110_12, p_110_12, f_110_13, p_110_13, f_110_14, f_110_15, f_110_16, p_110_16, f_110_17, f_110_18, p_110_18, f_110_19, p_110_19, f_110_20, f_110_21, p_110_21, f_110_22, p_110_22, f_110_23, f_110_24, f_110_25, p_110_25, f_110_26, f_110_27, f_110_28, f_110_29, f_110_30, f_110_31, p_110_31, f_110_32, p_110_32, f_110_33, p_110_33, f_110_34, p_110_34, f_110_35, f_110_36, f_110_37, f_110_38, e_116, i_116, Option.some.injEq, exists_eq_left', exists_eq_left, Option.toList_some, Option.toList_none, List.cons_append, List.nil_append, true_and, and_true, Option.map_some, Option.map_none, hc, if_false, rd116 z hm, nI_clamp (show m < 2 ^ 31 by omega), nI_1]) 135 0 y (by omega) ⟨fun _ _ => rfl, fun j hj => absurd hj (Nat.not_lt_zero _), rfl⟩
  have z110 : z.1 110 = y.1 110 := zo 110 (by omega)
  have htz : tpR z b n := ht.off (by rw [zo 114 (by omega), yo 114 (by omega)])
  obtain ⟨s2, b1, b2, b3, b4, b5, b6, b7, b8⟩ := r_adv0 (P := P) (d := d) (xs := xs) (by omega) htz (e := 0) (by omega) (by rw [z110]; exact y7) (by rw [z110]; exact y8)
  have htk : tkR s2 b n (skT b n 0, none) := ⟨by rw [b3 7 (by omega), z110]; exact y7, b6, b5, b7, b8, by rw [b3 12 (by omega), z110]; exact y12, by rw [b3 13 (by omega), z110]; exact y13⟩
  have hf0 : frF s2 t00 := by
    refine frF_o (b2 116 (by omega)) ⟨⟨zf 0 (by omega), zf 1 (by omega), zf 2 (by omega), zf 3 (by omega), zf 4 (by omega), zf 5 (by omega), zf 6 (by omega)⟩, fun p h => absurd h (Nat.not_lt_zero _), fun p h => absurd h (Nat.not_lt_zero _)⟩
  have hsk := skT_le (b := b) (show 0 ≤ n by omega)
  obtain ⟨s3, c1, c2, c3, c4, c5⟩ := r_rdL (P := P) (d := d) (xs := xs) (l1 := nI 135) (s := s2) (by omega) hP 901 0 (skT b n 0, none) t00 s2 (by show n < skT b n 0 + 901; omega) (by omega) rfl ⟨hsk.2, fOk_n⟩ t00_gd (htz.off (b2 114 (by omega))) htk hf0 offF.rf
  have c2 : tkR s3 b n (rdA b n).1 := c2
  have c3 : fOk (rdA b n).1.2 := c3
  have c5 : (rdA b n).1.2 = none → frF s3 (rdA b n).2 := c5
  have st : ∀ r, x_ev g_M P (d + 1) 225 [.ref 110] (mkH xs s) r ↔ x_R (x_ev g_M P d) 225 (75, [some (.ref 110), some (.int (nI 135))], [], mkH xs s3) r := fun r => by
    rw [← c1 r]
    rw [x_ev_in rfl (Nat.le_of_ble_eq_true rfl)]
    rw [show x_ent (x_nL g_M 225) [.ref 110] = [some (.ref 110), none] from rfl]
    simp only [w_Ref_town_0, w_Ref_town_5, w_Ref_town_8, w_Ref_town_13, w_Ref_town_18, w_Ref_town_23, w_Ref_town_28, c_110, f_110_0, p_110_0, f_110_1, f_110_2, f_110_3, f_110_4, f_110_5, p_110_5, f_110_6, f_110_7, p_110_7, f_110_8, p_110_8, f_110_9, p_110_9, f_110_10, p_110_10, f_110_11, p_110_11, f_110_12, p_110_12, f_110_13, p_110_13, f_110_14, f_110_15, f_110_16, p_110_16, f_110_17, f_110_18, p_110_18, f_110_19, p_110_19, f_110_20, f_110_21, p_110_21, f_110_22, p_110_22, f_110_23, f_110_24, f_110_25, p_110_25, f_110_26, f_110_27, f_110_28, f_110_29, f_110_30, f_110_31, p_110_31, f_110_32, p_110_32, f_110_33, p_110_33, f_110_34, p_110_34, f_110_35, f_110_36, f_110_37, f_110_38, Option.some.injEq, exists_eq_left', exists_eq_left, Option.toList_some, Option.toList_none, List.cons_append, List.nil_append, true_and, and_true, Option.map_some, Option.map_none, h5, hy]
    refine (e r).trans ?_
    simp only [w_Ref_town_30 (l1 := nI 135), w_Ref_town_50, c_110, f_110_0, p_110_0, f_110_1, f_110_2, f_110_3, f_110_4, f_110_5, p_110_5, f_110_6, f_110_7, p_110_7, f_110_8, p_110_8, f_110_9, p_110_9, f_110_10, p_110_10, f_110_11, p_110_11, f_110_12, p_110_12, f_110_13, p_110_13, f_110_14, f_110_15, f_110_16, p_110_16, f_110_17, f_110_18, p_110_18, f_110_19, p_110_19, f_110_20, f_110_21, p_110_21, f_110_22, p_110_22, f_110_23, f_110_24, f_110_25, p_110_25, f_110_26, f_110_27, f_110_28, f_110_29, f_110_30, f_110_31, p_110_31, f_110_32, p_110_32, f_110_33, p_110_33, f_110_34, p_110_34, f_110_35, f_110_36, f_110_37, f_110_38, Option.some.injEq, exists_eq_left', exists_eq_left, Option.toList_some, Option.toList_none, List.cons_append, List.nil_append, true_and, and_true, Option.map_some, Option.map_none, show (135 : Int32) ≤ nI 135 by decide, if_true, x_ev_iff b1]
  have s3o : ∀ q, q ≠ 110 → q ≠ 116 → s3.1 q = s.1 q := fun q h1 h2 => by rw [c4.1 q h1 h2, b2 q h1, zo q h2, yo q h1]
  have s3k : ∀ k, k < 5 ∨ 13 < k → s3.1 110 k = s.1 110 k := fun k hk => by rw [c4.2.1 k (by omega), b3 k (by omega), z110, yk k hk]
  have s3l : s3.2 = s.2 := by rw [c4.2.2, b4, zl, yl]
  have s35 : s3.1 110 5 = 0 := by rw [c4.2.1 5 (by omega), b3 5 (by omega), z110, y5]
  have g12 := c2.2.2.2.2.2.1
  have g13 := c2.2.2.2.2.2.2
  by_cases hn : (rdA b n).1.2 = none
  · have hf := c5 hn
    -- the world becomes the fresh one
    obtain ⟨v, ⟨vo, vf, vl⟩, e2⟩ := x_upY (C := x_ev g_M P d) (k := 225) (N := 135) (β := xS) (R := fun m v => (∀ q, q ≠ 111 → v.1 q = s3.1 q) ∧ (∀ j, j < m → v.1 111 j = s3.1 116 j) ∧ v.2 = s3.2) (F := fun m v => (87, [some (.ref 110), some (.int (nI m))], [], mkH xs v)) (fun m v hm hz => by
      obtain ⟨h1, h2, h3⟩ := hz
      have hc : ¬ 135 ≤ nI m := nI_ge (b := 135) hm (by omega)
      have o := oC_p v 111 m (v.1 116 m)
      have hx : x_rd (v.1 111) 135 (nI m) = some (v.1 111 m) := x_rd_nI hm (by omega)
      refine ⟨s_p v 111 m (v.1 116 m), ⟨fun q hq => by rw [o.1 q hq, h1 q hq], fun j hj => ?_, h3⟩, fun r => ?_⟩
      · by_cases hj2 : j = m
        · rw [hj2, s_p_v, h1 116 (by omega)]
        · rw [o.2.1 j hj2]; exact h2 j (by omega)
      · simp only [w_Ref_town_87 (l1 := nI m), w_Ref_town_94, w_Ref_town_98, w_Ref_town_103, w_Ref_town_105, w_Ref_town_106, c_110, f_110_0, p_110_0, f_110_1, f_110_2, f_110_3, f_110_4, f_110_5, p_110_5, f_110_6, f_110_7, p_110_7, f_110_8, p_110_8, f_110_9, p_110_9, f_110_10, p_110_10, f_110_11, p_110_11, f_110_12, p_110_12, f_110_13, p_110_13, f_110_14, f_110_15, f_110_16, p_110_16, f_110_17, f_110_18, p_110_18, f_110_19, p_110_19, f_110_20, f_110_21, p_110_21, f_110_22, p_110_22, f_110_23, f_110_24, f_110_25, p_110_25, f_110_26, f_110_27, f_110_28, f_110_29, f_110_30, f_110_31, p_110_31, f_110_32, p_110_32, f_110_33, p_110_33, f_110_34, p_110_34, f_110_35, f_110_36, f_110_37, f_110_38, e_111, i_111, e_116, i_116, Option.some.injEq, exists_eq_left', exists_eq_left, Option.toList_some, Option.toList_none, List.cons_append, List.nil_append, true_and, and_true, Option.map_some, Option.map_none, hc, if_false, rd116 v hm, hx, nI_clamp (show m < 2 ^ 31 by omega), nI_1]) 135 0 s3 (by omega) ⟨fun _ _ => rfl, fun j hj => absurd hj (Nat.not_lt_zero _), rfl⟩
    have v110 : v.1 110 = s3.1 110 := vo 110 (by omega)
    have hv : rdV (rdA b n) = tLi (rdA b n).2 := by unfold rdV; rw [if_pos hn]
    have e5 : v.1 111 5 = tLi (rdA b n).2 := by rw [vf 5 (by omega)]; exact hf.1.2.2.2.2.2.1
    have x5 : x_rd (v.1 111) 135 5 = some (v.1 111 5) := x_rd_nI (show 5 < 135 by omega) (by omega)
    refine ⟨v, ?_, fun q h1 h2 h3 => by rw [vo q h2, s3o q h1 h3], fun k hk => by rw [v110, s3k k hk], by rw [vl, s3l], by rw [v110, s35], by rw [v110, g12], by rw [v110, g13], fun w => absurd hn w, fun _ => ?_⟩
    · rw [st, hv]
      simp only [w_Ref_town_75, w_Ref_town_79, w_Ref_town_85, c_110, f_110_0, p_110_0, f_110_1, f_110_2, f_110_3, f_110_4, f_110_5, p_110_5, f_110_6, f_110_7, p_110_7, f_110_8, p_110_8, f_110_9, p_110_9, f_110_10, p_110_10, f_110_11, p_110_11, f_110_12, p_110_12, f_110_13, p_110_13, f_110_14, f_110_15, f_110_16, p_110_16, f_110_17, f_110_18, p_110_18, f_110_19, p_110_19, f_110_20, f_110_21, p_110_21, f_110_22, p_110_22, f_110_23, f_110_24, f_110_25, p_110_25, f_110_26, f_110_27, f_110_28, f_110_29, f_110_30, f_110_31, p_110_31, f_110_32, p_110_32, f_110_33, p_110_33, f_110_34, p_110_34, f_110_35, f_110_36, f_110_37, f_110_38, Option.some.injEq, exists_eq_left', exists_eq_left, Option.toList_some, Option.toList_none, List.cons_append, List.nil_append, true_and, and_true, Option.map_some, Option.map_none, r_good (d := d) (by omega) c3 c2, hn, decide_true, b01, if_true, show ¬ ((1 : Int32) = 0) by decide, not_false_eq_true]
      refine (e2 _).mpr ?_
      simp only [w_Ref_town_87 (l1 := nI 135), w_Ref_town_112, w_Ref_town_116, w_Ref_town_118, c_110, f_110_0, p_110_0, f_110_1, f_110_2, f_110_3, f_110_4, f_110_5, p_110_5, f_110_6, f_110_7, p_110_7, f_110_8, p_110_8, f_110_9, p_110_9, f_110_10, p_110_10, f_110_11, p_110_11, f_110_12, p_110_12, f_110_13, p_110_13, f_110_14, f_110_15, f_110_16, p_110_16, f_110_17, f_110_18, p_110_18, f_110_19, p_110_19, f_110_20, f_110_21, p_110_21, f_110_22, p_110_22, f_110_23, f_110_24, f_110_25, p_110_25, f_110_26, f_110_27, f_110_28, f_110_29, f_110_30, f_110_31, p_110_31, f_110_32, p_110_32, f_110_33, p_110_33, f_110_34, p_110_34, f_110_35, f_110_36, f_110_37, f_110_38, e_111, i_111, Option.some.injEq, exists_eq_left', exists_eq_left, Option.toList_some, Option.toList_none, List.cons_append, List.nil_append, true_and, and_true, Option.map_some, Option.map_none, show (135 : Int32) ≤ nI 135 by decide, if_true, x5, e5]
    · obtain ⟨⟨f0, f1, f2, f3, f4, f5, f6⟩, fp, fm⟩ := hf
      obtain ⟨c, hc9, hG⟩ := rdA_v n9 hn
      have w1 := hG.2.1.1
      have w2 := hG.2.1.2.1
      refine ⟨⟨⟨by rw [vf 0 (by omega)]; exact f0, by rw [vf 1 (by omega)]; exact f1, by rw [vf 2 (by omega)]; exact f2, by rw [vf 3 (by omega)]; exact f3, by rw [vf 4 (by omega)]; exact f4, by rw [vf 5 (by omega)]; exact f5⟩, fun p hp => ?_, fun m hm w hw => ?_⟩, by rw [vf 6 (by omega)]; exact f6, fun i hi => absurd hi (Nat.not_lt_zero _), Nat.zero_le _⟩
      · rw [Nat.zero_add, Nat.zero_add, vf _ (by omega), vf _ (by omega)]
        exact fp p hp
      · rw [Nat.zero_add, vf _ (by omega)]
        exact fm m hm w hw
  · have hv : rdV (rdA b n) = -4 := by unfold rdV; rw [if_neg hn]
    refine ⟨s3, ?_, fun q h1 _ h3 => s3o q h1 h3, s3k, s3l, s35, g12, g13, fun _ => s3o 111 (by omega) (by omega), fun w => absurd w hn⟩
    rw [st, hv]
    simp only [w_Ref_town_75, w_Ref_town_79, w_Ref_town_82, c_110, f_110_0, p_110_0, f_110_1, f_110_2, f_110_3, f_110_4, f_110_5, p_110_5, f_110_6, f_110_7, p_110_7, f_110_8, p_110_8, f_110_9, p_110_9, f_110_10, p_110_10, f_110_11, p_110_11, f_110_12, p_110_12, f_110_13, p_110_13, f_110_14, f_110_15, f_110_16, p_110_16, f_110_17, f_110_18, p_110_18, f_110_19, p_110_19, f_110_20, f_110_21, p_110_21, f_110_22, p_110_22, f_110_23, f_110_24, f_110_25, p_110_25, f_110_26, f_110_27, f_110_28, f_110_29, f_110_30, f_110_31, p_110_31, f_110_32, p_110_32, f_110_33, p_110_33, f_110_34, p_110_34, f_110_35, f_110_36, f_110_37, f_110_38, Option.some.injEq, exists_eq_left', exists_eq_left, Option.toList_some, Option.toList_none, List.cons_append, List.nil_append, true_and, and_true, Option.map_some, Option.map_none, r_good (d := d) (by omega) c3 c2, hn, decide_false, b01, Bool.false_eq_true, if_false, not_true_eq_false]
end RTOWN
section KTOWN
variable {P : Nat → List Value → Option Value} {W : Wd}
set_option maxHeartbeats 4000000 in
theorem k_town (hP : wdP P) (h : wOk W) : do2 P 113 225 [] W := by
  have h0 := h
  obtain ⟨hK, hl60, hr, hn9, htp, hsl, him⟩ := h
  by_cases hn : (rdA (wTp W) (wTn W)).1.2 = none
  · obtain ⟨c, hc9, hG⟩ := rdA_v hn9 hn
    have hW := hG.2.1
    have hv : rdV (rdA (wTp W) (wTn W)) = tLi (rdA (wTp W) (wTn W)).2 := by unfold rdV; rw [if_pos hn]
    refine ⟨wTown W (rdA (wTp W) (wTn W)).2, tLi (rdA (wTp W) (wTn W)).2, ⟨tGd_ok hG hc9, Nat.zero_le _, rfl, Nat.zero_le _, htp, hsl, him⟩, fun d xs s hd hC => ?_, fun d xs s hd hC => ?_⟩
    · obtain ⟨⟨c1, c2, c3, c4⟩, ⟨d1, d2, d3, d4⟩, e, f⟩ := hC
      obtain ⟨d, rfl⟩ := x_1 (d := d) (by omega)
      obtain ⟨s1, a1, a2, a3, a4, a5, a6⟩ := t_read (P := P) (d := d) (xs := xs) (by omega) hP (s := s) (b := wTp W) (n := wTn W) ⟨hn9, d2⟩
      have hm := (a6 hn).1
      rw [hv] at a1
      have o1 := oC_p s1 1 1 0
      have v1 : (s_p s1 1 1 0).1 1 1 = 0 := s_p_v _ _ _ _
      generalize hy1 : s_p s1 1 1 0 = y1 at *
      have T14 : clsT y1 14 (rdA (wTp W) (wTn W)).2 := clsT_at (fun q x y => o1.1 q (by omega)) hm.1
      obtain ⟨s2, b1, b2, b3, b4⟩ := t_copyFrom (P := P) (d := d) (xs := xs) (s := y1) (by omega) (p := 3) (p' := 14) (by decide) (by decide) (by omega)
      have T3 := b4 _ hW T14
      have o3 := oC_p s2 1 6 0
      have v3 : (s_p s2 1 6 0).1 1 6 = 0 := s_p_v _ _ _ _
      generalize hy3 : s_p s2 1 6 0 = y3 at *
      have T33 : clsT y3 3 (rdA (wTp W) (wTn W)).2 := clsT_at (fun q x y => o3.1 q (by omega)) T3
      obtain ⟨s4, g1, g2, g3⟩ := s_begin (P := P) (d := d) (xs := xs) (by omega) (p := 9) (by decide) T33 hW
      have all : ∀ q, q = 2 ∨ q = 12 ∨ q = 13 ∨ 19 < q → s4.1 q = s1.1 q := fun q hq => by rw [g2.1 q (by omega) (by omega) (by omega), o3.1 q (by omega), b2 q (by omega), o1.1 q (by omega)]
      have all2 : s4.2 = s.2 := by rw [g2.2, o3.2.2, b3, o1.2.2, a2.2]
      have f1 : s4.1 1 = y3.1 1 := g2.1 1 (by omega) (by omega) (by omega)
      have pos : 0 ≤ tLi (rdA (wTp W) (wTn W)).2 := by rw [hG.1]; exact nI_pos' (by omega)
      refine ⟨s4, ?_, ⟨⟨clsT_at (fun q x y => g2.1 q (by omega) (by omega) (by omega)) T33, g3, by rw [f1]; exact v3, fun i hi => absurd hi (Nat.not_lt_zero _)⟩, ⟨by rw [f1, o3.2.1 1 (by omega), b2 1 (by omega)]; exact v1, fun i hi => by rw [all 2 (by omega), a2.1 2 (by omega)]; exact d2 i hi, by rw [all 13 (by omega), a3, hn]; rfl, by rw [all 13 (by omega), a4, hn]; rfl⟩, fun i hi => slC_at (by rw [all _ (by omega), a2.1 _ (by omega)]) (by rw [all2]) (e i hi), fun k hk => imC_at (fun q x y => by rw [all q (by omega), a2.1 q (by omega)]) (f k hk)⟩, fun q hq => ⟨by rw [all q (by omega), a2.1 q (by omega)], by rw [all2]⟩⟩
      rw [x_ev_in rfl (Nat.le_of_ble_eq_true rfl)]
      rw [show x_ent (x_nL g_M 113) [.ref 1] = [some (.ref 1), none] from rfl]
      simp only [w_Top_town_0, w_Top_town_4, w_Top_town_8, w_Top_town_11, w_Top_town_17, w_Top_town_21, w_Top_town_24, w_Top_town_28, w_Top_town_32, w_Top_town_35, w_Top_town_38, w_Top_town_43, w_Top_town_47, w_Top_town_50, c_1, f_1_0, f_1_1, p_1_1, f_1_2, f_1_3, f_1_4, f_1_5, f_1_6, p_1_6, f_1_7, f_1_8, f_1_9, f_1_10, f_1_11, f_1_12, f_1_13, f_1_14, c_3, f_3_0, p_3_0, f_3_1, p_3_1, f_3_2, p_3_2, f_3_3, p_3_3, f_3_4, p_3_4, f_3_5, p_3_5, f_3_6, p_3_6, f_3_7, p_3_7, f_3_8, p_3_8, f_3_9, f_3_10, f_3_11, f_3_12, f_3_13, c_9, f_9_0, f_9_1, p_9_1, f_9_2, p_9_2, f_9_3, p_9_3, f_9_4, p_9_4, f_9_5, f_9_6, c_13, f_13_0, f_13_1, f_13_2, p_13_2, f_13_3, p_13_3, f_13_4, p_13_4, f_13_5, p_13_5, f_13_6, p_13_6, f_13_7, p_13_7, Option.some.injEq, exists_eq_left', exists_eq_left, Option.toList_some, Option.toList_none, List.cons_append, List.nil_append, true_and, and_true, Option.map_some, Option.map_none, d1, x_ev_iff a1, hy1, pos, if_true, x_ev_iff b1, hy3, x_ev_iff g1]
    · obtain ⟨hR, ⟨d1, d2, d3, d4⟩, e, f⟩ := hC
      obtain ⟨s1, a1, a2, a3, a4, a5, a6, a7, a8, a9⟩ := r_town (P := P) (d := d) (xs := xs) (by omega) hP (s := s) (b := wTp W) (n := wTn W) ⟨hn9, d2, htp⟩ d1
      rw [hv] at a1
      refine ⟨s1, a1, ⟨a9 hn, ⟨a5, fun i hi => by rw [a2 114 (by omega) (by omega) (by omega)]; exact d2 i hi, by rw [a6, hn]; rfl, by rw [a7, hn]; rfl⟩, fun i hi => slR_at (by rw [a2 127 (by omega) (by omega) (by omega)]) (by rw [a2 128 (by omega) (by omega) (by omega)]) (fun j _ => by rw [a4]) (e i hi), fun k hk => imR_at (a2 112 (by omega) (by omega) (by omega)) (a2 113 (by omega) (by omega) (by omega)) (f k hk)⟩, fun q hq => ⟨a2 q (by omega) (by omega) (by omega), by rw [a4]⟩⟩
  · have hv : rdV (rdA (wTp W) (wTn W)) = -4 := by unfold rdV; rw [if_neg hn]
    refine ⟨wTape W (wTp W) 0 (fkN (rdA (wTp W) (wTn W)).1.2) (fpN (rdA (wTp W) (wTn W)).1.2), -4, wOk_tp h0 (Nat.zero_le _) htp, fun d xs s hd hC => ?_, fun d xs s hd hC => ?_⟩
    · have hC0 := hC
      obtain ⟨⟨c1, c2, c3, c4⟩, ⟨d1, d2, d3, d4⟩, e, f⟩ := hC
      obtain ⟨d, rfl⟩ := x_1 (d := d) (by omega)
      obtain ⟨s1, a1, a2, a3, a4, a5, a6⟩ := t_read (P := P) (d := d) (xs := xs) (by omega) hP (s := s) (b := wTp W) (n := wTn W) ⟨hn9, d2⟩
      rw [hv] at a1
      have o1 := oC_p s1 1 1 0
      have v1 : (s_p s1 1 1 0).1 1 1 = 0 := s_p_v _ _ _ _
      generalize hy1 : s_p s1 1 1 0 = y1 at *
      refine ⟨y1, ?_, cW_tp hC0 (fun q x y z => by rw [o1.1 q x, a2.1 q (by omega)]) (fun q hq => by rw [o1.2.2, a2.2]) (by rw [o1.2.1 6 (by omega), a2.1 1 (by omega)]) v1 (fun i hi => by rw [o1.1 2 (by omega), a2.1 2 (by omega)]; exact d2 i hi) (by rw [o1.1 13 (by omega)]; exact a3) (by rw [o1.1 13 (by omega)]; exact a4), fun q hq => ⟨by rw [o1.1 q (by omega), a2.1 q (by omega)], by rw [o1.2.2, a2.2]⟩⟩
      rw [x_ev_in rfl (Nat.le_of_ble_eq_true rfl)]
      rw [show x_ent (x_nL g_M 113) [.ref 1] = [some (.ref 1), none] from rfl]
      simp only [w_Top_town_0, w_Top_town_4, w_Top_town_8, w_Top_town_11, w_Top_town_17, w_Top_town_21, w_Top_town_24, w_Top_town_28, w_Top_town_32, w_Top_town_35, w_Top_town_38, w_Top_town_43, w_Top_town_47, w_Top_town_50, c_1, f_1_0, f_1_1, p_1_1, f_1_2, f_1_3, f_1_4, f_1_5, f_1_6, p_1_6, f_1_7, f_1_8, f_1_9, f_1_10, f_1_11, f_1_12, f_1_13, f_1_14, c_13, f_13_0, f_13_1, f_13_2, p_13_2, f_13_3, p_13_3, f_13_4, p_13_4, f_13_5, p_13_5, f_13_6, p_13_6, f_13_7, p_13_7, Option.some.injEq, exists_eq_left', exists_eq_left, Option.toList_some, Option.toList_none, List.cons_append, List.nil_append, true_and, and_true, Option.map_some, Option.map_none, d1, x_ev_iff a1, hy1, show ¬ (0 : Int32) ≤ -4 by decide, if_false]
    · have hC0 := hC
      obtain ⟨hR, ⟨d1, d2, d3, d4⟩, e, f⟩ := hC
      obtain ⟨s1, a1, a2, a3, a4, a5, a6, a7, a8, a9⟩ := r_town (P := P) (d := d) (xs := xs) (by omega) hP (s := s) (b := wTp W) (n := wTn W) ⟨hn9, d2, htp⟩ d1
      rw [hv] at a1
      have e111 := a8 hn
      refine ⟨s1, a1, rW_tp hC0 (fun q x y z => ?_) (fun q _ _ => by rw [a4]) a5 (fun i hi => by rw [a2 114 (by omega) (by omega) (by omega)]; exact d2 i hi) a6 a7, fun q hq => ⟨a2 q (by omega) (by omega) (by omega), by rw [a4]⟩⟩
      by_cases hq : q = 111
      · rw [hq]; exact e111
      · exact a2 q x hq (by omega)
end KTOWN
