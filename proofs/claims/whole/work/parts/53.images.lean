/-! image, back (own work) -/
def wImg (W : Wd) (k : Nat) (o : Option (Tw × List Int32)) : Wd := (W.1, W.2.1, wSl W, fun j => if j = k then o else wIm W j)
theorem cW_im {s s' : xS} {W : Wd} {k : Nat} {o : Option (Tw × List Int32)} (hC : cW s W) (hk : k < 3) (h : ∀ q, q < 86 + 8 * k ∨ 93 + 8 * k < q → s'.1 q = s.1 q) (h2 : s'.2 = s.2) (hz : imC s' k o) : cW s' (wImg W k o) := by
  obtain ⟨⟨c1, c2, c3, c4⟩, ⟨d1, d2, d3, d4⟩, e, f⟩ := hC
  refine ⟨⟨clsT_at (fun q a b => h q (by omega)) c1, clsS_at (fun q a b => h q (by omega)) c2, ?_, ?_⟩, ⟨?_, ?_, ?_, ?_⟩, fun i hi => slC_at (h _ (by omega)) (by rw [h2]) (e i hi), fun j hj => ?_⟩
  · rw [h 1 (by omega)]; exact c3
  · rw [h 12 (by omega)]; exact c4
  · rw [h 1 (by omega)]; exact d1
  · rw [h 2 (by omega)]; exact d2
  · rw [h 13 (by omega)]; exact d3
  · rw [h 13 (by omega)]; exact d4
  · show imC s' j (if j = k then o else wIm W j)
    by_cases hjk : j = k
    · subst hjk
      rw [if_pos rfl]
      exact hz
    · rw [if_neg hjk]
      exact imC_at (fun q a b => h q (by omega)) (f j hj)
theorem rW_im {s s' : xS} {W : Wd} {k : Nat} {o : Option (Tw × List Int32)} (h0 : wOk W) (hC : rW s W) (hk : k < 3) (h : ∀ q, q ≠ 112 → q ≠ 113 → s'.1 q = s.1 q) (h3 : ∀ j, j ≠ k → s'.1 113 j = s.1 113 j) (h4 : ∀ i, i < 135 * k ∨ 135 * k + 135 ≤ i → s'.1 112 i = s.1 112 i) (h2 : s'.2 = s.2) (hz : imR s' k o) : rW s' (wImg W k o) := by
  obtain ⟨c1, ⟨d1, d2, d3, d4⟩, e, f⟩ := hC
  refine ⟨refW_at (h 111 (by omega) (by omega)) c1, ⟨?_, ?_, ?_, ?_⟩, fun i hi => slR_at (by rw [h 127 (by omega) (by omega)]) (by rw [h 128 (by omega) (by omega)]) (fun j _ => by rw [h2]) (e i hi), fun j hj => ?_⟩
  · rw [h 110 (by omega) (by omega)]; exact d1
  · rw [h 114 (by omega) (by omega)]; exact d2
  · rw [h 110 (by omega) (by omega)]; exact d3
  · rw [h 110 (by omega) (by omega)]; exact d4
  · show imR s' j (if j = k then o else wIm W j)
    by_cases hjk : j = k
    · subst hjk
      rw [if_pos rfl]
      exact hz
    · rw [if_neg hjk]
      have fj := f j hj
      have oj := h0.2.2.2.2.2.2 j hj
      cases hw : wIm W j with
      | none =>
        rw [hw] at fj
        show s'.1 113 j = 0
        rw [h3 j hjk]
        exact fj
      | some z =>
        rw [hw] at fj oj
        obtain ⟨f1, f2, f3, f4⟩ := fj
        have ok := oj z rfl
        refine ⟨by rw [h3 j hjk]; exact f1, refT_pl ok.1.1 (fun i a b => h4 _ (by omega)) f2, by rw [h4 _ (by omega)]; exact f3, fun i hi => by rw [h4 _ (by have := ok.2.1; omega)]; exact f4 i hi⟩
theorem wOk_im {W : Wd} {k : Nat} {o : Option (Tw × List Int32)} (h : wOk W) (ho : iOk o) : wOk (wImg W k o) := by
  refine ⟨h.1, h.2.1, h.2.2.1, h.2.2.2.1, h.2.2.2.2.1, h.2.2.2.2.2.1, fun j hj => ?_⟩
  show iOk (if j = k then o else wIm W j)
  split
  · exact ho
  · exact h.2.2.2.2.2.2 j hj
theorem lt2 (x : Int32) : (2 : Int64) < x.toInt64 ↔ nI 3 ≤ x := by
  have h := nI_pr (n := 3) (by omega) x
  rw [show nI 3 - 1 = 2 by decide] at h
  exact (w_lt 2 x).trans h
section IMAGES
variable {P : Nat → List Value → Option Value} {W : Wd}
set_option maxHeartbeats 4000000 in
theorem k_image (h : wOk W) (x : Int32) : do2 P 183 192 [.int x] W := by
  have h' := h
  obtain ⟨hK, hl60, hr, hrest⟩ := h; have hW := hK.1; have hO := aOk_run hK _ _ _ (aOk_begin hK) hr; have hAw := hO.1; have w1 := hW.1; have w2 := hW.2.1; have h9 : 9 ∈ g_SP := by decide
  have e0 : x.toInt64 < 0 ↔ x < 0 := w_lt x 0
  have h3n : ∀ y : Int32, y < 3 ↔ ¬ nI 3 ≤ y := fun y => Int32.not_le.symm
  rcases has_cs (n := 3) (by omega) x with h0 | ⟨k, hk, rfl, h1⟩
  · refine ask2.do h' ⟨-2, cAsk0 ?_, rAsk0 ?_⟩
    · intro d xs s hd hC
      obtain ⟨d, rfl⟩ := x_1 (d := d) (by omega)
      rw [x_ev_in rfl (Nat.le_of_ble_eq_true rfl)]
      rw [show x_ent (x_nL g_M 183) [.ref 1, .int x] = [some (.ref 1), some (.int x)] from rfl]
      by_cases hx : x < 0
      · simp only [w_Top_image_0, w_Top_image_4, w_Top_image_9, w_Top_image_12, w_Top_image_16, w_Top_image_18, w_Top_image_22, w_Top_image_26, w_Top_image_30, w_Top_image_33, hx, if_true]
      · have hx3 : nI 3 ≤ x := by
          by_cases hz : nI 3 ≤ x
          · exact hz
          · rw [if_neg hx, if_neg hz] at h0
            exact absurd h0 (by decide)
        simp only [w_Top_image_0, w_Top_image_4, w_Top_image_9, w_Top_image_12, w_Top_image_16, w_Top_image_18, w_Top_image_22, w_Top_image_26, w_Top_image_30, w_Top_image_33, hx, if_false, h3n, hx3, not_true_eq_false]
    · intro d xs s hd hC
      obtain ⟨d, rfl⟩ := x_1 (d := d) (by omega)
      rw [x_ev_in rfl (Nat.le_of_ble_eq_true rfl)]
      rw [show x_ent (x_nL g_M 192) [.ref 110, .int x] = [some (.ref 110), some (.int x), none] from rfl]
      simp only [w_Ref_image_0, w_Ref_image_9, w_Ref_image_12, w_Ref_image_15, w_Ref_image_24, w_Ref_image_28, w_Ref_image_39, w_Ref_image_41, w_Ref_image_42, w_Ref_image_48, w_Ref_image_52, w_Ref_image_55, Option.some.injEq, exists_eq_left', exists_eq_left, Option.toList_some, Option.toList_none, List.cons_append, List.nil_append, true_and, and_true, Option.map_some, Option.map_none, r_in (d := d) (by omega), e0, lt2, h0, not_true_eq_false, if_false]
  · have k1 : ¬ nI k < 0 := nI_pos (by omega)
    have k2 : nI k < 3 := nI_lt (b := 3) hk (by omega)
    refine ⟨wImg W k (some (wT W, wAc W)), 0, wOk_im h' (fun z hz => by cases hz; exact ⟨hK, hl60, _, hr⟩), ?_, ?_⟩
    · intro d xs s hd hC
      obtain ⟨⟨hT, hA, hn, hacts⟩, -⟩ := id hC
      obtain ⟨d, rfl⟩ := x_1 (d := d) (by omega)
      obtain ⟨d, rfl⟩ := x_1 (d := d) (by omega)
      obtain ⟨s1, q1, q2, q3, q4⟩ := t_copyFrom (P := P) (d := d) (xs := xs) (s := s_p s (86 + 8 * k) 0 1) (by omega) (im_tp hk) (show 3 ∈ g_TP by decide) (by omega)
      have hT0 : clsT (s_p s (86 + 8 * k) 0 1) 3 (wT W) := clsT_at (fun q a b => by
        funext j
        have : ¬ q = 86 + 8 * k := by omega
        simp [s_p, this]) hT
      have e12 : s1.1 12 = s.1 12 := by
        rw [q2 12 (by omega)]
        funext j
        have : ¬ 12 = 86 + 8 * k := by omega
        simp [s_p, this]
      have e86 : s1.1 (86 + 8 * k) 0 = 1 := by
        rw [q2 (86 + 8 * k) (by omega)]
        simp [s_p]
      generalize hy : s_p (s_c s1 12 0 (93 + 8 * k) 0 60) (86 + 8 * k) 3 (nI (wAc W).length) = y
      have yo : ∀ q, q ≠ 86 + 8 * k → q ≠ 93 + 8 * k → y.1 q = s1.1 q := fun q a b => by
        rw [← hy]
        funext j
        simp [s_p, s_c, a, b]
      have y1 : x_ev g_M P (d + 1) 9 [.ref (86 + 8 * k), .ref 3, .ref 12, .int (nI (wAc W).length)] (mkH xs s) (none, mkH xs y) := by
        rw [x_ev_in rfl (Nat.le_of_ble_eq_true rfl)]
        rw [show x_ent (x_nL g_M 9) [.ref (86 + 8 * k), .ref 3, .ref 12, .int (nI (wAc W).length)] = [some (.ref (86 + 8 * k)), some (.ref 3), some (.ref 12), some (.int (nI (wAc W).length))] from rfl]
        simp only [w_Image_store_0, w_Image_store_5, w_Image_store_9, w_Image_store_13, w_Image_store_19, w_Image_store_25, w_Image_store_30, im_p0 hk, im_1 hk, im_2 hk, im_p3 hk, tw_c (im_tp hk), Option.some.injEq, exists_eq_left', exists_eq_left, Option.toList_some, Option.toList_none, List.cons_append, List.nil_append, true_and, and_true, Option.map_some, Option.map_none, x_ev_iff q1, im_cp1 hk, hy]
      have hz : imC y k (some (wT W, wAc W)) := by
        refine ⟨?_, ?_, ?_, fun i hi => ?_⟩
        · rw [← hy]
          have : ¬ (86 + 8 * k = 93 + 8 * k) := by omega
          simp [s_p, s_c, e86]
        · exact clsT_at (fun q a b => yo q (by omega) (by omega)) (q4 _ hW hT0)
        · rw [← hy]
          simp [s_p]
        · show y.1 (93 + 8 * k) i = (wAc W).getD i 0
          have hi6 : i < 60 := Nat.lt_of_lt_of_le hi hl60
          have hne : ¬ (93 + 8 * k = 86 + 8 * k) := by omega
          rw [← hacts i hi, ← e12, ← hy]
          simp [s_p, s_c, hi6]
      refine ⟨y, ?_, cW_im hC hk (fun q hq => ?_) ?_ hz, fun q hq => ⟨?_, ?_⟩⟩
      · rw [x_ev_in rfl (Nat.le_of_ble_eq_true rfl)]
        rw [show x_ent (x_nL g_M 183) [.ref 1, .int (nI k)] = [some (.ref 1), some (.int (nI k))] from rfl]
        simp only [w_Top_image_0, w_Top_image_4, w_Top_image_9, w_Top_image_12, w_Top_image_16, w_Top_image_18, w_Top_image_22, w_Top_image_26, w_Top_image_30, w_Top_image_33, c_1, f_1_0, f_1_1, p_1_1, f_1_2, f_1_3, f_1_4, f_1_5, f_1_6, p_1_6, f_1_7, f_1_8, f_1_9, f_1_10, f_1_11, f_1_12, f_1_13, f_1_14, e_85, im_q hk, im_c hk, k1, k2, if_true, if_false, Option.some.injEq, exists_eq_left', exists_eq_left, Option.toList_some, Option.toList_none, List.cons_append, List.nil_append, true_and, and_true, Option.map_some, Option.map_none, hn, x_ev_iff y1]
      · rw [yo q (by omega) (by omega), q2 q (by omega)]
        funext j
        have : ¬ q = 86 + 8 * k := by omega
        simp [s_p, this]
      · rw [← hy]
        exact q3
      · rw [yo q (by omega) (by omega), q2 q (by omega)]
        funext j
        have : ¬ q = 86 + 8 * k := by omega
        simp [s_p, this]
      · rw [← hy]
        exact congrFun q3 q
    · intro d xs s hd hC
      obtain ⟨hR, -⟩ := id hC
      obtain ⟨d, rfl⟩ := x_1 (d := d) (by omega)
      obtain ⟨z, ho, e⟩ := x_upY (C := x_ev g_M P d) (k := 192) (N := 135) (β := xS) (R := fun j z => (∀ q, q ≠ 112 → z.1 q = s.1 q) ∧ z.2 = s.2 ∧ ∀ i, z.1 112 i = if 135 * k ≤ i ∧ i < 135 * k + j then s.1 111 (i - 135 * k) else s.1 112 i) (F := fun j z => (17, [some (.ref 110), some (.int (nI k)), some (.int (nI j))], [], mkH xs z)) (fun j z hj ho => by
        obtain ⟨r1, r2, r3⟩ := ho
        have hc : ¬ 135 ≤ nI j := nI_ge (b := 135) hj (by omega)
        have ei : 135 * nI k + nI j = nI (135 * k + j) := by rw [show (135 : Int32) = nI 135 from rfl, pk_mul, nI_add]
        have hx : x_rd (z.1 112) 405 (nI (135 * k + j)) = some (z.1 112 (135 * k + j)) := x_rd_nI (by omega) (by omega)
        have hy : x_rd (z.1 111) 135 (nI j) = some (s.1 111 j) := by rw [x_rd_nI (by omega) (by omega), r1 111 (by omega)]
        refine ⟨s_p z 112 (135 * k + j) (s.1 111 j), ⟨fun q hq => ?_, r2, fun i => ?_⟩, fun r => ?_⟩
        · rw [← r1 q hq]
          funext a
          simp [s_p, hq]
        · by_cases hi : i = 135 * k + j
          · rw [if_pos (by omega), show i - 135 * k = j by omega]
            simp [s_p, hi]
          · have h2 : (135 * k ≤ i ∧ i < 135 * k + (j + 1)) ↔ (135 * k ≤ i ∧ i < 135 * k + j) := by omega
            simp only [h2, ← r3 i]
            simp [s_p, hi]
        · simp only [w_Ref_image_0, w_Ref_image_9, w_Ref_image_12, w_Ref_image_15, w_Ref_image_24, w_Ref_image_28, w_Ref_image_39, w_Ref_image_41, w_Ref_image_42, w_Ref_image_48, w_Ref_image_52, w_Ref_image_55, w_Ref_image_17 (l2 := nI j), hc, if_false, c_110, f_110_0, p_110_0, f_110_1, f_110_2, f_110_3, f_110_4, f_110_5, p_110_5, f_110_6, f_110_7, p_110_7, f_110_8, p_110_8, f_110_9, p_110_9, f_110_10, p_110_10, f_110_11, p_110_11, f_110_12, p_110_12, f_110_13, p_110_13, f_110_14, f_110_15, f_110_16, p_110_16, f_110_17, f_110_18, p_110_18, f_110_19, p_110_19, f_110_20, f_110_21, p_110_21, f_110_22, p_110_22, f_110_23, f_110_24, f_110_25, p_110_25, f_110_26, f_110_27, f_110_28, f_110_29, f_110_30, f_110_31, p_110_31, f_110_32, p_110_32, f_110_33, p_110_33, f_110_34, p_110_34, f_110_35, f_110_36, f_110_37, f_110_38, e_111, i_111, e_112, i_112, Option.some.injEq, exists_eq_left', exists_eq_left, Option.toList_some, Option.toList_none, List.cons_append, List.nil_append, true_and, and_true, Option.map_some, Option.map_none, ei, hx, hy, nI_clamp (show 135 * k + j < 2 ^ 31 by omega), nI_1]) 135 0 s (by omega) ⟨fun _ _ => rfl, rfl, fun i => by rw [if_neg (by omega)]⟩
      obtain ⟨r1, r2, r3⟩ := ho
      have c112 : ∀ i, (s_p z 113 k 1).1 112 i = z.1 112 i := fun i => by simp [s_p]
      have hz : imR (s_p z 113 k 1) k (some (wT W, wAc W)) := by
        obtain ⟨g1, g2, g3, g4⟩ := hR
        refine ⟨by simp [s_p], refT_pl hW (fun i a b => ?_) g1, ?_, fun i hi => ?_⟩
        · rw [c112, r3, if_pos (by omega), show 135 * k + i - 135 * k = 0 + i by omega]
        · rw [c112, r3, if_pos (by omega), show 135 * k + 6 - 135 * k = 6 by omega]
          exact g2
        · show (s_p z 113 k 1).1 112 (135 * k + (75 + i)) = (wAc W).getD i 0
          have hi6 : i < 60 := Nat.lt_of_lt_of_le hi hl60
          rw [c112, r3, if_pos (by omega), show 135 * k + (75 + i) - 135 * k = 75 + i by omega]
          exact g3 i hi
      refine ⟨s_p z 113 k 1, ?_, rW_im h' hC hk (fun q a b => ?_) (fun j hj => ?_) (fun i hi => ?_) r2 hz, fun q hq => ⟨?_, by show z.2 q = _; rw [r2]⟩⟩
      · have hx3 : x_rd (z.1 113) 3 (nI k) = some (z.1 113 k) := x_rd_nI hk (by omega)
        rw [x_ev_in rfl (Nat.le_of_ble_eq_true rfl)]
        rw [show x_ent (x_nL g_M 192) [.ref 110, .int (nI k)] = [some (.ref 110), some (.int (nI k)), none] from rfl]
        simp only [w_Ref_image_0, w_Ref_image_9, w_Ref_image_12, w_Ref_image_15, w_Ref_image_24, w_Ref_image_28, w_Ref_image_39, w_Ref_image_41, w_Ref_image_42, w_Ref_image_48, w_Ref_image_52, w_Ref_image_55, Option.some.injEq, exists_eq_left', exists_eq_left, Option.toList_some, Option.toList_none, List.cons_append, List.nil_append, true_and, and_true, Option.map_some, Option.map_none, r_in (d := d) (by omega), e0, lt2, h1, show ¬ ((1 : Int32) = 0) by decide, not_false_eq_true, if_true]
        refine (e _).mpr ?_
        simp only [w_Ref_image_0, w_Ref_image_9, w_Ref_image_12, w_Ref_image_15, w_Ref_image_24, w_Ref_image_28, w_Ref_image_39, w_Ref_image_41, w_Ref_image_42, w_Ref_image_48, w_Ref_image_52, w_Ref_image_55, w_Ref_image_17 (l2 := nI 135), show (135 : Int32) ≤ nI 135 from Int32.le_refl _, if_true, c_110, f_110_0, p_110_0, f_110_1, f_110_2, f_110_3, f_110_4, f_110_5, p_110_5, f_110_6, f_110_7, p_110_7, f_110_8, p_110_8, f_110_9, p_110_9, f_110_10, p_110_10, f_110_11, p_110_11, f_110_12, p_110_12, f_110_13, p_110_13, f_110_14, f_110_15, f_110_16, p_110_16, f_110_17, f_110_18, p_110_18, f_110_19, p_110_19, f_110_20, f_110_21, p_110_21, f_110_22, p_110_22, f_110_23, f_110_24, f_110_25, p_110_25, f_110_26, f_110_27, f_110_28, f_110_29, f_110_30, f_110_31, p_110_31, f_110_32, p_110_32, f_110_33, p_110_33, f_110_34, p_110_34, f_110_35, f_110_36, f_110_37, f_110_38, e_113, i_113, Option.some.injEq, exists_eq_left', exists_eq_left, Option.toList_some, Option.toList_none, List.cons_append, List.nil_append, true_and, and_true, Option.map_some, Option.map_none, hx3, nI_clamp (show k < 2 ^ 31 by omega), show x_nr 2 1 = 1 by decide]
      · rw [← r1 q a]
        funext j
        simp [s_p, b]
      · rw [← r1 113 (by omega)]
        simp [s_p, hj]
      · rw [c112, r3, if_neg (by omega)]
      · rw [← r1 q (by omega)]
        funext j
        have : ¬ q = 113 := by omega
        simp [s_p, this]
/-- what is told is another TOWN with other ACTS -/
theorem cW_all {s s' : xS} {W : Wd} {T : Tw} {l : List Int32} {A : As} (hC : cW s W) (h : ∀ q, q = 2 ∨ q = 13 ∨ 76 ≤ q → s'.1 q = s.1 q) (h1 : s'.1 1 1 = s.1 1 1) (h2 : s'.2 = s.2) (hT : clsT s' 3 T) (hA : clsS s' 9 T A) (hl : acC s' l) : cW s' ((T, l, A), W.2) := by
  obtain ⟨-, ⟨d1, d2, d3, d4⟩, e, f⟩ := hC
  refine ⟨⟨hT, hA, hl.1, hl.2⟩, ⟨by rw [h1]; exact d1, by rw [h 2 (by omega)]; exact d2, by rw [h 13 (by omega)]; exact d3, by rw [h 13 (by omega)]; exact d4⟩, fun i hi => slC_at (h _ (by omega)) (by rw [h2]) (e i hi), fun k hk => imC_at (fun q a b => h q (by omega)) (f k hk)⟩
theorem rW_all {s s' : xS} {W : Wd} {T : Tw} {l : List Int32} {A : As} (hC : rW s W) (h : ∀ q, q ≠ 111 → s'.1 q = s.1 q) (h2 : s'.2 = s.2) (hR : refW s' T l) : rW s' ((T, l, A), W.2) := by
  obtain ⟨-, ⟨d1, d2, d3, d4⟩, e, f⟩ := hC
  refine ⟨hR, ⟨by rw [h 110 (by omega)]; exact d1, by rw [h 114 (by omega)]; exact d2, by rw [h 110 (by omega)]; exact d3, by rw [h 110 (by omega)]; exact d4⟩, fun i hi => slR_at (by rw [h 127 (by omega)]) (by rw [h 128 (by omega)]) (fun j _ => by rw [h2]) (e i hi), fun k hk => imR_at (h 112 (by omega)) (h 113 (by omega)) (f k hk)⟩
set_option maxHeartbeats 4000000 in
theorem k_back (h : wOk W) (x : Int32) : do2 P 184 193 [.int x] W := by
  have e0 : x.toInt64 < 0 ↔ x < 0 := w_lt x 0
  have h3n : ∀ y : Int32, y < 3 ↔ ¬ nI 3 ≤ y := fun y => Int32.not_le.symm
  rcases has_cs (n := 3) (by omega) x with h0 | ⟨k, hk, rfl, h1⟩
  · refine ask2.do h ⟨-2, cAsk0 ?_, rAsk0 ?_⟩
    · intro d xs s hd hC
      obtain ⟨d, rfl⟩ := x_1 (d := d) (by omega)
      rw [x_ev_in rfl (Nat.le_of_ble_eq_true rfl)]
      rw [show x_ent (x_nL g_M 184) [.ref 1, .int x] = [some (.ref 1), some (.int x)] from rfl]
      by_cases hx : x < 0
      · simp only [w_Top_back_0, w_Top_back_4, w_Top_back_9, w_Top_back_12, w_Top_back_16, w_Top_back_18, w_Top_back_21, w_Top_back_24, w_Top_back_27, w_Top_back_32, w_Top_back_34, w_Top_back_38, w_Top_back_42, w_Top_back_45, w_Top_back_48, w_Top_back_52, hx, if_true]
      · have hx3 : nI 3 ≤ x := by
          by_cases hz : nI 3 ≤ x
          · exact hz
          · rw [if_neg hx, if_neg hz] at h0
            exact absurd h0 (by decide)
        simp only [w_Top_back_0, w_Top_back_4, w_Top_back_9, w_Top_back_12, w_Top_back_16, w_Top_back_18, w_Top_back_21, w_Top_back_24, w_Top_back_27, w_Top_back_32, w_Top_back_34, w_Top_back_38, w_Top_back_42, w_Top_back_45, w_Top_back_48, w_Top_back_52, hx, if_false, h3n, hx3, not_true_eq_false]
    · intro d xs s hd hC
      obtain ⟨d, rfl⟩ := x_1 (d := d) (by omega)
      rw [x_ev_in rfl (Nat.le_of_ble_eq_true rfl)]
      rw [show x_ent (x_nL g_M 193) [.ref 110, .int x] = [some (.ref 110), some (.int x), none] from rfl]
      simp only [w_Ref_back_0, w_Ref_back_9, w_Ref_back_12, w_Ref_back_15, w_Ref_back_19, w_Ref_back_21, w_Ref_back_24, w_Ref_back_27, w_Ref_back_36, w_Ref_back_40, w_Ref_back_45, w_Ref_back_53, w_Ref_back_54, w_Ref_back_60, Option.some.injEq, exists_eq_left', exists_eq_left, Option.toList_some, Option.toList_none, List.cons_append, List.nil_append, true_and, and_true, Option.map_some, Option.map_none, r_in (d := d) (by omega), e0, lt2, h0, not_true_eq_false, if_false]
  · have k1 : ¬ nI k < 0 := nI_pos (by omega)
    have k2 : nI k < 3 := nI_lt (b := 3) hk (by omega)
    have oj := h.2.2.2.2.2.2 k hk
    cases hw : wIm W k with
    | none =>
      refine ask2.do h ⟨-6, cAsk0 ?_, rAsk0 ?_⟩
      · intro d xs s hd hC
        obtain ⟨-, -, -, f⟩ := hC
        have fk := f k hk
        rw [hw] at fk
        have fk : s.1 (86 + 8 * k) 0 = 0 := fk
        obtain ⟨d, rfl⟩ := x_1 (d := d) (by omega)
        rw [x_ev_in rfl (Nat.le_of_ble_eq_true rfl)]
        rw [show x_ent (x_nL g_M 184) [.ref 1, .int (nI k)] = [some (.ref 1), some (.int (nI k))] from rfl]
        simp only [w_Top_back_0, w_Top_back_4, w_Top_back_9, w_Top_back_12, w_Top_back_16, w_Top_back_18, w_Top_back_21, w_Top_back_24, w_Top_back_27, w_Top_back_32, w_Top_back_34, w_Top_back_38, w_Top_back_42, w_Top_back_45, w_Top_back_48, w_Top_back_52, c_1, f_1_0, f_1_1, p_1_1, f_1_2, f_1_3, f_1_4, f_1_5, f_1_6, p_1_6, f_1_7, f_1_8, f_1_9, f_1_10, f_1_11, f_1_12, f_1_13, f_1_14, e_85, im_q hk, im_c hk, im_0 hk, k1, k2, if_true, if_false, Option.some.injEq, exists_eq_left', exists_eq_left, Option.toList_some, Option.toList_none, List.cons_append, List.nil_append, true_and, and_true, Option.map_some, Option.map_none, fk, not_true_eq_false]
      · intro d xs s hd hC
        obtain ⟨-, -, -, f⟩ := hC
        have fk := f k hk
        rw [hw] at fk
        have fk : s.1 113 k = 0 := fk
        have hx3 : x_rd (s.1 113) 3 (nI k) = some 0 := by rw [x_rd_nI hk (by omega), fk]
        obtain ⟨d, rfl⟩ := x_1 (d := d) (by omega)
        rw [x_ev_in rfl (Nat.le_of_ble_eq_true rfl)]
        rw [show x_ent (x_nL g_M 193) [.ref 110, .int (nI k)] = [some (.ref 110), some (.int (nI k)), none] from rfl]
        simp only [w_Ref_back_0, w_Ref_back_9, w_Ref_back_12, w_Ref_back_15, w_Ref_back_19, w_Ref_back_21, w_Ref_back_24, w_Ref_back_27, w_Ref_back_36, w_Ref_back_40, w_Ref_back_45, w_Ref_back_53, w_Ref_back_54, w_Ref_back_60, c_110, f_110_0, p_110_0, f_110_1, f_110_2, f_110_3, f_110_4, f_110_5, p_110_5, f_110_6, f_110_7, p_110_7, f_110_8, p_110_8, f_110_9, p_110_9, f_110_10, p_110_10, f_110_11, p_110_11, f_110_12, p_110_12, f_110_13, p_110_13, f_110_14, f_110_15, f_110_16, p_110_16, f_110_17, f_110_18, p_110_18, f_110_19, p_110_19, f_110_20, f_110_21, p_110_21, f_110_22, p_110_22, f_110_23, f_110_24, f_110_25, p_110_25, f_110_26, f_110_27, f_110_28, f_110_29, f_110_30, f_110_31, p_110_31, f_110_32, p_110_32, f_110_33, p_110_33, f_110_34, p_110_34, f_110_35, f_110_36, f_110_37, f_110_38, e_113, i_113, Option.some.injEq, exists_eq_left', exists_eq_left, Option.toList_some, Option.toList_none, List.cons_append, List.nil_append, true_and, and_true, Option.map_some, Option.map_none, r_in (d := d) (by omega), e0, lt2, h1, show ¬ ((1 : Int32) = 0) by decide, not_false_eq_true, if_true, hx3, not_true_eq_false, if_false]
    | some z =>
      obtain ⟨T, l⟩ := z
      rw [hw] at oj
      obtain ⟨hK, hl60, A, hr⟩ : tOk T ∧ l.length ≤ 60 ∧ ∃ A, aRun T (aBegin T) l = some A := oj _ rfl
      have hW := hK.1
      refine ⟨((T, l, A), W.2), 0, ⟨hK, hl60, hr, h.2.2.2⟩, ?_, ?_⟩
      · intro d xs s hd hC
        obtain ⟨-, -, -, f⟩ := id hC
        have fk := f k hk
        rw [hw] at fk
        obtain ⟨f1, f2, f3, f4⟩ : s.1 (86 + 8 * k) 0 = 1 ∧ clsT s (87 + 8 * k) T ∧ s.1 (86 + 8 * k) 3 = nI l.length ∧ ∀ i, i < l.length → s.1 (93 + 8 * k) i = l.getD i 0 := fk
        obtain ⟨d, rfl⟩ := x_1 (d := d) (by omega)
        obtain ⟨d, rfl⟩ := x_1 (d := d) (by omega)
        obtain ⟨s1, q1, q2, q3, q4⟩ := t_copyFrom (P := P) (d := d) (xs := xs) (s := s) (by omega) (show 3 ∈ g_TP by decide) (im_tp hk) (by omega)
        have e86 : s1.1 (86 + 8 * k) 3 = nI l.length := by rw [q2 (86 + 8 * k) (by omega)]; exact f3
        generalize hy : s_c s1 (93 + 8 * k) 0 12 0 60 = y
        have yo : ∀ q, q ≠ 12 → y.1 q = s1.1 q := fun q a => by
          rw [← hy]
          funext j
          simp [s_c, a]
        have y86 : y.1 (86 + 8 * k) 3 = nI l.length := by rw [yo _ (by omega)]; exact e86
        have y1 : x_ev g_M P (d + 1) 10 [.ref (86 + 8 * k), .ref 3, .ref 12] (mkH xs s) (some (.int (nI l.length)), mkH xs y) := by
          rw [x_ev_in rfl (Nat.le_of_ble_eq_true rfl)]
          rw [show x_ent (x_nL g_M 10) [.ref (86 + 8 * k), .ref 3, .ref 12] = [some (.ref (86 + 8 * k)), some (.ref 3), some (.ref 12)] from rfl]
          simp only [w_Image_restore_0, w_Image_restore_5, w_Image_restore_8, w_Image_restore_12, w_Image_restore_20, w_Image_restore_24, im_1 hk, im_2 hk, im_3 hk, c_3, Option.some.injEq, exists_eq_left', exists_eq_left, Option.toList_some, Option.toList_none, List.cons_append, List.nil_append, true_and, and_true, Option.map_some, Option.map_none, x_ev_iff q1, im_cp2 hk, hy, y86]
        have hTy : clsT (s_p y 1 6 (nI l.length)) 3 T := clsT_at (fun q a b => by
          rw [← yo q (by omega)]
          funext j
          have : ¬ q = 1 := by omega
          simp [s_p, this]) (q4 T hW f2)
        have hay : acC (s_p y 1 6 (nI l.length)) l := by
          refine ⟨by simp [s_p], fun i hi => ?_⟩
          have hi6 : i < 60 := Nat.lt_of_lt_of_le hi hl60
          have e1 : (s_p y 1 6 (nI l.length)).1 12 i = y.1 12 i := by simp [s_p]
          have e2 : y.1 12 i = s1.1 (93 + 8 * k) i := by
            rw [← hy]
            simp [s_c, hi6]
          rw [e1, e2, q2 (93 + 8 * k) (by omega)]
          exact f4 i hi
        obtain ⟨s', z1, z2, z3⟩ := s_replay (P := P) (d := d + 1) (xs := xs) (by omega) hTy hK hay hl60 hr
        have zo : ∀ q, q ≠ 1 → q ≠ 12 → (q < 3 ∨ 11 < q) → s'.1 q = s.1 q := fun q a b c => by
          rw [z2.1 q (by omega) (by omega) (by omega), ← q2 q (by omega), ← yo q b]
          funext j
          simp [s_p, a]
        have z1c : s'.1 1 = (s_p y 1 6 (nI l.length)).1 1 := z2.1 1 (by omega) (by omega) (by omega)
        have z12 : s'.1 12 = (s_p y 1 6 (nI l.length)).1 12 := z2.1 12 (by omega) (by omega) (by omega)
        have zl : s'.2 = s.2 := by
          rw [z2.2]
          show y.2 = s.2
          rw [← hy]
          exact q3
        refine ⟨s', ?_, cW_all hC (fun q hq => zo q (by omega) (by omega) (by omega)) ?_ zl (z2.T (by decide) hTy) z3 ⟨by rw [z1c]; exact hay.1, fun i hi => by rw [z12]; exact hay.2 i hi⟩, fun q hq => ⟨zo q (by omega) (by omega) (by omega), by rw [zl]⟩⟩
        · rw [x_ev_in rfl (Nat.le_of_ble_eq_true rfl)]
          rw [show x_ent (x_nL g_M 184) [.ref 1, .int (nI k)] = [some (.ref 1), some (.int (nI k))] from rfl]
          simp only [w_Top_back_0, w_Top_back_4, w_Top_back_9, w_Top_back_12, w_Top_back_16, w_Top_back_18, w_Top_back_21, w_Top_back_24, w_Top_back_27, w_Top_back_32, w_Top_back_34, w_Top_back_38, w_Top_back_42, w_Top_back_45, w_Top_back_48, w_Top_back_52, c_1, f_1_0, f_1_1, p_1_1, f_1_2, f_1_3, f_1_4, f_1_5, f_1_6, p_1_6, f_1_7, f_1_8, f_1_9, f_1_10, f_1_11, f_1_12, f_1_13, f_1_14, e_85, im_q hk, im_c hk, im_0 hk, k1, k2, if_true, if_false, Option.some.injEq, exists_eq_left', exists_eq_left, Option.toList_some, Option.toList_none, List.cons_append, List.nil_append, true_and, and_true, Option.map_some, Option.map_none, f1, show ¬ ((1 : Int32) = 0) by decide, not_false_eq_true, x_ev_iff y1, x_ev_iff z1]
        · rw [z1c]
          have : (s_p y 1 6 (nI l.length)).1 1 1 = y.1 1 1 := by simp [s_p]
          rw [this, yo 1 (by omega), q2 1 (by omega)]
      · intro d xs s hd hC
        obtain ⟨-, -, -, f⟩ := id hC
        have fk := f k hk
        rw [hw] at fk
        obtain ⟨f1, f2, f3, f4⟩ : s.1 113 k = 1 ∧ refT s 112 (135 * k) T ∧ s.1 112 (135 * k + 6) = nI l.length ∧ ∀ i, i < l.length → s.1 112 (135 * k + (75 + i)) = l.getD i 0 := fk
        obtain ⟨d, rfl⟩ := x_1 (d := d) (by omega)
        obtain ⟨z, ho, e⟩ := x_upY (C := x_ev g_M P d) (k := 193) (N := 135) (β := xS) (R := fun j z => (∀ q, q ≠ 111 → z.1 q = s.1 q) ∧ z.2 = s.2 ∧ ∀ i, i < j → z.1 111 i = s.1 112 (135 * k + i)) (F := fun j z => (29, [some (.ref 110), some (.int (nI k)), some (.int (nI j))], [], mkH xs z)) (fun j z hj ho => by
          obtain ⟨r1, r2, r3⟩ := ho
          have hc : ¬ 135 ≤ nI j := nI_ge (b := 135) hj (by omega)
          have ei : 135 * nI k + nI j = nI (135 * k + j) := by rw [show (135 : Int32) = nI 135 from rfl, pk_mul, nI_add]
          have hx : x_rd (z.1 112) 405 (nI (135 * k + j)) = some (s.1 112 (135 * k + j)) := by rw [x_rd_nI (by omega) (by omega), r1 112 (by omega)]
          have hy : x_rd (z.1 111) 135 (nI j) = some (z.1 111 j) := x_rd_nI (by omega) (by omega)
          refine ⟨s_p z 111 j (s.1 112 (135 * k + j)), ⟨fun q hq => ?_, r2, fun i hi => ?_⟩, fun r => ?_⟩
          · rw [← r1 q hq]
            funext a
            simp [s_p, hq]
          · by_cases hij : i = j
            · simp [s_p, hij]
            · rw [← r3 i (by omega)]
              simp [s_p, hij]
          · simp only [w_Ref_back_0, w_Ref_back_9, w_Ref_back_12, w_Ref_back_15, w_Ref_back_19, w_Ref_back_21, w_Ref_back_24, w_Ref_back_27, w_Ref_back_36, w_Ref_back_40, w_Ref_back_45, w_Ref_back_53, w_Ref_back_54, w_Ref_back_60, w_Ref_back_29 (l2 := nI j), hc, if_false, c_110, f_110_0, p_110_0, f_110_1, f_110_2, f_110_3, f_110_4, f_110_5, p_110_5, f_110_6, f_110_7, p_110_7, f_110_8, p_110_8, f_110_9, p_110_9, f_110_10, p_110_10, f_110_11, p_110_11, f_110_12, p_110_12, f_110_13, p_110_13, f_110_14, f_110_15, f_110_16, p_110_16, f_110_17, f_110_18, p_110_18, f_110_19, p_110_19, f_110_20, f_110_21, p_110_21, f_110_22, p_110_22, f_110_23, f_110_24, f_110_25, p_110_25, f_110_26, f_110_27, f_110_28, f_110_29, f_110_30, f_110_31, p_110_31, f_110_32, p_110_32, f_110_33, p_110_33, f_110_34, p_110_34, f_110_35, f_110_36, f_110_37, f_110_38, e_111, i_111, e_112, i_112, Option.some.injEq, exists_eq_left', exists_eq_left, Option.toList_some, Option.toList_none, List.cons_append, List.nil_append, true_and, and_true, Option.map_some, Option.map_none, ei, hx, hy, nI_clamp (show j < 2 ^ 31 by omega), nI_1]) 135 0 s (by omega) ⟨fun _ _ => rfl, rfl, fun i hi => by omega⟩
        obtain ⟨r1, r2, r3⟩ := ho
        refine ⟨z, ?_, rW_all hC r1 r2 ⟨refT_pl hW (fun i a b => by rw [Nat.zero_add, r3 i (by omega)]) f2, by rw [r3 6 (by omega)]; exact f3, fun i hi => by rw [r3 (75 + i) (by omega)]; exact f4 i hi, hl60⟩, fun q hq => ⟨r1 q (by omega), by rw [r2]⟩⟩
        have hx3 : x_rd (s.1 113) 3 (nI k) = some 1 := by rw [x_rd_nI hk (by omega), f1]
        rw [x_ev_in rfl (Nat.le_of_ble_eq_true rfl)]
        rw [show x_ent (x_nL g_M 193) [.ref 110, .int (nI k)] = [some (.ref 110), some (.int (nI k)), none] from rfl]
        simp only [w_Ref_back_0, w_Ref_back_9, w_Ref_back_12, w_Ref_back_15, w_Ref_back_19, w_Ref_back_21, w_Ref_back_24, w_Ref_back_27, w_Ref_back_36, w_Ref_back_40, w_Ref_back_45, w_Ref_back_53, w_Ref_back_54, w_Ref_back_60, c_110, f_110_0, p_110_0, f_110_1, f_110_2, f_110_3, f_110_4, f_110_5, p_110_5, f_110_6, f_110_7, p_110_7, f_110_8, p_110_8, f_110_9, p_110_9, f_110_10, p_110_10, f_110_11, p_110_11, f_110_12, p_110_12, f_110_13, p_110_13, f_110_14, f_110_15, f_110_16, p_110_16, f_110_17, f_110_18, p_110_18, f_110_19, p_110_19, f_110_20, f_110_21, p_110_21, f_110_22, p_110_22, f_110_23, f_110_24, f_110_25, p_110_25, f_110_26, f_110_27, f_110_28, f_110_29, f_110_30, f_110_31, p_110_31, f_110_32, p_110_32, f_110_33, p_110_33, f_110_34, p_110_34, f_110_35, f_110_36, f_110_37, f_110_38, e_113, i_113, Option.some.injEq, exists_eq_left', exists_eq_left, Option.toList_some, Option.toList_none, List.cons_append, List.nil_append, true_and, and_true, Option.map_some, Option.map_none, r_in (d := d) (by omega), e0, lt2, h1, show ¬ ((1 : Int32) = 0) by decide, not_false_eq_true, if_true, hx3]
        refine (e _).mpr ?_
        simp only [w_Ref_back_0, w_Ref_back_9, w_Ref_back_12, w_Ref_back_15, w_Ref_back_19, w_Ref_back_21, w_Ref_back_24, w_Ref_back_27, w_Ref_back_36, w_Ref_back_40, w_Ref_back_45, w_Ref_back_53, w_Ref_back_54, w_Ref_back_60, w_Ref_back_29 (l2 := nI 135), show (135 : Int32) ≤ nI 135 from Int32.le_refl _, if_true]
end IMAGES
