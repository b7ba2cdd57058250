/-! game, move: the reference, and what both answer (own work) -/
/-- a state kept at depth t -/
def deepS (s : xS) (t : Nat) (T : Tw) (A : As) : Prop := (∀ i, i < A.1.length → s.1 123 (17 * t + i) = nI (lo A.1 i)) ∧ (∀ j, j < tP T → s.1 123 (17 * t + 8 + j) = A.2.2.2 j) ∧ s.1 123 (17 * t + 14) = nI A.1.length ∧ s.1 123 (17 * t + 15) = A.2.2.1 ∧ s.1 123 (17 * t + 16) = A.2.1
theorem deepS_at {s s' : xS} {t : Nat} {T : Tw} {A : As} (hW : tWf T) (hAw : aWf T A) (h : ∀ i, 17 * t ≤ i → i < 17 * t + 17 → s'.1 123 i = s.1 123 i) (hA : deepS s t T A) : deepS s' t T A := by
  have w1 := hW.1
  have h8 := hAw.2.2
  obtain ⟨a1, a2, a3, a4, a5⟩ := hA
  exact ⟨fun i hi => by rw [h _ (by omega) (by omega)]; exact a1 i hi, fun j hj => by rw [h _ (by omega) (by omega)]; exact a2 j hj, by rw [h _ (by omega) (by omega)]; exact a3, by rw [h _ (by omega) (by omega)]; exact a4, by rw [h _ (by omega) (by omega)]; exact a5⟩
def offP (t : Nat) (s s' : xS) : Prop := (∀ q, q ≠ 110 → q < 117 ∨ (118 < q ∧ q < 123) ∨ 126 < q → s'.1 q = s.1 q) ∧ (∀ k, k < 16 → s'.1 110 k = s.1 110 k) ∧ s'.2 = s.2 ∧ (∀ i, i < 17 * t → s'.1 123 i = s.1 123 i) ∧ ∀ i, i < t → s'.1 124 i = s.1 124 i ∧ s'.1 125 i = s.1 125 i ∧ s'.1 126 i = s.1 126 i
theorem offP.rf {t : Nat} {s : xS} : offP t s s := ⟨fun _ _ _ => rfl, fun _ _ => rfl, rfl, fun _ _ => rfl, fun _ _ => ⟨rfl, rfl, rfl⟩⟩
theorem offP.tr {t : Nat} {s s' s'' : xS} (h : offP t s s') (h2 : offP t s' s'') : offP t s s'' := ⟨fun q a b => (h2.1 q a b).trans (h.1 q a b), fun k a => (h2.2.1 k a).trans (h.2.1 k a), h2.2.2.1.trans h.2.2.1, fun i a => (h2.2.2.2.1 i a).trans (h.2.2.2.1 i a), fun i a => ⟨((h2.2.2.2.2 i a).1).trans (h.2.2.2.2 i a).1, ((h2.2.2.2.2 i a).2.1).trans (h.2.2.2.2 i a).2.1, ((h2.2.2.2.2 i a).2.2).trans (h.2.2.2.2 i a).2.2⟩⟩
theorem offP.up {t : Nat} {s s' : xS} (h : offP (t + 1) s s') : offP t s s' := ⟨h.1, h.2.1, h.2.2.1, fun i a => h.2.2.2.1 i (by omega), fun i a => h.2.2.2.2 i (by omega)⟩
theorem offP.ke {s s' : xS} (h : offP 0 s s') : keR s s' := ⟨fun q a b => h.1 q a (by omega), h.2.1, fun q _ _ => by rw [h.2.2.1]⟩
theorem offP.T {t : Nat} {s s' : xS} {T : Tw} (h : offP t s s') (hT : refT s 111 0 T) : refT s' 111 0 T := refT_off (h.1 111 (by omega) (by omega)) hT
theorem offR.P {t : Nat} {s s' : xS} (h : offR s s') : offP t s s' := ⟨fun q a b => h.1 q a (by omega) (by omega), fun k a => h.2.1 k (by omega) (by omega) (by omega), h.2.2, fun i _ => by rw [h.1 123 (by omega) (by omega) (by omega)], fun i _ => ⟨by rw [h.1 124 (by omega) (by omega) (by omega)], by rw [h.1 125 (by omega) (by omega) (by omega)], by rw [h.1 126 (by omega) (by omega) (by omega)]⟩⟩
section GAMER
variable {P : Nat → List Value → Option Value} {d : Nat} {xs : List Int32} {T : Tw}
set_option maxHeartbeats 4000000 in
theorem r_put (hd : 1 ≤ d) {s : xS} {A : As} {t : Nat} (ht : t < 5) (hW : tWf T) (hAw : aWf T A) (hA : refS s T A) : ∃ s', x_ev g_M P d 299 [.ref 110, .int (nI t)] (mkH xs s) (none, mkH xs s') ∧ (∀ q, q ≠ 123 → s'.1 q = s.1 q) ∧ s'.2 = s.2 ∧ (∀ i, i < 17 * t ∨ 17 * t + 17 ≤ i → s'.1 123 i = s.1 123 i) ∧ deepS s' t T A := by
  have w1 := hW.1
  have h8 := hAw.2.2
  obtain ⟨a1, a2, a3, a4, a5⟩ := hA
  obtain ⟨d, rfl⟩ := x_1 (d := d) (by omega)
  have e17 : 17 * nI t = nI (17 * t) := by rw [show (17 : Int32) = nI 17 from rfl, pk_mul]
  obtain ⟨z, hz, e1⟩ := x_upY (C := x_ev g_M P d) (k := 299) (N := 8) (β := xS) (R := fun i z => (∀ q, q ≠ 123 → z.1 q = s.1 q) ∧ z.2 = s.2 ∧ ∀ m, z.1 123 m = if 17 * t ≤ m ∧ m < 17 * t + i then s.1 117 (m - 17 * t) else s.1 123 m) (F := fun i z => (7, [some (.ref 110), some (.int (nI t)), some (.int (nI (17 * t))), some (.int (nI i))], [], mkH xs z)) (fun i z hi hR => by
    obtain ⟨r1, r2, r3⟩ := hR
    have hc : ¬ 8 ≤ nI i := nI_ge (b := 8) hi (by omega)
    have hx : x_rd (z.1 117) 8 (nI i) = some (s.1 117 i) := by rw [x_rd_nI (by omega) (by omega), r1 117 (by omega)]
    have hy : x_rd (z.1 123) 85 (nI (17 * t + i)) = some (z.1 123 (17 * t + i)) := x_rd_nI (by omega) (by omega)
    refine ⟨s_p z 123 (17 * t + i) (s.1 117 i), ⟨fun q hq => by rw [← r1 q hq]; exact s_p_o.1 q hq, r2, fun m => ?_⟩, fun r => ?_⟩
    · by_cases hm : m = 17 * t + i
      · rw [if_pos (by omega), show m - 17 * t = i by omega]
        simp [s_p, hm]
      · have h3 : (17 * t ≤ m ∧ m < 17 * t + (i + 1)) ↔ (17 * t ≤ m ∧ m < 17 * t + i) := by omega
        simp only [h3, ← r3 m]
        simp [s_p, hm]
    · simp only [w_Ref_put_0, w_Ref_put_13, w_Ref_put_17, w_Ref_put_24, w_Ref_put_26, w_Ref_put_27, w_Ref_put_33, w_Ref_put_41, w_Ref_put_45, w_Ref_put_55, w_Ref_put_57, w_Ref_put_58, w_Ref_put_64, w_Ref_put_68, w_Ref_put_79, w_Ref_put_80, w_Ref_put_84, w_Ref_put_97, w_Ref_put_98, w_Ref_put_102, w_Ref_put_115, w_Ref_put_116, w_Ref_put_7 (l3 := nI i), hc, if_false, c_110, f_110_0, p_110_0, f_110_1, f_110_2, f_110_3, f_110_4, f_110_5, p_110_5, f_110_6, f_110_7, p_110_7, f_110_8, p_110_8, f_110_9, p_110_9, f_110_10, p_110_10, f_110_11, p_110_11, f_110_12, p_110_12, f_110_13, p_110_13, f_110_14, f_110_15, f_110_16, p_110_16, f_110_17, f_110_18, p_110_18, f_110_19, p_110_19, f_110_20, f_110_21, p_110_21, f_110_22, p_110_22, f_110_23, f_110_24, f_110_25, p_110_25, f_110_26, f_110_27, f_110_28, f_110_29, f_110_30, f_110_31, p_110_31, f_110_32, p_110_32, f_110_33, p_110_33, f_110_34, p_110_34, f_110_35, f_110_36, f_110_37, f_110_38, e_117, i_117, e_123, i_123, Option.some.injEq, exists_eq_left', exists_eq_left, Option.toList_some, Option.toList_none, List.cons_append, List.nil_append, true_and, and_true, Option.map_some, Option.map_none, nI_add, hx, hy, nI_clamp (show 17 * t + i < 2 ^ 31 by omega), nI_1]) 8 0 s (by omega) ⟨fun _ _ => rfl, rfl, fun m => by rw [if_neg (by omega)]⟩
  obtain ⟨r1, r2, r3⟩ := hz
  have e8 : nI (17 * t) + 8 = nI (17 * t + 8) := nI_add _ 8
  obtain ⟨y, hy0, e2⟩ := x_upY (C := x_ev g_M P d) (k := 299) (N := 6) (β := xS) (R := fun i y => (∀ q, q ≠ 123 → y.1 q = s.1 q) ∧ y.2 = s.2 ∧ ∀ m, y.1 123 m = if 17 * t + 8 ≤ m ∧ m < 17 * t + 8 + i then s.1 118 (m - (17 * t + 8)) else z.1 123 m) (F := fun i y => (35, [some (.ref 110), some (.int (nI t)), some (.int (nI (17 * t))), some (.int (nI i))], [], mkH xs y)) (fun i y hi hR => by
    obtain ⟨y1, y2, y3⟩ := hR
    have hc : ¬ 6 ≤ nI i := nI_ge (b := 6) hi (by omega)
    have hx : x_rd (y.1 118) 6 (nI i) = some (s.1 118 i) := by rw [x_rd_nI (by omega) (by omega), y1 118 (by omega)]
    have hy : x_rd (y.1 123) 85 (nI (17 * t + 8 + i)) = some (y.1 123 (17 * t + 8 + i)) := x_rd_nI (by omega) (by omega)
    refine ⟨s_p y 123 (17 * t + 8 + i) (s.1 118 i), ⟨fun q hq => by rw [← y1 q hq]; exact s_p_o.1 q hq, y2, fun m => ?_⟩, fun r => ?_⟩
    · by_cases hm : m = 17 * t + 8 + i
      · rw [if_pos (by omega), show m - (17 * t + 8) = i by omega]
        simp [s_p, hm]
      · have h3 : (17 * t + 8 ≤ m ∧ m < 17 * t + 8 + (i + 1)) ↔ (17 * t + 8 ≤ m ∧ m < 17 * t + 8 + i) := by omega
        simp only [h3, ← y3 m]
        simp [s_p, hm]
    · simp only [w_Ref_put_0, w_Ref_put_13, w_Ref_put_17, w_Ref_put_24, w_Ref_put_26, w_Ref_put_27, w_Ref_put_33, w_Ref_put_41, w_Ref_put_45, w_Ref_put_55, w_Ref_put_57, w_Ref_put_58, w_Ref_put_64, w_Ref_put_68, w_Ref_put_79, w_Ref_put_80, w_Ref_put_84, w_Ref_put_97, w_Ref_put_98, w_Ref_put_102, w_Ref_put_115, w_Ref_put_116, w_Ref_put_35 (l3 := nI i), hc, if_false, c_110, f_110_0, p_110_0, f_110_1, f_110_2, f_110_3, f_110_4, f_110_5, p_110_5, f_110_6, f_110_7, p_110_7, f_110_8, p_110_8, f_110_9, p_110_9, f_110_10, p_110_10, f_110_11, p_110_11, f_110_12, p_110_12, f_110_13, p_110_13, f_110_14, f_110_15, f_110_16, p_110_16, f_110_17, f_110_18, p_110_18, f_110_19, p_110_19, f_110_20, f_110_21, p_110_21, f_110_22, p_110_22, f_110_23, f_110_24, f_110_25, p_110_25, f_110_26, f_110_27, f_110_28, f_110_29, f_110_30, f_110_31, p_110_31, f_110_32, p_110_32, f_110_33, p_110_33, f_110_34, p_110_34, f_110_35, f_110_36, f_110_37, f_110_38, e_118, i_118, e_123, i_123, Option.some.injEq, exists_eq_left', exists_eq_left, Option.toList_some, Option.toList_none, List.cons_append, List.nil_append, true_and, and_true, Option.map_some, Option.map_none, e8, nI_add, hx, hy, nI_clamp (show 17 * t + 8 + i < 2 ^ 31 by omega), nI_1]) 6 0 z (by omega) ⟨r1, r2, fun m => by rw [if_neg (by omega)]⟩
  obtain ⟨y1, y2, y3⟩ := hy0
  generalize hw : s_p (s_p (s_p y 123 (17 * t + 14) (nI A.1.length)) 123 (17 * t + 15) A.2.2.1) 123 (17 * t + 16) A.2.1 = w
  have wo : ∀ m, m ≠ 17 * t + 14 → m ≠ 17 * t + 15 → m ≠ 17 * t + 16 → w.1 123 m = y.1 123 m := fun m b c e => by
    rw [← hw]
    simp [s_p, b, c, e]
  refine ⟨w, ?_, fun q hq => ?_, ?_, fun i hi => ?_, ?_⟩
  · have f16 : y.1 110 16 = nI A.1.length := by rw [y1 110 (by omega)]; exact a1
    have f18 : ∀ v, (s_p y 123 (17 * t + 14) v).1 110 18 = A.2.2.1 := fun v => by
      have : (s_p y 123 (17 * t + 14) v).1 110 18 = y.1 110 18 := by simp [s_p]
      rw [this, y1 110 (by omega)]; exact a4
    have f19 : ∀ v u, (s_p (s_p y 123 (17 * t + 14) v) 123 (17 * t + 15) u).1 110 19 = A.2.1 := fun v u => by
      have : (s_p (s_p y 123 (17 * t + 14) v) 123 (17 * t + 15) u).1 110 19 = y.1 110 19 := by simp [s_p]
      rw [this, y1 110 (by omega)]; exact a5
    have g14 : nI (17 * t + 8) + 6 = nI (17 * t + 14) := nI_add _ 6
    have g15 : nI (17 * t + 14) + 1 = nI (17 * t + 15) := nI_add _ 1
    have g16 : nI (17 * t + 14) + 2 = nI (17 * t + 16) := nI_add _ 2
    have x14 : ∀ f : Nat → Int32, x_rd f 85 (nI (17 * t + 14)) = some (f (17 * t + 14)) := fun f => x_rd_nI (by omega) (by omega)
    have x15 : ∀ f : Nat → Int32, x_rd f 85 (nI (17 * t + 15)) = some (f (17 * t + 15)) := fun f => x_rd_nI (by omega) (by omega)
    have x16 : ∀ f : Nat → Int32, x_rd f 85 (nI (17 * t + 16)) = some (f (17 * t + 16)) := fun f => x_rd_nI (by omega) (by omega)
    rw [x_ev_in rfl (Nat.le_of_ble_eq_true rfl)]
    rw [show x_ent (x_nL g_M 299) [.ref 110, .int (nI t)] = [some (.ref 110), some (.int (nI t)), none, none] from rfl]
    rw [w_Ref_put_0, e17]
    refine (e1 _).mpr ?_
    simp only [w_Ref_put_7 (l3 := nI 8), w_Ref_put_33, show (8 : Int32) ≤ nI 8 from Int32.le_refl _, if_true]
    refine (e2 _).mpr ?_
    simp only [w_Ref_put_0, w_Ref_put_13, w_Ref_put_17, w_Ref_put_24, w_Ref_put_26, w_Ref_put_27, w_Ref_put_33, w_Ref_put_41, w_Ref_put_45, w_Ref_put_55, w_Ref_put_57, w_Ref_put_58, w_Ref_put_64, w_Ref_put_68, w_Ref_put_79, w_Ref_put_80, w_Ref_put_84, w_Ref_put_97, w_Ref_put_98, w_Ref_put_102, w_Ref_put_115, w_Ref_put_116, w_Ref_put_35 (l3 := nI 6), show (6 : Int32) ≤ nI 6 from Int32.le_refl _, if_true, c_110, f_110_0, p_110_0, f_110_1, f_110_2, f_110_3, f_110_4, f_110_5, p_110_5, f_110_6, f_110_7, p_110_7, f_110_8, p_110_8, f_110_9, p_110_9, f_110_10, p_110_10, f_110_11, p_110_11, f_110_12, p_110_12, f_110_13, p_110_13, f_110_14, f_110_15, f_110_16, p_110_16, f_110_17, f_110_18, p_110_18, f_110_19, p_110_19, f_110_20, f_110_21, p_110_21, f_110_22, p_110_22, f_110_23, f_110_24, f_110_25, p_110_25, f_110_26, f_110_27, f_110_28, f_110_29, f_110_30, f_110_31, p_110_31, f_110_32, p_110_32, f_110_33, p_110_33, f_110_34, p_110_34, f_110_35, f_110_36, f_110_37, f_110_38, e_123, i_123, Option.some.injEq, exists_eq_left', exists_eq_left, Option.toList_some, Option.toList_none, List.cons_append, List.nil_append, true_and, and_true, Option.map_some, Option.map_none, f16, e8, g14, g15, g16, x14, x15, x16, nI_clamp (show 17 * t + 14 < 2 ^ 31 by omega), nI_clamp (show 17 * t + 15 < 2 ^ 31 by omega), nI_clamp (show 17 * t + 16 < 2 ^ 31 by omega), f18, f19, hw]
  · rw [← y1 q hq, ← hw]
    funext k
    simp [s_p, hq]
  · rw [← hw]; exact y2
  · rw [wo i (by omega) (by omega) (by omega), y3, if_neg (by omega), r3, if_neg (by omega)]
  · refine ⟨fun i hi => ?_, fun j hj => ?_, ?_, ?_, ?_⟩
    · rw [wo _ (by omega) (by omega) (by omega), y3, if_neg (by omega), r3, if_pos (by omega), show 17 * t + i - 17 * t = i by omega]
      exact a2 i hi
    · rw [wo _ (by omega) (by omega) (by omega), y3, if_pos (by omega), show 17 * t + 8 + j - (17 * t + 8) = j by omega]
      exact a3 j hj
    · rw [← hw]; simp [s_p]
    · rw [← hw]; simp [s_p]
    · rw [← hw]; simp [s_p]
set_option maxHeartbeats 4000000 in
theorem r_get (hd : 1 ≤ d) {s : xS} {A : As} {t : Nat} (ht : t < 5) (hW : tWf T) (hAw : aWf T A) (hA : deepS s t T A) : ∃ s', x_ev g_M P d 300 [.ref 110, .int (nI t)] (mkH xs s) (none, mkH xs s') ∧ offR s s' ∧ refS s' T A := by
  have w1 := hW.1
  have h8 := hAw.2.2
  obtain ⟨a1, a2, a3, a4, a5⟩ := hA
  obtain ⟨d, rfl⟩ := x_1 (d := d) (by omega)
  have e17 : 17 * nI t = nI (17 * t) := by rw [show (17 : Int32) = nI 17 from rfl, pk_mul]
  have e8 : nI (17 * t) + 8 = nI (17 * t + 8) := nI_add _ 8
  obtain ⟨z, hz, e1⟩ := x_upY (C := x_ev g_M P d) (k := 300) (N := 8) (β := xS) (R := fun i z => (∀ q, q ≠ 117 → z.1 q = s.1 q) ∧ z.2 = s.2 ∧ ∀ m, m < i → z.1 117 m = s.1 123 (17 * t + m)) (F := fun i z => (7, [some (.ref 110), some (.int (nI t)), some (.int (nI (17 * t))), some (.int (nI i))], [], mkH xs z)) (fun i z hi hR => by
    obtain ⟨r1, r2, r3⟩ := hR
    have hc : ¬ 8 ≤ nI i := nI_ge (b := 8) hi (by omega)
    have hx : x_rd (z.1 117) 8 (nI i) = some (z.1 117 i) := x_rd_nI (by omega) (by omega)
    have hy : x_rd (z.1 123) 85 (nI (17 * t + i)) = some (s.1 123 (17 * t + i)) := by rw [x_rd_nI (by omega) (by omega), r1 123 (by omega)]
    refine ⟨s_p z 117 i (s.1 123 (17 * t + i)), ⟨fun q hq => by rw [← r1 q hq]; exact s_p_o.1 q hq, r2, fun m hm => ?_⟩, fun r => ?_⟩
    · by_cases hmi : m = i
      · simp [s_p, hmi]
      · rw [← r3 m (by omega)]
        simp [s_p, hmi]
    · simp only [w_Ref_get_0, w_Ref_get_13, w_Ref_get_17, w_Ref_get_22, w_Ref_get_26, w_Ref_get_27, w_Ref_get_33, w_Ref_get_41, w_Ref_get_45, w_Ref_get_50, w_Ref_get_57, w_Ref_get_58, w_Ref_get_64, w_Ref_get_69, w_Ref_get_77, w_Ref_get_80, w_Ref_get_85, w_Ref_get_95, w_Ref_get_98, w_Ref_get_103, w_Ref_get_113, w_Ref_get_116, w_Ref_get_7 (l3 := nI i), hc, if_false, c_110, f_110_0, p_110_0, f_110_1, f_110_2, f_110_3, f_110_4, f_110_5, p_110_5, f_110_6, f_110_7, p_110_7, f_110_8, p_110_8, f_110_9, p_110_9, f_110_10, p_110_10, f_110_11, p_110_11, f_110_12, p_110_12, f_110_13, p_110_13, f_110_14, f_110_15, f_110_16, p_110_16, f_110_17, f_110_18, p_110_18, f_110_19, p_110_19, f_110_20, f_110_21, p_110_21, f_110_22, p_110_22, f_110_23, f_110_24, f_110_25, p_110_25, f_110_26, f_110_27, f_110_28, f_110_29, f_110_30, f_110_31, p_110_31, f_110_32, p_110_32, f_110_33, p_110_33, f_110_34, p_110_34, f_110_35, f_110_36, f_110_37, f_110_38, e_117, i_117, e_123, i_123, Option.some.injEq, exists_eq_left', exists_eq_left, Option.toList_some, Option.toList_none, List.cons_append, List.nil_append, true_and, and_true, Option.map_some, Option.map_none, nI_add, hx, hy, nI_clamp (show i < 2 ^ 31 by omega), nI_1]) 8 0 s (by omega) ⟨fun _ _ => rfl, rfl, fun m hm => by omega⟩
  obtain ⟨r1, r2, r3⟩ := hz
  obtain ⟨y, hy0, e2⟩ := x_upY (C := x_ev g_M P d) (k := 300) (N := 6) (β := xS) (R := fun i y => (∀ q, q ≠ 117 → q ≠ 118 → y.1 q = s.1 q) ∧ y.2 = s.2 ∧ y.1 117 = z.1 117 ∧ ∀ m, m < i → y.1 118 m = s.1 123 (17 * t + 8 + m)) (F := fun i y => (35, [some (.ref 110), some (.int (nI t)), some (.int (nI (17 * t))), some (.int (nI i))], [], mkH xs y)) (fun i y hi hR => by
    obtain ⟨y1, y2, y4, y3⟩ := hR
    have hc : ¬ 6 ≤ nI i := nI_ge (b := 6) hi (by omega)
    have hx : x_rd (y.1 118) 6 (nI i) = some (y.1 118 i) := x_rd_nI (by omega) (by omega)
    have hy : x_rd (y.1 123) 85 (nI (17 * t + 8 + i)) = some (s.1 123 (17 * t + 8 + i)) := by rw [x_rd_nI (by omega) (by omega), y1 123 (by omega) (by omega)]
    refine ⟨s_p y 118 i (s.1 123 (17 * t + 8 + i)), ⟨fun q hq hq2 => by rw [← y1 q hq hq2]; exact s_p_o.1 q hq2, y2, by rw [← y4]; exact s_p_o.1 117 (by omega), fun m hm => ?_⟩, fun r => ?_⟩
    · by_cases hmi : m = i
      · simp [s_p, hmi]
      · rw [← y3 m (by omega)]
        simp [s_p, hmi]
    · simp only [w_Ref_get_0, w_Ref_get_13, w_Ref_get_17, w_Ref_get_22, w_Ref_get_26, w_Ref_get_27, w_Ref_get_33, w_Ref_get_41, w_Ref_get_45, w_Ref_get_50, w_Ref_get_57, w_Ref_get_58, w_Ref_get_64, w_Ref_get_69, w_Ref_get_77, w_Ref_get_80, w_Ref_get_85, w_Ref_get_95, w_Ref_get_98, w_Ref_get_103, w_Ref_get_113, w_Ref_get_116, w_Ref_get_35 (l3 := nI i), hc, if_false, c_110, f_110_0, p_110_0, f_110_1, f_110_2, f_110_3, f_110_4, f_110_5, p_110_5, f_110_6, f_110_7, p_110_7, f_110_8, p_110_8, f_110_9, p_110_9, f_110_10, p_110_10, f_110_11, p_110_11, f_110_12, p_110_12, f_110_13, p_110_13, f_110_14, f_110_15, f_110_16, p_110_16, f_110_17, f_110_18, p_110_18, f_110_19, p_110_19, f_110_20, f_110_21, p_110_21, f_110_22, p_110_22, f_110_23, f_110_24, f_110_25, p_110_25, f_110_26, f_110_27, f_110_28, f_110_29, f_110_30, f_110_31, p_110_31, f_110_32, p_110_32, f_110_33, p_110_33, f_110_34, p_110_34, f_110_35, f_110_36, f_110_37, f_110_38, e_118, i_118, e_123, i_123, Option.some.injEq, exists_eq_left', exists_eq_left, Option.toList_some, Option.toList_none, List.cons_append, List.nil_append, true_and, and_true, Option.map_some, Option.map_none, e8, nI_add, hx, hy, nI_clamp (show i < 2 ^ 31 by omega), nI_1]) 6 0 z (by omega) ⟨fun q hq _ => r1 q hq, r2, rfl, fun m hm => by omega⟩
  obtain ⟨y1, y2, y4, y3⟩ := hy0
  have c123 : ∀ m, y.1 123 m = s.1 123 m := fun m => by rw [y1 123 (by omega) (by omega)]
  refine ⟨s_p (s_p (s_p y 110 16 (nI A.1.length)) 110 18 A.2.2.1) 110 19 A.2.1, ?_, ⟨fun q b c e => ?_, fun k b c e => ?_, y2⟩, ?_⟩
  · have g14 : nI (17 * t + 8) + 6 = nI (17 * t + 14) := nI_add _ 6
    have g15 : nI (17 * t + 14) + 1 = nI (17 * t + 15) := nI_add _ 1
    have g16 : nI (17 * t + 14) + 2 = nI (17 * t + 16) := nI_add _ 2
    have x14 : x_rd (y.1 123) 85 (nI (17 * t + 14)) = some (nI A.1.length) := by rw [x_rd_nI (by omega) (by omega), c123, a3]
    have x15 : ∀ v, x_rd ((s_p y 110 16 v).1 123) 85 (nI (17 * t + 15)) = some A.2.2.1 := fun v => by
      rw [x_rd_nI (by omega) (by omega), s_p_o.1 123 (by omega), c123, a4]
    have x16 : ∀ v u, x_rd ((s_p (s_p y 110 16 v) 110 18 u).1 123) 85 (nI (17 * t + 16)) = some A.2.1 := fun v u => by
      rw [x_rd_nI (by omega) (by omega), s_p_o.1 123 (by omega), s_p_o.1 123 (by omega), c123, a5]
    rw [x_ev_in rfl (Nat.le_of_ble_eq_true rfl)]
    rw [show x_ent (x_nL g_M 300) [.ref 110, .int (nI t)] = [some (.ref 110), some (.int (nI t)), none, none] from rfl]
    rw [w_Ref_get_0, e17]
    refine (e1 _).mpr ?_
    simp only [w_Ref_get_7 (l3 := nI 8), w_Ref_get_33, show (8 : Int32) ≤ nI 8 from Int32.le_refl _, if_true]
    refine (e2 _).mpr ?_
    simp only [w_Ref_get_0, w_Ref_get_13, w_Ref_get_17, w_Ref_get_22, w_Ref_get_26, w_Ref_get_27, w_Ref_get_33, w_Ref_get_41, w_Ref_get_45, w_Ref_get_50, w_Ref_get_57, w_Ref_get_58, w_Ref_get_64, w_Ref_get_69, w_Ref_get_77, w_Ref_get_80, w_Ref_get_85, w_Ref_get_95, w_Ref_get_98, w_Ref_get_103, w_Ref_get_113, w_Ref_get_116, w_Ref_get_35 (l3 := nI 6), show (6 : Int32) ≤ nI 6 from Int32.le_refl _, if_true, c_110, f_110_0, p_110_0, f_110_1, f_110_2, f_110_3, f_110_4, f_110_5, p_110_5, f_110_6, f_110_7, p_110_7, f_110_8, p_110_8, f_110_9, p_110_9, f_110_10, p_110_10, f_110_11, p_110_11, f_110_12, p_110_12, f_110_13, p_110_13, f_110_14, f_110_15, f_110_16, p_110_16, f_110_17, f_110_18, p_110_18, f_110_19, p_110_19, f_110_20, f_110_21, p_110_21, f_110_22, p_110_22, f_110_23, f_110_24, f_110_25, p_110_25, f_110_26, f_110_27, f_110_28, f_110_29, f_110_30, f_110_31, p_110_31, f_110_32, p_110_32, f_110_33, p_110_33, f_110_34, p_110_34, f_110_35, f_110_36, f_110_37, f_110_38, e_123, i_123, Option.some.injEq, exists_eq_left', exists_eq_left, Option.toList_some, Option.toList_none, List.cons_append, List.nil_append, true_and, and_true, Option.map_some, Option.map_none, e8, g14, g15, g16, x14, x15, x16]
  · rw [← y1 q c e]
    funext k
    simp [s_p, b]
  · rw [← y1 110 (by omega) (by omega)]
    simp [s_p, b, c, e]
  · refine ⟨by simp [s_p], fun i hi => ?_, fun j hj => ?_, by simp [s_p], by simp [s_p]⟩
    · have : (s_p (s_p (s_p y 110 16 (nI A.1.length)) 110 18 A.2.2.1) 110 19 A.2.1).1 117 i = y.1 117 i := by simp [s_p]
      rw [this, y4, r3 i (by omega)]
      exact a1 i hi
    · have : (s_p (s_p (s_p y 110 16 (nI A.1.length)) 110 18 A.2.2.1) 110 19 A.2.1).1 118 j = y.1 118 j := by simp [s_p]
      rw [this, y3 j (by omega)]
      exact a2 j hj
theorem r_open0 (hd : 2 ≤ d) {s : xS} {A : As} {t : Nat} (ht : t < 5) (hW : tWf T) (hAw : aWf T A) (hA : refS s T A) : ∃ s', x_ev g_M P d 302 [.ref 110, .int (nI t)] (mkH xs s) (none, mkH xs s') ∧ offP t s s' ∧ deepS s' t T A ∧ s'.1 124 t = 0 ∧ s'.1 125 t = -1 ∧ s'.1 126 t = 0 := by
  obtain ⟨d, rfl⟩ := x_1 (d := d) (by omega)
  obtain ⟨s1, q1, q2, q3, q4, q5⟩ := r_put (P := P) (d := d) (xs := xs) (by omega) ht hW hAw hA
  generalize hw : s_p (s_p (s_p s1 124 t 0) 125 t (-1)) 126 t 0 = w
  have wo : ∀ q, q ≠ 124 → q ≠ 125 → q ≠ 126 → w.1 q = s1.1 q := fun q b c e => by
    rw [← hw]
    funext k
    simp [s_p, b, c, e]
  have w2 : w.2 = s1.2 := by rw [← hw]; rfl
  refine ⟨w, ?_, ⟨fun q b c => ?_, fun k b => ?_, ?_, fun i hi => ?_, fun i hi => ⟨?_, ?_, ?_⟩⟩, deepS_at hW hAw (fun i b c => by rw [wo 123 (by omega) (by omega) (by omega)]) q5, ?_, ?_, ?_⟩
  · have x24 : ∀ f : Nat → Int32, x_rd f 5 (nI t) = some (f t) := fun f => x_rd_nI (by omega) (by omega)
    rw [x_ev_in rfl (Nat.le_of_ble_eq_true rfl)]
    rw [show x_ent (x_nL g_M 302) [.ref 110, .int (nI t)] = [some (.ref 110), some (.int (nI t))] from rfl]
    simp only [w_Ref_open0_0, w_Ref_open0_5, w_Ref_open0_9, w_Ref_open0_12, w_Ref_open0_16, w_Ref_open0_19, w_Ref_open0_23, w_Ref_open0_26, c_110, f_110_0, p_110_0, f_110_1, f_110_2, f_110_3, f_110_4, f_110_5, p_110_5, f_110_6, f_110_7, p_110_7, f_110_8, p_110_8, f_110_9, p_110_9, f_110_10, p_110_10, f_110_11, p_110_11, f_110_12, p_110_12, f_110_13, p_110_13, f_110_14, f_110_15, f_110_16, p_110_16, f_110_17, f_110_18, p_110_18, f_110_19, p_110_19, f_110_20, f_110_21, p_110_21, f_110_22, p_110_22, f_110_23, f_110_24, f_110_25, p_110_25, f_110_26, f_110_27, f_110_28, f_110_29, f_110_30, f_110_31, p_110_31, f_110_32, p_110_32, f_110_33, p_110_33, f_110_34, p_110_34, f_110_35, f_110_36, f_110_37, f_110_38, e_124, i_124, e_125, i_125, e_126, i_126, Option.some.injEq, exists_eq_left', exists_eq_left, Option.toList_some, Option.toList_none, List.cons_append, List.nil_append, true_and, and_true, Option.map_some, Option.map_none, x_ev_iff q1, x24, nI_clamp (show t < 2 ^ 31 by omega), hw]
  · rw [wo q (by omega) (by omega) (by omega), q2 q (by omega)]
  · rw [wo 110 (by omega) (by omega) (by omega), q2 110 (by omega)]
  · rw [w2, q3]
  · rw [wo 123 (by omega) (by omega) (by omega), q4 i (by omega)]
  · have hi2 : ¬ i = t := by omega
    rw [← q2 124 (by omega), ← hw]
    simp [s_p, hi2]
  · have hi2 : ¬ i = t := by omega
    rw [← q2 125 (by omega), ← hw]
    simp [s_p, hi2]
  · have hi2 : ¬ i = t := by omega
    rw [← q2 126 (by omega), ← hw]
    simp [s_p, hi2]
  · rw [← hw]; simp [s_p]
  · rw [← hw]; simp [s_p]
  · rw [← hw]; simp [s_p]
theorem r_canTurn (hd : 7 ≤ d) (hK : tOk T) {s : xS} {A : As} {q a : Nat} (hq : q < tP T) (ha : a ≤ 30) (hT : refT s 111 0 T) (hA : refS s T A) (hO : aOk T A) {r : Option Value × xH} : x_ev g_M P d 301 [.ref 110, .int (nI q), .int (nI a)] (mkH xs s) r ↔ r = (some (.int (b01 (gTk T A q a).isSome)), mkH xs s) := by
  have hW := hK.1
  have w1 := hW.1
  have w2 := hW.2.1
  have e30 : nI a = 30 ↔ a = 30 := nI_eq (b := 30) (by omega) (by omega)
  have e10 : nI a = 10 + nI q ↔ a = 10 + q := by
    rw [show (10 : Int32) + nI q = nI (10 + q) from nI_add 10 q]
    exact nI_eq (by omega) (by omega)
  have hown : (if nI a < 0 then (0 : Int32) else if nI (tM T) ≤ nI a then 0 else 1) = if a < tM T then 1 else 0 := by
    rw [if_neg (nI_pos (by omega))]
    by_cases h : a < tM T
    · rw [if_neg (nI_ge h (by omega)), if_pos h]
    · rw [if_pos (nI_le (by omega) (by omega)), if_neg h]
  obtain ⟨d, rfl⟩ := x_1 (d := d) (by omega)
  rw [x_ev_in rfl (Nat.le_of_ble_eq_true rfl)]
  rw [show x_ent (x_nL g_M 301) [.ref 110, .int (nI q), .int (nI a)] = [some (.ref 110), some (.int (nI q)), some (.int (nI a))] from rfl]
  unfold gTk
  by_cases h3 : a = 30
  · have ea : nI a = 30 := e30.mpr h3
    rw [if_neg (by omega), if_neg (by omega), if_pos h3]
    simp only [w_Ref_canTurn_0, w_Ref_canTurn_6, w_Ref_canTurn_8, w_Ref_canTurn_14, w_Ref_canTurn_20, w_Ref_canTurn_23, w_Ref_canTurn_29, w_Ref_canTurn_32, w_Ref_canTurn_37, w_Ref_canTurn_40, w_Ref_canTurn_44, w_Ref_canTurn_45, w_Ref_canTurn_46, w_Ref_canTurn_54, w_Ref_canTurn_59, w_Ref_canTurn_62, w_Ref_canTurn_66, w_Ref_canTurn_67, ea, not_true_eq_false, if_false, x_nb1, Option.some.injEq, exists_eq_left', exists_eq_left, Option.toList_some, Option.toList_none, List.cons_append, List.nil_append, true_and, and_true, Option.map_some, Option.map_none, Option.isSome_some, b01, if_true]
    exact eq_comm
  · have n30 : ¬ nI a = 30 := fun z => h3 (e30.mp z)
    by_cases h10 : a < 10
    · have c10 : ¬ (10 : Int32) ≤ nI a := nI_ge (b := 10) h10 (by omega)
      by_cases hm : a < tM T
      · by_cases hi : tIs T q a = true
        · rw [if_pos ⟨hm, hi⟩, aTake_s hW hm]
          simp only [w_Ref_canTurn_0, w_Ref_canTurn_6, w_Ref_canTurn_8, w_Ref_canTurn_14, w_Ref_canTurn_20, w_Ref_canTurn_23, w_Ref_canTurn_29, w_Ref_canTurn_32, w_Ref_canTurn_37, w_Ref_canTurn_40, w_Ref_canTurn_44, w_Ref_canTurn_45, w_Ref_canTurn_46, w_Ref_canTurn_54, w_Ref_canTurn_59, w_Ref_canTurn_62, w_Ref_canTurn_66, w_Ref_canTurn_67, c_110, f_110_0, p_110_0, f_110_1, f_110_2, f_110_3, f_110_4, f_110_5, p_110_5, f_110_6, f_110_7, p_110_7, f_110_8, p_110_8, f_110_9, p_110_9, f_110_10, p_110_10, f_110_11, p_110_11, f_110_12, p_110_12, f_110_13, p_110_13, f_110_14, f_110_15, f_110_16, p_110_16, f_110_17, f_110_18, p_110_18, f_110_19, p_110_19, f_110_20, f_110_21, p_110_21, f_110_22, p_110_22, f_110_23, f_110_24, f_110_25, p_110_25, f_110_26, f_110_27, f_110_28, f_110_29, f_110_30, f_110_31, p_110_31, f_110_32, p_110_32, f_110_33, p_110_33, f_110_34, p_110_34, f_110_35, f_110_36, f_110_37, f_110_38, Option.some.injEq, exists_eq_left', exists_eq_left, Option.toList_some, Option.toList_none, List.cons_append, List.nil_append, true_and, and_true, Option.map_some, Option.map_none, n30, not_false_eq_true, if_true, c10, if_false, r_isMatterI (d := d) (by omega) hT hW, hown, hm, show ¬ ((1 : Int32) = 0) by decide, r_isParty (d := d) (by omega) hT hW hq hm, hi, b01, r_isOpen (d := d) (by omega) hT hW hA hO.1 hm]
          by_cases ho : tOpen T (msk A.1) a = true
          · simp [ho, x_nb1, eq_comm (a := r)]
          · simp [ho, x_nb0, eq_comm (a := r)]
        · rw [if_neg (fun z => hi z.2), if_neg (by omega), if_neg h3]
          simp only [w_Ref_canTurn_0, w_Ref_canTurn_6, w_Ref_canTurn_8, w_Ref_canTurn_14, w_Ref_canTurn_20, w_Ref_canTurn_23, w_Ref_canTurn_29, w_Ref_canTurn_32, w_Ref_canTurn_37, w_Ref_canTurn_40, w_Ref_canTurn_44, w_Ref_canTurn_45, w_Ref_canTurn_46, w_Ref_canTurn_54, w_Ref_canTurn_59, w_Ref_canTurn_62, w_Ref_canTurn_66, w_Ref_canTurn_67, c_110, f_110_0, p_110_0, f_110_1, f_110_2, f_110_3, f_110_4, f_110_5, p_110_5, f_110_6, f_110_7, p_110_7, f_110_8, p_110_8, f_110_9, p_110_9, f_110_10, p_110_10, f_110_11, p_110_11, f_110_12, p_110_12, f_110_13, p_110_13, f_110_14, f_110_15, f_110_16, p_110_16, f_110_17, f_110_18, p_110_18, f_110_19, p_110_19, f_110_20, f_110_21, p_110_21, f_110_22, p_110_22, f_110_23, f_110_24, f_110_25, p_110_25, f_110_26, f_110_27, f_110_28, f_110_29, f_110_30, f_110_31, p_110_31, f_110_32, p_110_32, f_110_33, p_110_33, f_110_34, p_110_34, f_110_35, f_110_36, f_110_37, f_110_38, Option.some.injEq, exists_eq_left', exists_eq_left, Option.toList_some, Option.toList_none, List.cons_append, List.nil_append, true_and, and_true, Option.map_some, Option.map_none, n30, not_false_eq_true, if_true, c10, if_false, r_isMatterI (d := d) (by omega) hT hW, hown, hm, show ¬ ((1 : Int32) = 0) by decide, r_isParty (d := d) (by omega) hT hW hq hm, hi, b01, Bool.false_eq_true, x_nb0, Option.isSome_none]
          exact eq_comm
      · rw [if_neg (fun z => hm z.1), if_neg (by omega), if_neg h3]
        simp only [w_Ref_canTurn_0, w_Ref_canTurn_6, w_Ref_canTurn_8, w_Ref_canTurn_14, w_Ref_canTurn_20, w_Ref_canTurn_23, w_Ref_canTurn_29, w_Ref_canTurn_32, w_Ref_canTurn_37, w_Ref_canTurn_40, w_Ref_canTurn_44, w_Ref_canTurn_45, w_Ref_canTurn_46, w_Ref_canTurn_54, w_Ref_canTurn_59, w_Ref_canTurn_62, w_Ref_canTurn_66, w_Ref_canTurn_67, c_110, f_110_0, p_110_0, f_110_1, f_110_2, f_110_3, f_110_4, f_110_5, p_110_5, f_110_6, f_110_7, p_110_7, f_110_8, p_110_8, f_110_9, p_110_9, f_110_10, p_110_10, f_110_11, p_110_11, f_110_12, p_110_12, f_110_13, p_110_13, f_110_14, f_110_15, f_110_16, p_110_16, f_110_17, f_110_18, p_110_18, f_110_19, p_110_19, f_110_20, f_110_21, p_110_21, f_110_22, p_110_22, f_110_23, f_110_24, f_110_25, p_110_25, f_110_26, f_110_27, f_110_28, f_110_29, f_110_30, f_110_31, p_110_31, f_110_32, p_110_32, f_110_33, p_110_33, f_110_34, p_110_34, f_110_35, f_110_36, f_110_37, f_110_38, Option.some.injEq, exists_eq_left', exists_eq_left, Option.toList_some, Option.toList_none, List.cons_append, List.nil_append, true_and, and_true, Option.map_some, Option.map_none, n30, not_false_eq_true, if_true, c10, if_false, r_isMatterI (d := d) (by omega) hT hW, hown, hm, x_nb0, Option.isSome_none, b01, Bool.false_eq_true]
        exact eq_comm
    · have c10 : (10 : Int32) ≤ nI a := nI_le (a := 10) (by omega) (by omega)
      rw [if_neg (by omega)]
      by_cases h2 : a = 10 + q
      · have hae : nI a = 10 + nI q := e10.mpr h2
        rw [if_pos h2, aTake_d hW hq]
        rw [hae] at n30 c10
        simp only [w_Ref_canTurn_0, w_Ref_canTurn_6, w_Ref_canTurn_8, w_Ref_canTurn_14, w_Ref_canTurn_20, w_Ref_canTurn_23, w_Ref_canTurn_29, w_Ref_canTurn_32, w_Ref_canTurn_37, w_Ref_canTurn_40, w_Ref_canTurn_44, w_Ref_canTurn_45, w_Ref_canTurn_46, w_Ref_canTurn_54, w_Ref_canTurn_59, w_Ref_canTurn_62, w_Ref_canTurn_66, w_Ref_canTurn_67, c_110, f_110_0, p_110_0, f_110_1, f_110_2, f_110_3, f_110_4, f_110_5, p_110_5, f_110_6, f_110_7, p_110_7, f_110_8, p_110_8, f_110_9, p_110_9, f_110_10, p_110_10, f_110_11, p_110_11, f_110_12, p_110_12, f_110_13, p_110_13, f_110_14, f_110_15, f_110_16, p_110_16, f_110_17, f_110_18, p_110_18, f_110_19, p_110_19, f_110_20, f_110_21, p_110_21, f_110_22, p_110_22, f_110_23, f_110_24, f_110_25, p_110_25, f_110_26, f_110_27, f_110_28, f_110_29, f_110_30, f_110_31, p_110_31, f_110_32, p_110_32, f_110_33, p_110_33, f_110_34, p_110_34, f_110_35, f_110_36, f_110_37, f_110_38, Option.some.injEq, exists_eq_left', exists_eq_left, Option.toList_some, Option.toList_none, List.cons_append, List.nil_append, true_and, and_true, Option.map_some, Option.map_none, hae, n30, not_false_eq_true, if_true, c10, not_true_eq_false, if_false, r_whyNot (d := d) (by omega) hT hW hA hO hq]
        by_cases ho : aWhy T A q = 0
        · simp [ho, x_nb1, b01, eq_comm (a := r)]
        · simp [ho, x_nb0, b01, eq_comm (a := r)]
      · have n10 : ¬ nI a = 10 + nI q := fun z => h2 (e10.mp z)
        rw [if_neg h2, if_neg h3]
        simp only [w_Ref_canTurn_0, w_Ref_canTurn_6, w_Ref_canTurn_8, w_Ref_canTurn_14, w_Ref_canTurn_20, w_Ref_canTurn_23, w_Ref_canTurn_29, w_Ref_canTurn_32, w_Ref_canTurn_37, w_Ref_canTurn_40, w_Ref_canTurn_44, w_Ref_canTurn_45, w_Ref_canTurn_46, w_Ref_canTurn_54, w_Ref_canTurn_59, w_Ref_canTurn_62, w_Ref_canTurn_66, w_Ref_canTurn_67, Option.some.injEq, exists_eq_left', exists_eq_left, Option.toList_some, Option.toList_none, List.cons_append, List.nil_append, true_and, and_true, Option.map_some, Option.map_none, n30, not_false_eq_true, if_true, c10, n10, x_nb0, Option.isSome_none, b01, Bool.false_eq_true, if_false]
        exact eq_comm
theorem r_gAct (hd : 6 ≤ d) (hK : tOk T) {s : xS} {A B : As} {q a : Nat} (hq : q < tP T) (ha : a ≤ 30) (hT : refT s 111 0 T) (hA : refS s T A) (hO : aOk T A) (h : gTk T A q a = some B) : ∃ s', x_ev g_M P d 239 [.ref 110, .int (nI a)] (mkH xs s) (none, mkH xs s') ∧ offR s s' ∧ refS s' T B := by
  have hW := hK.1
  have w1 := hW.1
  unfold gTk at h
  split at h
  · exact r_act0 (by omega) hT hW hA hO.1 h
  · split at h
    · rename_i h2
      have e : (10 : Int32) + nI q = nI a := by rw [show (10 : Int32) + nI q = nI (10 + q) from nI_add 10 q, h2]
      rw [e] at h
      exact r_act0 (by omega) hT hW hA hO.1 h
    · split at h
      · rename_i h3
        cases h
        refine ⟨s, ?_, offR.rf, hA⟩
        rw [h3]
        obtain ⟨d, rfl⟩ := x_1 (d := d) (by omega)
        rw [x_ev_in rfl (Nat.le_of_ble_eq_true rfl)]
        rw [show x_ent (x_nL g_M 239) [.ref 110, .int (nI 30)] = [some (.ref 110), some (.int (nI 30))] from rfl]
        simp only [w_Ref_act0_0, w_Ref_act0_6, w_Ref_act0_11, w_Ref_act0_14, w_Ref_act0_20, w_Ref_act0_28, w_Ref_act0_32, w_Ref_act0_38, w_Ref_act0_42, show (10 : Int32) ≤ nI 30 by decide, show (20 : Int32) ≤ nI 30 by decide, show ¬ (nI 30 = 20) by decide, if_true, not_false_eq_true]
      · cases h
theorem r_gTake (hd : 1 ≤ d) {s : xS} {t a : Nat} {z : Option (Nat × Int32)} {v : Int32} (ht : t < 4) (hz : ∀ w, z = some w → w.1 ≤ 30) (h1 : s.1 125 t = enc1 z) (h2 : s.1 126 t = enc2 z) : ∃ s', x_ev g_M P d 303 [.ref 110, .int (nI t), .int (nI a), .int v] (mkH xs s) (none, mkH xs s') ∧ (∀ q, q ≠ 125 → q ≠ 126 → s'.1 q = s.1 q) ∧ s'.2 = s.2 ∧ (∀ i, i ≠ t → s'.1 125 i = s.1 125 i ∧ s'.1 126 i = s.1 126 i) ∧ s'.1 125 t = enc1 (gUp (decide (t % 2 = 0)) z a v) ∧ s'.1 126 t = enc2 (gUp (decide (t % 2 = 0)) z a v) := by
  have em : nI t - nI t / 2 * 2 = nI (t % 2) := pk_rem (d := 2) (by omega) (by omega) (by omega)
  have em0 : nI (t % 2) = 0 ↔ t % 2 = 0 := nI_eq (b := 0) (by omega) (by omega)
  have x25 : ∀ f : Nat → Int32, x_rd f 5 (nI t) = some (f t) := fun f => x_rd_nI (by omega) (by omega)
  unfold gUp
  have hto : ∀ r, x_R (x_ev g_M P (d - 1)) 303 (0, [some (.ref 110), some (.int (nI t)), some (.int (nI a)), some (.int v), none], [], mkH xs s) r ↔ if gW (decide (t % 2 = 0)) z v = true then x_R (x_ev g_M P (d - 1)) 303 (52, [some (.ref 110), some (.int (nI t)), some (.int (nI a)), some (.int v), some (.int (b01 (decide (t % 2 = 0))))], [], mkH xs s) r else x_R (x_ev g_M P (d - 1)) 303 (51, [some (.ref 110), some (.int (nI t)), some (.int (nI a)), some (.int v), some (.int (b01 (decide (t % 2 = 0))))], [], mkH xs s) r := by
    intro r
    cases z with
    | none =>
      have h1 : s.1 125 t = -1 := h1
      by_cases ht2 : t % 2 = 0
      · simp only [w_Ref_take_0, w_Ref_take_3, w_Ref_take_6, w_Ref_take_10, w_Ref_take_11, w_Ref_take_17, w_Ref_take_19, w_Ref_take_23, w_Ref_take_28, w_Ref_take_33, w_Ref_take_35, w_Ref_take_38, w_Ref_take_41, w_Ref_take_46, w_Ref_take_48, w_Ref_take_56, w_Ref_take_59, w_Ref_take_63, w_Ref_take_66, c_110, f_110_0, p_110_0, f_110_1, f_110_2, f_110_3, f_110_4, f_110_5, p_110_5, f_110_6, f_110_7, p_110_7, f_110_8, p_110_8, f_110_9, p_110_9, f_110_10, p_110_10, f_110_11, p_110_11, f_110_12, p_110_12, f_110_13, p_110_13, f_110_14, f_110_15, f_110_16, p_110_16, f_110_17, f_110_18, p_110_18, f_110_19, p_110_19, f_110_20, f_110_21, p_110_21, f_110_22, p_110_22, f_110_23, f_110_24, f_110_25, p_110_25, f_110_26, f_110_27, f_110_28, f_110_29, f_110_30, f_110_31, p_110_31, f_110_32, p_110_32, f_110_33, p_110_33, f_110_34, p_110_34, f_110_35, f_110_36, f_110_37, f_110_38, e_125, i_125, Option.some.injEq, exists_eq_left', exists_eq_left, Option.toList_some, Option.toList_none, List.cons_append, List.nil_append, true_and, and_true, Option.map_some, Option.map_none, show ¬ ((2 : Int32) = 0) by decide, not_false_eq_true, em, em0, ht2, show (nI 0 = 0) ↔ True by decide, not_true_eq_false, if_false, x25, h1, if_true, gW, b01, decide_true]
      · simp only [w_Ref_take_0, w_Ref_take_3, w_Ref_take_6, w_Ref_take_10, w_Ref_take_11, w_Ref_take_17, w_Ref_take_19, w_Ref_take_23, w_Ref_take_28, w_Ref_take_33, w_Ref_take_35, w_Ref_take_38, w_Ref_take_41, w_Ref_take_46, w_Ref_take_48, w_Ref_take_56, w_Ref_take_59, w_Ref_take_63, w_Ref_take_66, c_110, f_110_0, p_110_0, f_110_1, f_110_2, f_110_3, f_110_4, f_110_5, p_110_5, f_110_6, f_110_7, p_110_7, f_110_8, p_110_8, f_110_9, p_110_9, f_110_10, p_110_10, f_110_11, p_110_11, f_110_12, p_110_12, f_110_13, p_110_13, f_110_14, f_110_15, f_110_16, p_110_16, f_110_17, f_110_18, p_110_18, f_110_19, p_110_19, f_110_20, f_110_21, p_110_21, f_110_22, p_110_22, f_110_23, f_110_24, f_110_25, p_110_25, f_110_26, f_110_27, f_110_28, f_110_29, f_110_30, f_110_31, p_110_31, f_110_32, p_110_32, f_110_33, p_110_33, f_110_34, p_110_34, f_110_35, f_110_36, f_110_37, f_110_38, e_125, i_125, Option.some.injEq, exists_eq_left', exists_eq_left, Option.toList_some, Option.toList_none, List.cons_append, List.nil_append, true_and, and_true, Option.map_some, Option.map_none, show ¬ ((2 : Int32) = 0) by decide, not_false_eq_true, em, em0, ht2, if_true, x25, h1, gW, b01, decide_false, Bool.false_eq_true, if_false]
    | some w =>
      have h1 : s.1 125 t = nI w.1 := h1
      have h2 : s.1 126 t = w.2 := h2
      have hw := nI_nm1 (m := w.1) (by have := hz w rfl; omega)
      by_cases ht2 : t % 2 = 0
      · simp only [w_Ref_take_0, w_Ref_take_3, w_Ref_take_6, w_Ref_take_10, w_Ref_take_11, w_Ref_take_17, w_Ref_take_19, w_Ref_take_23, w_Ref_take_28, w_Ref_take_33, w_Ref_take_35, w_Ref_take_38, w_Ref_take_41, w_Ref_take_46, w_Ref_take_48, w_Ref_take_56, w_Ref_take_59, w_Ref_take_63, w_Ref_take_66, c_110, f_110_0, p_110_0, f_110_1, f_110_2, f_110_3, f_110_4, f_110_5, p_110_5, f_110_6, f_110_7, p_110_7, f_110_8, p_110_8, f_110_9, p_110_9, f_110_10, p_110_10, f_110_11, p_110_11, f_110_12, p_110_12, f_110_13, p_110_13, f_110_14, f_110_15, f_110_16, p_110_16, f_110_17, f_110_18, p_110_18, f_110_19, p_110_19, f_110_20, f_110_21, p_110_21, f_110_22, p_110_22, f_110_23, f_110_24, f_110_25, p_110_25, f_110_26, f_110_27, f_110_28, f_110_29, f_110_30, f_110_31, p_110_31, f_110_32, p_110_32, f_110_33, p_110_33, f_110_34, p_110_34, f_110_35, f_110_36, f_110_37, f_110_38, e_125, i_125, e_126, i_126, Option.some.injEq, exists_eq_left', exists_eq_left, Option.toList_some, Option.toList_none, List.cons_append, List.nil_append, true_and, and_true, Option.map_some, Option.map_none, show ¬ ((2 : Int32) = 0) by decide, not_false_eq_true, em, em0, ht2, show (nI 0 = 0) ↔ True by decide, not_true_eq_false, if_false, x25, h1, h2, hw, show ¬ ((1 : Int32) = 0) by decide, gW, b01, decide_true, if_true, decide_eq_true_eq]
      · simp only [w_Ref_take_0, w_Ref_take_3, w_Ref_take_6, w_Ref_take_10, w_Ref_take_11, w_Ref_take_17, w_Ref_take_19, w_Ref_take_23, w_Ref_take_28, w_Ref_take_33, w_Ref_take_35, w_Ref_take_38, w_Ref_take_41, w_Ref_take_46, w_Ref_take_48, w_Ref_take_56, w_Ref_take_59, w_Ref_take_63, w_Ref_take_66, c_110, f_110_0, p_110_0, f_110_1, f_110_2, f_110_3, f_110_4, f_110_5, p_110_5, f_110_6, f_110_7, p_110_7, f_110_8, p_110_8, f_110_9, p_110_9, f_110_10, p_110_10, f_110_11, p_110_11, f_110_12, p_110_12, f_110_13, p_110_13, f_110_14, f_110_15, f_110_16, p_110_16, f_110_17, f_110_18, p_110_18, f_110_19, p_110_19, f_110_20, f_110_21, p_110_21, f_110_22, p_110_22, f_110_23, f_110_24, f_110_25, p_110_25, f_110_26, f_110_27, f_110_28, f_110_29, f_110_30, f_110_31, p_110_31, f_110_32, p_110_32, f_110_33, p_110_33, f_110_34, p_110_34, f_110_35, f_110_36, f_110_37, f_110_38, e_125, i_125, e_126, i_126, Option.some.injEq, exists_eq_left', exists_eq_left, Option.toList_some, Option.toList_none, List.cons_append, List.nil_append, true_and, and_true, Option.map_some, Option.map_none, show ¬ ((2 : Int32) = 0) by decide, not_false_eq_true, em, em0, ht2, if_false, x25, h1, h2, hw, gW, b01, decide_false, if_true, Bool.false_eq_true, decide_eq_true_eq]
  obtain ⟨d, rfl⟩ := x_1 (d := d) (by omega)
  by_cases hw : gW (decide (t % 2 = 0)) z v = true
  · refine ⟨s_p (s_p s 125 t (nI a)) 126 t v, ?_, fun q b c => ?_, rfl, fun i hi => ⟨?_, ?_⟩, ?_, ?_⟩
    · rw [x_ev_in rfl (Nat.le_of_ble_eq_true rfl)]
      rw [show x_ent (x_nL g_M 303) [.ref 110, .int (nI t), .int (nI a), .int v] = [some (.ref 110), some (.int (nI t)), some (.int (nI a)), some (.int v), none] from rfl]
      refine (hto _).mpr ?_
      rw [if_pos hw]
      simp only [w_Ref_take_3, w_Ref_take_6, w_Ref_take_10, w_Ref_take_11, w_Ref_take_17, w_Ref_take_19, w_Ref_take_23, w_Ref_take_28, w_Ref_take_33, w_Ref_take_35, w_Ref_take_38, w_Ref_take_41, w_Ref_take_46, w_Ref_take_48, w_Ref_take_51, w_Ref_take_52, w_Ref_take_56, w_Ref_take_59, w_Ref_take_63, w_Ref_take_66, c_110, f_110_0, p_110_0, f_110_1, f_110_2, f_110_3, f_110_4, f_110_5, p_110_5, f_110_6, f_110_7, p_110_7, f_110_8, p_110_8, f_110_9, p_110_9, f_110_10, p_110_10, f_110_11, p_110_11, f_110_12, p_110_12, f_110_13, p_110_13, f_110_14, f_110_15, f_110_16, p_110_16, f_110_17, f_110_18, p_110_18, f_110_19, p_110_19, f_110_20, f_110_21, p_110_21, f_110_22, p_110_22, f_110_23, f_110_24, f_110_25, p_110_25, f_110_26, f_110_27, f_110_28, f_110_29, f_110_30, f_110_31, p_110_31, f_110_32, p_110_32, f_110_33, p_110_33, f_110_34, p_110_34, f_110_35, f_110_36, f_110_37, f_110_38, e_125, i_125, e_126, i_126, Option.some.injEq, exists_eq_left', exists_eq_left, Option.toList_some, Option.toList_none, List.cons_append, List.nil_append, true_and, and_true, Option.map_some, Option.map_none, x25, nI_clamp (show t < 2 ^ 31 by omega)]
    · funext k
      simp [s_p, b, c]
    · simp [s_p, hi]
    · simp [s_p, hi]
    · rw [if_pos hw]; simp [s_p, enc1]
    · rw [if_pos hw]; simp [s_p, enc2]
  · refine ⟨s, ?_, fun _ _ _ => rfl, rfl, fun _ _ => ⟨rfl, rfl⟩, by rw [if_neg hw]; exact h1, by rw [if_neg hw]; exact h2⟩
    rw [x_ev_in rfl (Nat.le_of_ble_eq_true rfl)]
    rw [show x_ent (x_nL g_M 303) [.ref 110, .int (nI t), .int (nI a), .int v] = [some (.ref 110), some (.int (nI t)), some (.int (nI a)), some (.int v), none] from rfl]
    refine (hto _).mpr ?_
    rw [if_neg hw]
    simp only [w_Ref_take_51]
end GAMER
