/-! paste (own work) -/
def spV (m : Nat) (x n : Int32) : Int32 := if x < 0 then 0 else if n < 0 then 0 else if nI m < x then 0 else if nI m - x < n then 0 else 1
theorem t64_add {a c : Nat} (ha : a < 2 ^ 31) (hc : c < 2 ^ 31) : ((nI a).toInt64 + (nI c).toInt64).toInt = (a : Int) + c := by
  rw [Int64.toInt_add, Int32.toInt_toInt64, Int32.toInt_toInt64, nI_toInt ha, nI_toInt hc]
  apply Int.bmod_eq_of_le <;> omega
theorem spV_cs {m : Nat} (hm : m ≤ 60) (x n : Int32) : (spV m x n = 0 ∧ (x < 0 ∨ n < 0 ∨ (¬ x < 0 ∧ ¬ n < 0 ∧ (nI m).toInt64 < x.toInt64 + n.toInt64))) ∨ (∃ a c, x = nI a ∧ n = nI c ∧ a + c ≤ m ∧ spV m (nI a) (nI c) = 1 ∧ ¬ (nI m).toInt64 < (nI a).toInt64 + (nI c).toInt64 ∧ (nI a).toInt64 + (nI c).toInt64 ≤ (nI m).toInt64) := by
  by_cases h1 : x < 0
  · left
    exact ⟨by unfold spV; rw [if_pos h1], Or.inl h1⟩
  by_cases h2 : n < 0
  · left
    exact ⟨by unfold spV; rw [if_neg h1, if_pos h2], Or.inr (Or.inl h2)⟩
  obtain ⟨a, ha, rfl⟩ := nI_of h1
  obtain ⟨c, hc, rfl⟩ := nI_of h2
  have e := t64_add ha hc
  have em : ((nI m).toInt64).toInt = (m : Int) := by rw [Int32.toInt_toInt64, nI_toInt (by omega)]
  by_cases h3 : a + c ≤ m
  · right
    refine ⟨a, c, rfl, rfl, h3, ?_, ?_, ?_⟩
    · unfold spV
      rw [if_neg h1, if_neg h2, if_neg (nI_nlt (by omega) (by omega)), pk_sub (by omega), if_neg (nI_nlt (by omega) (by omega))]
    · rw [Int64.lt_iff_toInt_lt, e, em]
      omega
    · rw [Int64.le_iff_toInt_le, e, em]
      omega
  · left
    refine ⟨?_, Or.inr (Or.inr ⟨h1, h2, ?_⟩)⟩
    · unfold spV
      rw [if_neg h1, if_neg h2]
      by_cases h4 : m < a
      · rw [if_pos (nI_lt h4 ha)]
      · rw [if_neg (nI_nlt (by omega) (by omega)), pk_sub (by omega), if_pos (nI_lt (by omega) hc)]
    · rw [Int64.lt_iff_toInt_lt, e, em]
      omega
section PASTE2
variable {P : Nat → List Value → Option Value} {d : Nat} {xs : List Int32} {s : xS} {q : Option Value × xH}
theorem t_spans (hd : 1 ≤ d) {i m : Nat} (hi : i < 4) (h2 : s.1 (77 + 2 * i) 2 = nI m) (x n : Int32) : x_ev g_M P d 65 [.ref (77 + 2 * i), .int x, .int n] (mkH xs s) q ↔ q = (some (.int (spV m x n)), mkH xs s) := by
  obtain ⟨d, rfl⟩ := x_1 (d := d) (by omega)
  rw [x_ev_in rfl (Nat.le_of_ble_eq_true rfl)]
  rw [show x_ent (x_nL g_M 65) [.ref (77 + 2 * i), .int x, .int n] = [some (.ref (77 + 2 * i)), some (.int x), some (.int n)] from rfl]
  simp only [w_Slot_spans_0, w_Slot_spans_4, w_Slot_spans_8, w_Slot_spans_13, w_Slot_spans_16, w_Slot_spans_21, w_Slot_spans_26, w_Slot_spans_30, w_Slot_spans_31, sl_2 hi, Option.some.injEq, exists_eq_left', exists_eq_left, Option.toList_some, Option.toList_none, List.cons_append, List.nil_append, true_and, and_true, Option.map_some, Option.map_none, h2, x_nb0, x_nb1]
  unfold spV
  by_cases g1 : x < 0
  · simp [g1, eq_comm (a := q)]
  by_cases g2 : n < 0
  · simp [g1, g2, eq_comm (a := q)]
  by_cases g3 : nI m < x
  · simp [g1, g2, g3, eq_comm (a := q)]
  by_cases g4 : nI m - x < n <;> simp [g1, g2, g3, g4, eq_comm (a := q)]
end PASTE2
section PASTE3
variable {P : Nat → List Value → Option Value} {W : Wd}
set_option maxHeartbeats 8000000 in
theorem c_paste (h : wOk W) {p t w m m' a b c : Nat} {f f' : Nat → Int64} (hp : p < 4) (ht : t < 4) (ho : wSl W p = some (w, m, f)) (ho' : wSl W t = some (w, m', f')) (hw : w < 4) (hm : m ≤ 60) (hm' : m' ≤ 60) (h1 : a + c ≤ m) (h2 : b + c ≤ m') (v1 : spV m (nI a) (nI c) = 1) (v2 : spV m' (nI b) (nI c) = 1)
    (g1 : (if nI p < 0 then (0 : Int32) else if nI 4 ≤ nI p then 0 else 1) = 1) (g2 : (if nI t < 0 then (0 : Int32) else if nI 4 ≤ nI t then 0 else 1) = 1) : cCall P 187 [.int (nI p), .int (nI a), .int (nI t), .int (nI b), .int (nI c)] W (wSlt W t (some (w, m', fun k => if b ≤ k ∧ k < b + c then f (a + (k - b)) else f' k))) 0 := by
  intro d xs s hd hC
  obtain ⟨-, -, e, -⟩ := id hC
  have e1 := e p hp
  have e2 := e t ht
  rw [ho] at e1
  rw [ho'] at e2
  obtain ⟨a1, a2, a3, a4⟩ : s.1 (77 + 2 * p) 0 = 1 ∧ s.1 (77 + 2 * p) 1 = nI w ∧ s.1 (77 + 2 * p) 2 = nI m ∧ ∀ j, j < 60 → s.2 (78 + 2 * p) j = f j := e1
  obtain ⟨b1, b2, b3, b4⟩ : s.1 (77 + 2 * t) 0 = 1 ∧ s.1 (77 + 2 * t) 1 = nI w ∧ s.1 (77 + 2 * t) 2 = nI m' ∧ ∀ j, j < 60 → s.2 (78 + 2 * t) j = f' j := e2
  have hcp : x_cp (mkH xs s) (78 + 2 * p) (nI a) (78 + 2 * t) (nI b) (nI c) = some (mkH xs (s_cl s (78 + 2 * p) a (78 + 2 * t) b c)) := by
    have := mk_cpl (xs := xs) (s := s) (f := 78 + 2 * p) (d := 78 + 2 * t) (nf := 60) (nd := 60) (by omega) (by omega) (by omega) (by omega) (sl_g hp) (sl_g ht) (sp := nI a) (dp := nI b) (n := nI c) (nI_pos (by omega)) (nI_pos (by omega)) (nI_pos (by omega)) (by rw [nI_clamp (by omega), nI_clamp (by omega)]; omega) (by rw [nI_clamp (by omega), nI_clamp (by omega)]; omega)
    rw [nI_clamp (by omega), nI_clamp (by omega), nI_clamp (by omega)] at this
    exact this
  have hz : slC (s_cl s (78 + 2 * p) a (78 + 2 * t) b c) t (some (w, m', fun k => if b ≤ k ∧ k < b + c then f (a + (k - b)) else f' k)) := by
    refine ⟨b1, b2, b3, fun k hk => ?_⟩
    show (s_cl s (78 + 2 * p) a (78 + 2 * t) b c).2 (78 + 2 * t) k = if b ≤ k ∧ k < b + c then f (a + (k - b)) else f' k
    by_cases hr : b ≤ k ∧ k < b + c
    · rw [if_pos hr, ← a4 (a + (k - b)) (by omega)]
      show (if 78 + 2 * t = 78 + 2 * t ∧ b ≤ k ∧ k < b + c then _ else _) = _
      rw [if_pos ⟨rfl, hr⟩]
    · rw [if_neg hr, ← b4 k hk]
      show (if 78 + 2 * t = 78 + 2 * t ∧ b ≤ k ∧ k < b + c then _ else _) = _
      rw [if_neg (fun z => hr z.2)]
  refine ⟨s_cl s (78 + 2 * p) a (78 + 2 * t) b c, ?_, cW_sl hC (fun q _ => rfl) (fun q hq => s_cl_o.2 q hq) hz ht, fun q hq => ⟨rfl, s_cl_o.2 q (by omega)⟩⟩
  obtain ⟨d, rfl⟩ := x_1 (d := d) (by omega)
  rw [x_ev_in rfl (Nat.le_of_ble_eq_true rfl)]
  rw [show x_ent (x_nL g_M 187) [.ref 1, .int (nI p), .int (nI a), .int (nI t), .int (nI b), .int (nI c)] = [some (.ref 1), some (.int (nI p)), some (.int (nI a)), some (.int (nI t)), some (.int (nI b)), some (.int (nI c)), none, none] from rfl]
  simp only [w_Top_paste_0, w_Top_paste_4, w_Top_paste_7, w_Top_paste_11, w_Top_paste_14, w_Top_paste_17, w_Top_paste_21, w_Top_paste_23, w_Top_paste_29, w_Top_paste_31, w_Top_paste_38, w_Top_paste_41, w_Top_paste_46, w_Top_paste_49, w_Top_paste_52, w_Top_paste_57, w_Top_paste_62, w_Top_paste_65, w_Top_paste_68, w_Top_paste_76, w_Top_paste_79, w_Top_paste_88, w_Top_paste_91, w_Top_paste_94, w_Top_paste_99, w_Top_paste_105, w_Top_paste_112, Option.some.injEq, exists_eq_left', exists_eq_left, Option.toList_some, Option.toList_none, List.cons_append, List.nil_append, true_and, and_true, Option.map_some, Option.map_none, t_isSlot (d := d) (by omega), g1, g2, show ¬ ((1 : Int32) = 0) by decide, not_false_eq_true, if_true, if_false, c_1, f_1_0, f_1_1, p_1_1, f_1_2, f_1_3, f_1_4, f_1_5, f_1_6, p_1_6, f_1_7, f_1_8, f_1_9, f_1_10, f_1_11, f_1_12, f_1_13, f_1_14, e_76, sl_q hp, sl_q ht, sl_0 hp, sl_0 ht, sl_1 hp, sl_1 ht, sl_3 hp, sl_3 ht, sl_c hp, sl_c ht, a1, a2, b1, b2, t_spans (d := d) (by omega) hp a3, t_spans (d := d) (by omega) ht b3, v1, v2, hcp]
set_option maxHeartbeats 8000000 in
theorem r_paste (h : wOk W) {p t w m m' a b c : Nat} {f f' : Nat → Int64} (hp : p < 4) (ht : t < 4) (ho : wSl W p = some (w, m, f)) (ho' : wSl W t = some (w, m', f')) (hw : w < 4) (hm : m ≤ 60) (hm' : m' ≤ 60) (h1 : a + c ≤ m) (h2 : b + c ≤ m') (v1 : ¬ (nI m).toInt64 < (nI a).toInt64 + (nI c).toInt64) (v2 : (nI b).toInt64 + (nI c).toInt64 ≤ (nI m').toInt64)
    (g1 : (if nI p < 0 then (0 : Int32) else if nI 4 ≤ nI p then 0 else 1) = 1) (g2 : (if nI t < 0 then (0 : Int32) else if nI 4 ≤ nI t then 0 else 1) = 1) : rCall P 337 [.int (nI p), .int (nI a), .int (nI t), .int (nI b), .int (nI c)] W (wSlt W t (some (w, m', fun k => if b ≤ k ∧ k < b + c then f (a + (k - b)) else f' k))) 0 := by
  intro d xs s hd hC
  obtain ⟨-, -, e, -⟩ := id hC
  have e1 := e p hp
  have e2 := e t ht
  rw [ho] at e1
  rw [ho'] at e2
  obtain ⟨a1, a2, a3⟩ : s.1 127 p = nI m ∧ s.1 128 p = nI w ∧ ∀ j, j < 60 → s.2 129 (60 * p + j) = f j := e1
  obtain ⟨b1, b2, b3⟩ : s.1 127 t = nI m' ∧ s.1 128 t = nI w ∧ ∀ j, j < 60 → s.2 129 (60 * t + j) = f' j := e2
  obtain ⟨d, rfl⟩ := x_1 (d := d) (by omega)
  have hx7p : x_rd (s.1 127) 4 (nI p) = some (nI m) := by rw [x_rd_nI hp (by omega), a1]
  have hx7t : x_rd (s.1 127) 4 (nI t) = some (nI m') := by rw [x_rd_nI ht (by omega), b1]
  have hx8p : x_rd (s.1 128) 4 (nI p) = some (nI w) := by rw [x_rd_nI hp (by omega), a2]
  have hx8t : x_rd (s.1 128) 4 (nI t) = some (nI w) := by rw [x_rd_nI ht (by omega), b2]
  obtain ⟨z, ho1, k1⟩ := x_upY (C := x_ev g_M P d) (k := 337) (N := c) (β := xS) (R := fun j z => z.1 = s.1 ∧ (∀ q, q ≠ 130 → z.2 q = s.2 q) ∧ ∀ i, i < j → z.2 130 i = f (a + i)) (F := fun j z => (113, [some (.ref 110), some (.int (nI p)), some (.int (nI a)), some (.int (nI t)), some (.int (nI b)), some (.int (nI c)), some (.int (nI j))], [], mkH xs z)) (fun j z hj ho => by
    obtain ⟨r1, r2, r3⟩ := ho
    have hc : ¬ nI c ≤ nI j := nI_ge hj (by omega)
    have ei : 60 * nI p + nI a + nI j = nI (60 * p + a + j) := by rw [show (60 : Int32) = nI 60 from rfl, pk_mul, nI_add, nI_add]
    have hx : x_rd (z.2 129) 240 (nI (60 * p + a + j)) = some (f (a + j)) := by rw [x_rd_nI (by omega) (by omega), r2 129 (by omega), Nat.add_assoc, a3 (a + j) (by omega)]
    have hy : x_rd (z.2 130) 60 (nI j) = some (z.2 130 j) := x_rd_nI (by omega) (by omega)
    refine ⟨s_l z 130 j (f (a + j)), ⟨r1, fun q hq => ?_, fun i hi => ?_⟩, fun r => ?_⟩
    · rw [← r2 q hq]
      exact s_l_o.2 q hq
    · by_cases hij : i = j
      · simp [s_l, hij]
      · rw [← r3 i (by omega)]
        simp [s_l, hij]
    · simp only [w_Ref_paste_0, w_Ref_paste_4, w_Ref_paste_7, w_Ref_paste_11, w_Ref_paste_14, w_Ref_paste_17, w_Ref_paste_21, w_Ref_paste_23, w_Ref_paste_27, w_Ref_paste_31, w_Ref_paste_33, w_Ref_paste_37, w_Ref_paste_40, w_Ref_paste_44, w_Ref_paste_46, w_Ref_paste_50, w_Ref_paste_52, w_Ref_paste_55, w_Ref_paste_58, w_Ref_paste_62, w_Ref_paste_67, w_Ref_paste_72, w_Ref_paste_82, w_Ref_paste_84, w_Ref_paste_89, w_Ref_paste_100, w_Ref_paste_102, w_Ref_paste_107, w_Ref_paste_110, w_Ref_paste_120, w_Ref_paste_124, w_Ref_paste_130, w_Ref_paste_140, w_Ref_paste_141, w_Ref_paste_147, w_Ref_paste_157, w_Ref_paste_161, w_Ref_paste_175, w_Ref_paste_178, w_Ref_paste_179, w_Ref_paste_185, w_Ref_paste_113 (l6 := nI j), hc, if_false, c_110, f_110_0, p_110_0, f_110_1, f_110_2, f_110_3, f_110_4, f_110_5, p_110_5, f_110_6, f_110_7, p_110_7, f_110_8, p_110_8, f_110_9, p_110_9, f_110_10, p_110_10, f_110_11, p_110_11, f_110_12, p_110_12, f_110_13, p_110_13, f_110_14, f_110_15, f_110_16, p_110_16, f_110_17, f_110_18, p_110_18, f_110_19, p_110_19, f_110_20, f_110_21, p_110_21, f_110_22, p_110_22, f_110_23, f_110_24, f_110_25, p_110_25, f_110_26, f_110_27, f_110_28, f_110_29, f_110_30, f_110_31, p_110_31, f_110_32, p_110_32, f_110_33, p_110_33, f_110_34, p_110_34, f_110_35, f_110_36, f_110_37, f_110_38, e_129, i_129, e_130, i_130, Option.some.injEq, exists_eq_left', exists_eq_left, Option.toList_some, Option.toList_none, List.cons_append, List.nil_append, true_and, and_true, Option.map_some, Option.map_none, ei, hx, hy, nI_clamp (show j < 2 ^ 31 by omega), nI_1]) c 0 s (by omega) ⟨rfl, fun _ _ => rfl, fun i hi => by omega⟩
  obtain ⟨r1, r2, r3⟩ := ho1
  obtain ⟨z', ho2, k2⟩ := x_upY (C := x_ev g_M P d) (k := 337) (N := c) (β := xS) (R := fun j z' => z'.1 = s.1 ∧ (∀ q, q ≠ 129 → z'.2 q = z.2 q) ∧ ∀ i, z'.2 129 i = if 60 * t + b ≤ i ∧ i < 60 * t + b + j then f (a + (i - (60 * t + b))) else s.2 129 i) (F := fun j z' => (150, [some (.ref 110), some (.int (nI p)), some (.int (nI a)), some (.int (nI t)), some (.int (nI b)), some (.int (nI c)), some (.int (nI j))], [], mkH xs z')) (fun j z' hj ho => by
    obtain ⟨y1, y2, y3⟩ := ho
    have hc : ¬ nI c ≤ nI j := nI_ge hj (by omega)
    have ei : 60 * nI t + nI b + nI j = nI (60 * t + b + j) := by rw [show (60 : Int32) = nI 60 from rfl, pk_mul, nI_add, nI_add]
    have hx : x_rd (z'.2 129) 240 (nI (60 * t + b + j)) = some (z'.2 129 (60 * t + b + j)) := x_rd_nI (by omega) (by omega)
    have hy : x_rd (z'.2 130) 60 (nI j) = some (f (a + j)) := by rw [x_rd_nI (by omega) (by omega), y2 130 (by omega), r3 j hj]
    refine ⟨s_l z' 129 (60 * t + b + j) (f (a + j)), ⟨y1, fun q hq => ?_, fun i => ?_⟩, fun r => ?_⟩
    · rw [← y2 q hq]
      exact s_l_o.2 q hq
    · by_cases hij : i = 60 * t + b + j
      · rw [if_pos (by omega), show i - (60 * t + b) = j by omega]
        simp [s_l, hij]
      · have h3 : (60 * t + b ≤ i ∧ i < 60 * t + b + (j + 1)) ↔ (60 * t + b ≤ i ∧ i < 60 * t + b + j) := by omega
        simp only [h3, ← y3 i]
        simp [s_l, hij]
    · simp only [w_Ref_paste_0, w_Ref_paste_4, w_Ref_paste_7, w_Ref_paste_11, w_Ref_paste_14, w_Ref_paste_17, w_Ref_paste_21, w_Ref_paste_23, w_Ref_paste_27, w_Ref_paste_31, w_Ref_paste_33, w_Ref_paste_37, w_Ref_paste_40, w_Ref_paste_44, w_Ref_paste_46, w_Ref_paste_50, w_Ref_paste_52, w_Ref_paste_55, w_Ref_paste_58, w_Ref_paste_62, w_Ref_paste_67, w_Ref_paste_72, w_Ref_paste_82, w_Ref_paste_84, w_Ref_paste_89, w_Ref_paste_100, w_Ref_paste_102, w_Ref_paste_107, w_Ref_paste_110, w_Ref_paste_120, w_Ref_paste_124, w_Ref_paste_130, w_Ref_paste_140, w_Ref_paste_141, w_Ref_paste_147, w_Ref_paste_157, w_Ref_paste_161, w_Ref_paste_175, w_Ref_paste_178, w_Ref_paste_179, w_Ref_paste_185, w_Ref_paste_150 (l6 := nI j), hc, if_false, c_110, f_110_0, p_110_0, f_110_1, f_110_2, f_110_3, f_110_4, f_110_5, p_110_5, f_110_6, f_110_7, p_110_7, f_110_8, p_110_8, f_110_9, p_110_9, f_110_10, p_110_10, f_110_11, p_110_11, f_110_12, p_110_12, f_110_13, p_110_13, f_110_14, f_110_15, f_110_16, p_110_16, f_110_17, f_110_18, p_110_18, f_110_19, p_110_19, f_110_20, f_110_21, p_110_21, f_110_22, p_110_22, f_110_23, f_110_24, f_110_25, p_110_25, f_110_26, f_110_27, f_110_28, f_110_29, f_110_30, f_110_31, p_110_31, f_110_32, p_110_32, f_110_33, p_110_33, f_110_34, p_110_34, f_110_35, f_110_36, f_110_37, f_110_38, e_129, i_129, e_130, i_130, Option.some.injEq, exists_eq_left', exists_eq_left, Option.toList_some, Option.toList_none, List.cons_append, List.nil_append, true_and, and_true, Option.map_some, Option.map_none, ei, hx, hy, nI_clamp (show 60 * t + b + j < 2 ^ 31 by omega), nI_1]) c 0 z (by omega) ⟨r1, fun _ _ => rfl, fun i => by rw [if_neg (by omega), r2 129 (by omega)]⟩
  obtain ⟨y1, y2, y3⟩ := ho2
  have hz : slR z' t (some (w, m', fun k => if b ≤ k ∧ k < b + c then f (a + (k - b)) else f' k)) := by
    refine ⟨by rw [y1]; exact b1, by rw [y1]; exact b2, fun k hk => ?_⟩
    show z'.2 129 (60 * t + k) = if b ≤ k ∧ k < b + c then f (a + (k - b)) else f' k
    rw [y3]
    by_cases hr : b ≤ k ∧ k < b + c
    · rw [if_pos hr, if_pos (by omega), show 60 * t + k - (60 * t + b) = k - b by omega]
    · rw [if_neg hr, if_neg (by omega), b3 k hk]
  refine ⟨z', ?_, rW_sl hC (fun q _ _ => by rw [y1]) (fun k _ => by rw [y1]) (fun k _ => by rw [y1]) (fun k hk j hj => ?_) hz, fun q hq => ⟨by rw [y1], by rw [y2 q (by omega), r2 q (by omega)]⟩⟩
  · rw [x_ev_in rfl (Nat.le_of_ble_eq_true rfl)]
    rw [show x_ent (x_nL g_M 337) [.ref 110, .int (nI p), .int (nI a), .int (nI t), .int (nI b), .int (nI c)] = [some (.ref 110), some (.int (nI p)), some (.int (nI a)), some (.int (nI t)), some (.int (nI b)), some (.int (nI c)), none] from rfl]
    simp only [w_Ref_paste_0, w_Ref_paste_4, w_Ref_paste_7, w_Ref_paste_11, w_Ref_paste_14, w_Ref_paste_17, w_Ref_paste_21, w_Ref_paste_23, w_Ref_paste_27, w_Ref_paste_31, w_Ref_paste_33, w_Ref_paste_37, w_Ref_paste_40, w_Ref_paste_44, w_Ref_paste_46, w_Ref_paste_50, w_Ref_paste_52, w_Ref_paste_55, w_Ref_paste_58, w_Ref_paste_62, w_Ref_paste_67, w_Ref_paste_72, w_Ref_paste_82, w_Ref_paste_84, w_Ref_paste_89, w_Ref_paste_100, w_Ref_paste_102, w_Ref_paste_107, w_Ref_paste_110, w_Ref_paste_120, w_Ref_paste_124, w_Ref_paste_130, w_Ref_paste_140, w_Ref_paste_141, w_Ref_paste_147, w_Ref_paste_157, w_Ref_paste_161, w_Ref_paste_175, w_Ref_paste_178, w_Ref_paste_179, w_Ref_paste_185, Option.some.injEq, exists_eq_left', exists_eq_left, Option.toList_some, Option.toList_none, List.cons_append, List.nil_append, true_and, and_true, Option.map_some, Option.map_none, r_isSlot (d := d) (by omega), g1, g2, show ¬ ((1 : Int32) = 0) by decide, not_false_eq_true, if_true, if_false, c_110, f_110_0, p_110_0, f_110_1, f_110_2, f_110_3, f_110_4, f_110_5, p_110_5, f_110_6, f_110_7, p_110_7, f_110_8, p_110_8, f_110_9, p_110_9, f_110_10, p_110_10, f_110_11, p_110_11, f_110_12, p_110_12, f_110_13, p_110_13, f_110_14, f_110_15, f_110_16, p_110_16, f_110_17, f_110_18, p_110_18, f_110_19, p_110_19, f_110_20, f_110_21, p_110_21, f_110_22, p_110_22, f_110_23, f_110_24, f_110_25, p_110_25, f_110_26, f_110_27, f_110_28, f_110_29, f_110_30, f_110_31, p_110_31, f_110_32, p_110_32, f_110_33, p_110_33, f_110_34, p_110_34, f_110_35, f_110_36, f_110_37, f_110_38, e_127, i_127, e_128, i_128, hx7p, hx7t, hx8p, hx8t, nI_nm1 (show m < 2 ^ 31 by omega), nI_nm1 (show m' < 2 ^ 31 by omega), nI_pos (show a < 2 ^ 31 by omega), nI_pos (show b < 2 ^ 31 by omega), nI_pos (show c < 2 ^ 31 by omega), lg_cmp_gt, lg_cmp_le, v1, v2]
    refine (k1 _).mpr ?_
    simp only [w_Ref_paste_113 (l6 := nI c), w_Ref_paste_147, show nI c ≤ nI c from Int32.le_refl _, if_true]
    refine (k2 _).mpr ?_
    simp only [w_Ref_paste_150 (l6 := nI c), w_Ref_paste_185, show nI c ≤ nI c from Int32.le_refl _, if_true]
  · rw [y3, if_neg (by omega)]
set_option maxHeartbeats 8000000 in
theorem k_paste (h : wOk W) (x a y b c : Int32) : do2 P 187 337 [.int x, .int a, .int y, .int b, .int c] W := by
  rcases has_cs (n := 4) (by omega) x with h0 | ⟨p, hp, rfl, h1⟩
  · refine ask2.do h ⟨-2, cAsk0 ?_, rAsk0 ?_⟩
    · intro d xs s hd hC
      obtain ⟨d, rfl⟩ := x_1 (d := d) (by omega)
      rw [x_ev_in rfl (Nat.le_of_ble_eq_true rfl)]
      rw [show x_ent (x_nL g_M 187) [.ref 1, .int x, .int a, .int y, .int b, .int c] = [some (.ref 1), some (.int x), some (.int a), some (.int y), some (.int b), some (.int c), none, none] from rfl]
      simp only [w_Top_paste_0, w_Top_paste_4, w_Top_paste_7, w_Top_paste_11, w_Top_paste_14, w_Top_paste_17, w_Top_paste_21, w_Top_paste_23, w_Top_paste_29, w_Top_paste_31, w_Top_paste_38, w_Top_paste_41, w_Top_paste_46, w_Top_paste_49, w_Top_paste_52, w_Top_paste_57, w_Top_paste_62, w_Top_paste_65, w_Top_paste_68, w_Top_paste_76, w_Top_paste_79, w_Top_paste_88, w_Top_paste_91, w_Top_paste_94, w_Top_paste_99, w_Top_paste_105, w_Top_paste_112, Option.some.injEq, exists_eq_left', exists_eq_left, Option.toList_some, Option.toList_none, List.cons_append, List.nil_append, true_and, and_true, Option.map_some, Option.map_none, t_isSlot (d := d) (by omega), h0, if_true]
    · intro d xs s hd hC
      obtain ⟨d, rfl⟩ := x_1 (d := d) (by omega)
      rw [x_ev_in rfl (Nat.le_of_ble_eq_true rfl)]
      rw [show x_ent (x_nL g_M 337) [.ref 110, .int x, .int a, .int y, .int b, .int c] = [some (.ref 110), some (.int x), some (.int a), some (.int y), some (.int b), some (.int c), none] from rfl]
      simp only [w_Ref_paste_0, w_Ref_paste_4, w_Ref_paste_7, w_Ref_paste_11, w_Ref_paste_14, w_Ref_paste_17, w_Ref_paste_21, w_Ref_paste_23, w_Ref_paste_27, w_Ref_paste_31, w_Ref_paste_33, w_Ref_paste_37, w_Ref_paste_40, w_Ref_paste_44, w_Ref_paste_46, w_Ref_paste_50, w_Ref_paste_52, w_Ref_paste_55, w_Ref_paste_58, w_Ref_paste_62, w_Ref_paste_67, w_Ref_paste_72, w_Ref_paste_82, w_Ref_paste_84, w_Ref_paste_89, w_Ref_paste_100, w_Ref_paste_102, w_Ref_paste_107, w_Ref_paste_110, w_Ref_paste_120, w_Ref_paste_124, w_Ref_paste_130, w_Ref_paste_140, w_Ref_paste_141, w_Ref_paste_147, w_Ref_paste_157, w_Ref_paste_161, w_Ref_paste_175, w_Ref_paste_178, w_Ref_paste_179, w_Ref_paste_185, Option.some.injEq, exists_eq_left', exists_eq_left, Option.toList_some, Option.toList_none, List.cons_append, List.nil_append, true_and, and_true, Option.map_some, Option.map_none, r_isSlot (d := d) (by omega), h0, if_true]
  rcases has_cs (n := 4) (by omega) y with h0 | ⟨t, ht, rfl, h2⟩
  · refine ask2.do h ⟨-2, cAsk0 ?_, rAsk0 ?_⟩
    · intro d xs s hd hC
      obtain ⟨d, rfl⟩ := x_1 (d := d) (by omega)
      rw [x_ev_in rfl (Nat.le_of_ble_eq_true rfl)]
      rw [show x_ent (x_nL g_M 187) [.ref 1, .int (nI p), .int a, .int y, .int b, .int c] = [some (.ref 1), some (.int (nI p)), some (.int a), some (.int y), some (.int b), some (.int c), none, none] from rfl]
      simp only [w_Top_paste_0, w_Top_paste_4, w_Top_paste_7, w_Top_paste_11, w_Top_paste_14, w_Top_paste_17, w_Top_paste_21, w_Top_paste_23, w_Top_paste_29, w_Top_paste_31, w_Top_paste_38, w_Top_paste_41, w_Top_paste_46, w_Top_paste_49, w_Top_paste_52, w_Top_paste_57, w_Top_paste_62, w_Top_paste_65, w_Top_paste_68, w_Top_paste_76, w_Top_paste_79, w_Top_paste_88, w_Top_paste_91, w_Top_paste_94, w_Top_paste_99, w_Top_paste_105, w_Top_paste_112, Option.some.injEq, exists_eq_left', exists_eq_left, Option.toList_some, Option.toList_none, List.cons_append, List.nil_append, true_and, and_true, Option.map_some, Option.map_none, t_isSlot (d := d) (by omega), h0, h1, show ¬ ((1 : Int32) = 0) by decide, not_true_eq_false, if_false]
    · intro d xs s hd hC
      obtain ⟨d, rfl⟩ := x_1 (d := d) (by omega)
      rw [x_ev_in rfl (Nat.le_of_ble_eq_true rfl)]
      rw [show x_ent (x_nL g_M 337) [.ref 110, .int (nI p), .int a, .int y, .int b, .int c] = [some (.ref 110), some (.int (nI p)), some (.int a), some (.int y), some (.int b), some (.int c), none] from rfl]
      simp only [w_Ref_paste_0, w_Ref_paste_4, w_Ref_paste_7, w_Ref_paste_11, w_Ref_paste_14, w_Ref_paste_17, w_Ref_paste_21, w_Ref_paste_23, w_Ref_paste_27, w_Ref_paste_31, w_Ref_paste_33, w_Ref_paste_37, w_Ref_paste_40, w_Ref_paste_44, w_Ref_paste_46, w_Ref_paste_50, w_Ref_paste_52, w_Ref_paste_55, w_Ref_paste_58, w_Ref_paste_62, w_Ref_paste_67, w_Ref_paste_72, w_Ref_paste_82, w_Ref_paste_84, w_Ref_paste_89, w_Ref_paste_100, w_Ref_paste_102, w_Ref_paste_107, w_Ref_paste_110, w_Ref_paste_120, w_Ref_paste_124, w_Ref_paste_130, w_Ref_paste_140, w_Ref_paste_141, w_Ref_paste_147, w_Ref_paste_157, w_Ref_paste_161, w_Ref_paste_175, w_Ref_paste_178, w_Ref_paste_179, w_Ref_paste_185, Option.some.injEq, exists_eq_left', exists_eq_left, Option.toList_some, Option.toList_none, List.cons_append, List.nil_append, true_and, and_true, Option.map_some, Option.map_none, r_isSlot (d := d) (by omega), h0, h1, show ¬ ((1 : Int32) = 0) by decide, not_true_eq_false, if_false]
  have hsp := h.2.2.2.2.2.1 p hp
  have hst := h.2.2.2.2.2.1 t ht
  by_cases hb : (wSl W p).isSome = true ∧ (wSl W t).isSome = true
  · obtain ⟨⟨w, m, f⟩, ho⟩ := Option.isSome_iff_exists.mp hb.1
    obtain ⟨⟨w', m', f'⟩, ho'⟩ := Option.isSome_iff_exists.mp hb.2
    rw [ho] at hsp
    rw [ho'] at hst
    obtain ⟨hw, hm⟩ : w < 4 ∧ m ≤ 60 := hsp _ rfl
    obtain ⟨hw', hm'⟩ : w' < 4 ∧ m' ≤ 60 := hst _ rfl
    have hCp : ∀ s : xS, cW s W → (s.1 (77 + 2 * p) 0 = 1 ∧ s.1 (77 + 2 * p) 1 = nI w ∧ s.1 (77 + 2 * p) 2 = nI m) ∧ (s.1 (77 + 2 * t) 0 = 1 ∧ s.1 (77 + 2 * t) 1 = nI w' ∧ s.1 (77 + 2 * t) 2 = nI m') := by
      intro s hC
      obtain ⟨-, -, e, -⟩ := hC
      have e1 := e p hp
      have e2 := e t ht
      rw [ho] at e1
      rw [ho'] at e2
      exact ⟨⟨e1.1, e1.2.1, e1.2.2.1⟩, ⟨e2.1, e2.2.1, e2.2.2.1⟩⟩
    have hRp : ∀ s : xS, rW s W → (x_rd (s.1 127) 4 (nI p) = some (nI m) ∧ x_rd (s.1 128) 4 (nI p) = some (nI w)) ∧ (x_rd (s.1 127) 4 (nI t) = some (nI m') ∧ x_rd (s.1 128) 4 (nI t) = some (nI w')) := by
      intro s hC
      obtain ⟨-, -, e, -⟩ := hC
      have e1 := e p hp
      have e2 := e t ht
      rw [ho] at e1
      rw [ho'] at e2
      exact ⟨⟨by rw [x_rd_nI hp (by omega), e1.1], by rw [x_rd_nI hp (by omega), e1.2.1]⟩, ⟨by rw [x_rd_nI ht (by omega), e2.1], by rw [x_rd_nI ht (by omega), e2.2.1]⟩⟩
    by_cases hww : w = w'
    · subst hww
      have hbad : (spV m a c = 0 ∨ spV m' b c = 0) → (a < 0 ∨ b < 0 ∨ c < 0 ∨ (nI m).toInt64 < a.toInt64 + c.toInt64 ∨ ¬ b.toInt64 + c.toInt64 ≤ (nI m').toInt64) → ask2 P 187 337 [.int (nI p), .int a, .int (nI t), .int b, .int c] W := by
        intro hv hr
        refine ⟨-7, cAsk0 ?_, rAsk0 ?_⟩
        · intro d xs s hd hC
          obtain ⟨⟨a1, a2, a3⟩, b1, b2, b3⟩ := hCp s hC
          obtain ⟨d, rfl⟩ := x_1 (d := d) (by omega)
          rw [x_ev_in rfl (Nat.le_of_ble_eq_true rfl)]
          rw [show x_ent (x_nL g_M 187) [.ref 1, .int (nI p), .int a, .int (nI t), .int b, .int c] = [some (.ref 1), some (.int (nI p)), some (.int a), some (.int (nI t)), some (.int b), some (.int c), none, none] from rfl]
          simp only [w_Top_paste_0, w_Top_paste_4, w_Top_paste_7, w_Top_paste_11, w_Top_paste_14, w_Top_paste_17, w_Top_paste_21, w_Top_paste_23, w_Top_paste_29, w_Top_paste_31, w_Top_paste_38, w_Top_paste_41, w_Top_paste_46, w_Top_paste_49, w_Top_paste_52, w_Top_paste_57, w_Top_paste_62, w_Top_paste_65, w_Top_paste_68, w_Top_paste_76, w_Top_paste_79, w_Top_paste_88, w_Top_paste_91, w_Top_paste_94, w_Top_paste_99, w_Top_paste_105, w_Top_paste_112, Option.some.injEq, exists_eq_left', exists_eq_left, Option.toList_some, Option.toList_none, List.cons_append, List.nil_append, true_and, and_true, Option.map_some, Option.map_none, t_isSlot (d := d) (by omega), h1, h2, show ¬ ((1 : Int32) = 0) by decide, not_false_eq_true, if_true, if_false, c_1, f_1_0, f_1_1, p_1_1, f_1_2, f_1_3, f_1_4, f_1_5, f_1_6, p_1_6, f_1_7, f_1_8, f_1_9, f_1_10, f_1_11, f_1_12, f_1_13, f_1_14, e_76, sl_q hp, sl_q ht, sl_0 hp, sl_0 ht, sl_1 hp, sl_1 ht, sl_c hp, sl_c ht, a1, a2, b1, b2, t_spans (d := d) (by omega) hp a3, t_spans (d := d) (by omega) ht b3]
          rcases hv with hv | hv
          · simp only [hv, if_true]
          · simp only [hv, not_true_eq_false, if_false, ite_self]
        · intro d xs s hd hC
          obtain ⟨⟨a1, a2⟩, b1, b2⟩ := hRp s hC
          obtain ⟨d, rfl⟩ := x_1 (d := d) (by omega)
          rw [x_ev_in rfl (Nat.le_of_ble_eq_true rfl)]
          rw [show x_ent (x_nL g_M 337) [.ref 110, .int (nI p), .int a, .int (nI t), .int b, .int c] = [some (.ref 110), some (.int (nI p)), some (.int a), some (.int (nI t)), some (.int b), some (.int c), none] from rfl]
          simp only [w_Ref_paste_0, w_Ref_paste_4, w_Ref_paste_7, w_Ref_paste_11, w_Ref_paste_14, w_Ref_paste_17, w_Ref_paste_21, w_Ref_paste_23, w_Ref_paste_27, w_Ref_paste_31, w_Ref_paste_33, w_Ref_paste_37, w_Ref_paste_40, w_Ref_paste_44, w_Ref_paste_46, w_Ref_paste_50, w_Ref_paste_52, w_Ref_paste_55, w_Ref_paste_58, w_Ref_paste_62, w_Ref_paste_67, w_Ref_paste_72, w_Ref_paste_82, w_Ref_paste_84, w_Ref_paste_89, w_Ref_paste_100, w_Ref_paste_102, w_Ref_paste_107, w_Ref_paste_120, w_Ref_paste_124, w_Ref_paste_130, w_Ref_paste_140, w_Ref_paste_141, w_Ref_paste_157, w_Ref_paste_161, w_Ref_paste_175, w_Ref_paste_178, w_Ref_paste_179, w_Ref_paste_185, Option.some.injEq, exists_eq_left', exists_eq_left, Option.toList_some, Option.toList_none, List.cons_append, List.nil_append, true_and, and_true, Option.map_some, Option.map_none, r_isSlot (d := d) (by omega), h1, h2, show ¬ ((1 : Int32) = 0) by decide, not_false_eq_true, if_true, if_false, c_110, f_110_0, p_110_0, f_110_1, f_110_2, f_110_3, f_110_4, f_110_5, p_110_5, f_110_6, f_110_7, p_110_7, f_110_8, p_110_8, f_110_9, p_110_9, f_110_10, p_110_10, f_110_11, p_110_11, f_110_12, p_110_12, f_110_13, p_110_13, f_110_14, f_110_15, f_110_16, p_110_16, f_110_17, f_110_18, p_110_18, f_110_19, p_110_19, f_110_20, f_110_21, p_110_21, f_110_22, p_110_22, f_110_23, f_110_24, f_110_25, p_110_25, f_110_26, f_110_27, f_110_28, f_110_29, f_110_30, f_110_31, p_110_31, f_110_32, p_110_32, f_110_33, p_110_33, f_110_34, p_110_34, f_110_35, f_110_36, f_110_37, f_110_38, e_127, i_127, e_128, i_128, a1, a2, b1, b2, nI_nm1 (show m < 2 ^ 31 by omega), nI_nm1 (show m' < 2 ^ 31 by omega), lg_cmp_gt, lg_cmp_le]
          rcases hr with hr | hr | hr | hr | hr
          · simp only [hr, if_true]
          · simp only [hr, if_true, ite_self]
          · simp only [hr, if_true, ite_self]
          · simp only [hr, if_true, ite_self]
          · simp only [hr, if_false, ite_self]
      rcases spV_cs hm a c with ⟨v0, hr⟩ | ⟨a', c', rfl, rfl, hac, v1, u1, -⟩
      · refine ask2.do h (hbad (Or.inl v0) ?_)
        rcases hr with hr | hr | ⟨-, -, hr⟩
        · exact Or.inl hr
        · exact Or.inr (Or.inr (Or.inl hr))
        · exact Or.inr (Or.inr (Or.inr (Or.inl hr)))
      · rcases spV_cs hm' b (nI c') with ⟨v0, hr⟩ | ⟨b', c'', rfl, hcc, hbc, v2, -, u2⟩
        · refine ask2.do h (hbad (Or.inr v0) ?_)
          rcases hr with hr | hr | ⟨-, -, hr⟩
          · exact Or.inr (Or.inl hr)
          · exact Or.inr (Or.inr (Or.inl hr))
          · exact Or.inr (Or.inr (Or.inr (Or.inr (Int64.not_le.mpr hr))))
        · rw [← hcc] at v2 u2
          have hcc' : b' + c' ≤ m' := by
            have : c' = c'' ∨ 2 ^ 31 ≤ c' := by
              by_cases hz : c' < 2 ^ 31
              · exact Or.inl ((nI_eq hz (by omega)).mp hcc)
              · exact Or.inr (by omega)
            omega
          exact ⟨_, 0, wOk_sl h (fun z hz => by cases hz; exact ⟨hw, hm'⟩), c_paste h hp ht ho ho' hw hm hm' hac hcc' v1 v2 h1 h2, r_paste h hp ht ho ho' hw hm hm' hac hcc' u1 u2 h1 h2⟩
    · have hwn : ¬ nI w = nI w' := fun z => hww ((nI_eq (by omega) (by omega)).mp z)
      refine ask2.do h ⟨-8, cAsk0 ?_, rAsk0 ?_⟩
      · intro d xs s hd hC
        obtain ⟨⟨a1, a2, a3⟩, b1, b2, b3⟩ := hCp s hC
        obtain ⟨d, rfl⟩ := x_1 (d := d) (by omega)
        rw [x_ev_in rfl (Nat.le_of_ble_eq_true rfl)]
        rw [show x_ent (x_nL g_M 187) [.ref 1, .int (nI p), .int a, .int (nI t), .int b, .int c] = [some (.ref 1), some (.int (nI p)), some (.int a), some (.int (nI t)), some (.int b), some (.int c), none, none] from rfl]
        simp only [w_Top_paste_0, w_Top_paste_4, w_Top_paste_7, w_Top_paste_11, w_Top_paste_14, w_Top_paste_17, w_Top_paste_21, w_Top_paste_23, w_Top_paste_29, w_Top_paste_31, w_Top_paste_38, w_Top_paste_41, w_Top_paste_46, w_Top_paste_49, w_Top_paste_52, w_Top_paste_57, w_Top_paste_62, w_Top_paste_65, w_Top_paste_68, w_Top_paste_76, w_Top_paste_79, w_Top_paste_88, w_Top_paste_91, w_Top_paste_94, w_Top_paste_99, w_Top_paste_105, w_Top_paste_112, Option.some.injEq, exists_eq_left', exists_eq_left, Option.toList_some, Option.toList_none, List.cons_append, List.nil_append, true_and, and_true, Option.map_some, Option.map_none, t_isSlot (d := d) (by omega), h1, h2, show ¬ ((1 : Int32) = 0) by decide, not_false_eq_true, if_true, if_false, c_1, f_1_0, f_1_1, p_1_1, f_1_2, f_1_3, f_1_4, f_1_5, f_1_6, p_1_6, f_1_7, f_1_8, f_1_9, f_1_10, f_1_11, f_1_12, f_1_13, f_1_14, e_76, sl_q hp, sl_q ht, sl_0 hp, sl_0 ht, sl_1 hp, sl_1 ht, a1, a2, b1, b2, hwn]
      · intro d xs s hd hC
        obtain ⟨⟨a1, a2⟩, b1, b2⟩ := hRp s hC
        obtain ⟨d, rfl⟩ := x_1 (d := d) (by omega)
        rw [x_ev_in rfl (Nat.le_of_ble_eq_true rfl)]
        rw [show x_ent (x_nL g_M 337) [.ref 110, .int (nI p), .int a, .int (nI t), .int b, .int c] = [some (.ref 110), some (.int (nI p)), some (.int a), some (.int (nI t)), some (.int b), some (.int c), none] from rfl]
        simp only [w_Ref_paste_0, w_Ref_paste_4, w_Ref_paste_7, w_Ref_paste_11, w_Ref_paste_14, w_Ref_paste_17, w_Ref_paste_21, w_Ref_paste_23, w_Ref_paste_27, w_Ref_paste_31, w_Ref_paste_33, w_Ref_paste_37, w_Ref_paste_40, w_Ref_paste_44, w_Ref_paste_46, w_Ref_paste_50, w_Ref_paste_52, w_Ref_paste_55, w_Ref_paste_58, w_Ref_paste_62, w_Ref_paste_67, w_Ref_paste_72, w_Ref_paste_82, w_Ref_paste_84, w_Ref_paste_89, w_Ref_paste_100, w_Ref_paste_102, w_Ref_paste_107, w_Ref_paste_120, w_Ref_paste_124, w_Ref_paste_130, w_Ref_paste_140, w_Ref_paste_141, w_Ref_paste_157, w_Ref_paste_161, w_Ref_paste_175, w_Ref_paste_178, w_Ref_paste_179, w_Ref_paste_185, Option.some.injEq, exists_eq_left', exists_eq_left, Option.toList_some, Option.toList_none, List.cons_append, List.nil_append, true_and, and_true, Option.map_some, Option.map_none, r_isSlot (d := d) (by omega), h1, h2, show ¬ ((1 : Int32) = 0) by decide, not_false_eq_true, if_true, if_false, c_110, f_110_0, p_110_0, f_110_1, f_110_2, f_110_3, f_110_4, f_110_5, p_110_5, f_110_6, f_110_7, p_110_7, f_110_8, p_110_8, f_110_9, p_110_9, f_110_10, p_110_10, f_110_11, p_110_11, f_110_12, p_110_12, f_110_13, p_110_13, f_110_14, f_110_15, f_110_16, p_110_16, f_110_17, f_110_18, p_110_18, f_110_19, p_110_19, f_110_20, f_110_21, p_110_21, f_110_22, p_110_22, f_110_23, f_110_24, f_110_25, p_110_25, f_110_26, f_110_27, f_110_28, f_110_29, f_110_30, f_110_31, p_110_31, f_110_32, p_110_32, f_110_33, p_110_33, f_110_34, p_110_34, f_110_35, f_110_36, f_110_37, f_110_38, e_127, i_127, e_128, i_128, a1, a2, b1, b2, nI_nm1 (show m < 2 ^ 31 by omega), nI_nm1 (show m' < 2 ^ 31 by omega), hwn]
  · refine ask2.do h ⟨-6, cAsk0 ?_, rAsk0 ?_⟩
    · intro d xs s hd hC
      obtain ⟨-, -, e, -⟩ := hC
      have a1 := slC_h (e p hp)
      have b1 := slC_h (e t ht)
      obtain ⟨d, rfl⟩ := x_1 (d := d) (by omega)
      rw [x_ev_in rfl (Nat.le_of_ble_eq_true rfl)]
      rw [show x_ent (x_nL g_M 187) [.ref 1, .int (nI p), .int a, .int (nI t), .int b, .int c] = [some (.ref 1), some (.int (nI p)), some (.int a), some (.int (nI t)), some (.int b), some (.int c), none, none] from rfl]
      simp only [w_Top_paste_0, w_Top_paste_4, w_Top_paste_7, w_Top_paste_11, w_Top_paste_14, w_Top_paste_17, w_Top_paste_21, w_Top_paste_23, w_Top_paste_29, w_Top_paste_31, w_Top_paste_38, w_Top_paste_41, w_Top_paste_46, w_Top_paste_49, w_Top_paste_57, w_Top_paste_62, w_Top_paste_65, w_Top_paste_68, w_Top_paste_76, w_Top_paste_79, w_Top_paste_88, w_Top_paste_91, w_Top_paste_94, w_Top_paste_99, w_Top_paste_105, w_Top_paste_112, Option.some.injEq, exists_eq_left', exists_eq_left, Option.toList_some, Option.toList_none, List.cons_append, List.nil_append, true_and, and_true, Option.map_some, Option.map_none, t_isSlot (d := d) (by omega), h1, h2, show ¬ ((1 : Int32) = 0) by decide, not_false_eq_true, if_true, if_false, c_1, f_1_0, f_1_1, p_1_1, f_1_2, f_1_3, f_1_4, f_1_5, f_1_6, p_1_6, f_1_7, f_1_8, f_1_9, f_1_10, f_1_11, f_1_12, f_1_13, f_1_14, e_76, sl_q hp, sl_q ht, sl_0 hp, sl_0 ht, a1, b1]
      by_cases z1 : (wSl W p).isSome = true
      · have z2 : ¬ (wSl W t).isSome = true := fun z => hb ⟨z1, z⟩
        simp only [slH, z1, z2, show ¬ ((1 : Int32) = 0) by decide, Bool.false_eq_true, if_true, if_false, not_true_eq_false]
      · simp only [slH, z1, Bool.false_eq_true, if_true, if_false]
    · intro d xs s hd hC
      obtain ⟨-, -, e, -⟩ := hC
      have a1 := slR_h (e p hp) hsp
      have b1 := slR_h (e t ht) hst
      have hx7p : x_rd (s.1 127) 4 (nI p) = some (s.1 127 p) := x_rd_nI hp (by omega)
      have hx7t : x_rd (s.1 127) 4 (nI t) = some (s.1 127 t) := x_rd_nI ht (by omega)
      obtain ⟨d, rfl⟩ := x_1 (d := d) (by omega)
      rw [x_ev_in rfl (Nat.le_of_ble_eq_true rfl)]
      rw [show x_ent (x_nL g_M 337) [.ref 110, .int (nI p), .int a, .int (nI t), .int b, .int c] = [some (.ref 110), some (.int (nI p)), some (.int a), some (.int (nI t)), some (.int b), some (.int c), none] from rfl]
      simp only [w_Ref_paste_0, w_Ref_paste_4, w_Ref_paste_7, w_Ref_paste_11, w_Ref_paste_14, w_Ref_paste_17, w_Ref_paste_21, w_Ref_paste_23, w_Ref_paste_27, w_Ref_paste_31, w_Ref_paste_33, w_Ref_paste_37, w_Ref_paste_44, w_Ref_paste_46, w_Ref_paste_50, w_Ref_paste_52, w_Ref_paste_55, w_Ref_paste_58, w_Ref_paste_62, w_Ref_paste_67, w_Ref_paste_72, w_Ref_paste_82, w_Ref_paste_84, w_Ref_paste_89, w_Ref_paste_100, w_Ref_paste_102, w_Ref_paste_107, w_Ref_paste_110, w_Ref_paste_120, w_Ref_paste_124, w_Ref_paste_130, w_Ref_paste_140, w_Ref_paste_141, w_Ref_paste_147, w_Ref_paste_157, w_Ref_paste_161, w_Ref_paste_175, w_Ref_paste_178, w_Ref_paste_179, w_Ref_paste_185, Option.some.injEq, exists_eq_left', exists_eq_left, Option.toList_some, Option.toList_none, List.cons_append, List.nil_append, true_and, and_true, Option.map_some, Option.map_none, r_isSlot (d := d) (by omega), h1, h2, show ¬ ((1 : Int32) = 0) by decide, not_false_eq_true, if_true, if_false, c_110, f_110_0, p_110_0, f_110_1, f_110_2, f_110_3, f_110_4, f_110_5, p_110_5, f_110_6, f_110_7, p_110_7, f_110_8, p_110_8, f_110_9, p_110_9, f_110_10, p_110_10, f_110_11, p_110_11, f_110_12, p_110_12, f_110_13, p_110_13, f_110_14, f_110_15, f_110_16, p_110_16, f_110_17, f_110_18, p_110_18, f_110_19, p_110_19, f_110_20, f_110_21, p_110_21, f_110_22, p_110_22, f_110_23, f_110_24, f_110_25, p_110_25, f_110_26, f_110_27, f_110_28, f_110_29, f_110_30, f_110_31, p_110_31, f_110_32, p_110_32, f_110_33, p_110_33, f_110_34, p_110_34, f_110_35, f_110_36, f_110_37, f_110_38, e_127, i_127, hx7p, hx7t, a1, b1]
      by_cases z1 : (wSl W p).isSome = true
      · have z2 : ¬ (wSl W t).isSome = true := fun z => hb ⟨z1, z⟩
        simp only [z1, z2, Bool.false_eq_true, not_true_eq_false, not_false_eq_true, if_true, if_false]
      · simp only [z1, Bool.false_eq_true, not_false_eq_true, if_true]
end PASTE3
