/-! count, row, write, paste (own work) -/
theorem bv_cut (x : BitVec 64) {n : Nat} (h0 : 0 < n) (hn : n ≤ 64) {i : Nat} (hi : i < 64) : ((x <<< (64 - n)).sshiftRight (64 - n)).getLsbD i = if i < n then x.getLsbD i else x.getLsbD (n - 1) := by
  rw [BitVec.getLsbD_sshiftRight, BitVec.msb_eq_getLsbD_last]
  have h64 : ¬ 64 ≤ i := by omega
  by_cases h1 : i < n
  · rw [if_pos (by omega), if_pos h1, BitVec.getLsbD_shiftLeft]
    have e1 : 64 - n + i < 64 := by omega
    have e2 : ¬ 64 - n + i < 64 - n := by omega
    have e3 : 64 - n + i - (64 - n) = i := by omega
    simp [h64, e1, e2, e3]
  · rw [if_neg (by omega), if_neg h1, BitVec.getLsbD_shiftLeft]
    have e2 : ¬ 63 < 64 - n := by omega
    have e3 : 63 - (64 - n) = n - 1 := by omega
    simp [h64, e2, e3]
theorem cut_sh (v : Int64) {n : Nat} (a : Int64) (ha : (a.toBitVec.smod 64).toNat = 64 - n) : ((v <<< a) >>> a).toBitVec = (v.toBitVec <<< (64 - n)).sshiftRight (64 - n) := by
  rw [Int64.toBitVec_shiftRight, Int64.toBitVec_shiftLeft]
  show (v.toBitVec <<< (a.toBitVec.smod 64).toNat).sshiftRight (a.toBitVec.smod 64).toNat = _
  rw [ha]
theorem cut_8 (v : Int64) (a : Int64) (ha : (a.toBitVec.smod 64).toNat = 64 - 8) : (v <<< a) >>> a = Int32.toInt64 (Int32.toInt8 (Int64.toInt32 v)).toInt32 := by
  apply Int64.toBitVec_inj.mp
  rw [cut_sh v a ha]
  apply BitVec.eq_of_getLsbD_eq
  intro i hi
  rw [bv_cut _ (by omega) (by omega) hi]
  simp only [Int32.toBitVec_toInt64, Int8.toBitVec_toInt32, Int32.toBitVec_toInt8, Int64.toBitVec_toInt32, BitVec.getLsbD_signExtend, BitVec.msb_eq_getLsbD_last]
  by_cases h1 : i < 8
  · have h2 : i < 32 := by omega
    simp [h1, h2, hi]
  · by_cases h2 : i < 32 <;> simp [h1, h2, hi]
theorem cut_16 (v : Int64) (a : Int64) (ha : (a.toBitVec.smod 64).toNat = 64 - 16) : (v <<< a) >>> a = Int32.toInt64 (Int32.toInt16 (Int64.toInt32 v)).toInt32 := by
  apply Int64.toBitVec_inj.mp
  rw [cut_sh v a ha]
  apply BitVec.eq_of_getLsbD_eq
  intro i hi
  rw [bv_cut _ (by omega) (by omega) hi]
  simp only [Int32.toBitVec_toInt64, Int16.toBitVec_toInt32, Int32.toBitVec_toInt16, Int64.toBitVec_toInt32, BitVec.getLsbD_signExtend, BitVec.msb_eq_getLsbD_last]
  by_cases h1 : i < 16
  · have h2 : i < 32 := by omega
    simp [h1, h2, hi]
  · by_cases h2 : i < 32 <;> simp [h1, h2, hi]
theorem cut_32 (v : Int64) (a : Int64) (ha : (a.toBitVec.smod 64).toNat = 64 - 32) : (v <<< a) >>> a = Int32.toInt64 (Int64.toInt32 v) := by
  apply Int64.toBitVec_inj.mp
  rw [cut_sh v a ha]
  apply BitVec.eq_of_getLsbD_eq
  intro i hi
  rw [bv_cut _ (by omega) (by omega) hi]
  simp only [Int32.toBitVec_toInt64, Int64.toBitVec_toInt32, BitVec.getLsbD_signExtend, BitVec.msb_eq_getLsbD_last]
  by_cases h1 : i < 32
  · simp [h1, hi]
  · simp [h1, hi]
theorem cut_64 (v : Int64) (a : Int64) (ha : (a.toBitVec.smod 64).toNat = 64 - 64) : (v <<< a) >>> a = v := by
  apply Int64.toBitVec_inj.mp
  rw [cut_sh v a ha]
  apply BitVec.eq_of_getLsbD_eq
  intro i hi
  rw [bv_cut _ (by omega) (by omega) hi, if_pos hi]
/-- a number, cut to a WIDTH -/
def cutV (w : Nat) (v : Int64) : Int64 := match w with
  | 0 => Int32.toInt64 (Int32.toInt8 (Int64.toInt32 v)).toInt32
  | 1 => Int32.toInt64 (Int32.toInt16 (Int64.toInt32 v)).toInt32
  | 2 => Int32.toInt64 (Int64.toInt32 v)
  | _ => v
section ROWS
variable {P : Nat → List Value → Option Value} {d : Nat} {xs : List Int32} {s : xS} {q : Option Value × xH}
theorem t_cut (hd : 1 ≤ d) {i w : Nat} (hi : i < 4) (hw : w < 4) (h1 : s.1 (77 + 2 * i) 1 = nI w) (v : Int64) : x_ev g_M P d 64 [.ref (77 + 2 * i), .long v] (mkH xs s) q ↔ q = (some (.long (cutV w v)), mkH xs s) := by
  obtain ⟨d, rfl⟩ := x_1 (d := d) (by omega)
  rw [x_ev_in rfl (Nat.le_of_ble_eq_true rfl)]
  rw [show x_ent (x_nL g_M 64) [.ref (77 + 2 * i), .long v] = [some (.ref (77 + 2 * i)), some (.long v), none] from rfl]
  simp only [w_Slot_cut_0, w_Slot_cut_4, sl_1 hi, Option.some.injEq, exists_eq_left', exists_eq_left, Option.toList_some, Option.toList_none, List.cons_append, List.nil_append, true_and, and_true, Option.map_some, Option.map_none, h1]
  rcases i4 hw with rfl | rfl | rfl | rfl
  · simp only [show x_sw (nI 0) 0 [32, 37, 42] 46 = 32 by decide, w_Slot_cut_32, w_Slot_cut_37, w_Slot_cut_42, w_Slot_cut_46, cutV]
    exact eq_comm
  · simp only [show x_sw (nI 1) 0 [32, 37, 42] 46 = 37 by decide, w_Slot_cut_32, w_Slot_cut_37, w_Slot_cut_42, w_Slot_cut_46, cutV]
    exact eq_comm
  · simp only [show x_sw (nI 2) 0 [32, 37, 42] 46 = 42 by decide, w_Slot_cut_32, w_Slot_cut_37, w_Slot_cut_42, w_Slot_cut_46, cutV]
    exact eq_comm
  · simp only [show x_sw (nI 3) 0 [32, 37, 42] 46 = 46 by decide, w_Slot_cut_32, w_Slot_cut_37, w_Slot_cut_42, w_Slot_cut_46, cutV]
    exact eq_comm
theorem r_cut64 (hd : 1 ≤ d) {w : Nat} (hw : w < 4) (v : Int64) : x_ev g_M P d 334 [.long v, .int (nI w)] (mkH xs s) q ↔ q = (some (.long (cutV w v)), mkH xs s) := by
  obtain ⟨d, rfl⟩ := x_1 (d := d) (by omega)
  rw [x_ev_in rfl (Nat.le_of_ble_eq_true rfl)]
  rw [show x_ent (x_nL g_M 334) [.long v, .int (nI w)] = [some (.long v), none, some (.int (nI w)), none] from rfl]
  simp only [w_Ref_cut_0]
  rcases i4 hw with rfl | rfl | rfl | rfl
  · rw [cut_8 v _ (by decide)]
    exact eq_comm
  · rw [cut_16 v _ (by decide)]
    exact eq_comm
  · rw [cut_32 v _ (by decide)]
    exact eq_comm
  · rw [cut_64 v _ (by decide)]
    exact eq_comm
theorem t_isSlot (hd : 1 ≤ d) (x : Int32) : x_ev g_M P d 171 [.int x] (mkH xs s) q ↔ q = (some (.int (if x < 0 then 0 else if nI 4 ≤ x then 0 else 1)), mkH xs s) := by
  obtain ⟨d, rfl⟩ := x_1 (d := d) (by omega)
  rw [x_ev_in rfl (Nat.le_of_ble_eq_true rfl)]
  rw [show x_ent (x_nL g_M 171) [.int x] = [some (.int x)] from rfl]
  simp only [w_Top_isSlot_0, w_Top_isSlot_4, w_Top_isSlot_9, w_Top_isSlot_13, w_Top_isSlot_14, x_nb0, x_nb1, Option.some.injEq, exists_eq_left', exists_eq_left, Option.toList_some, Option.toList_none, List.cons_append, List.nil_append, true_and, and_true, Option.map_some, Option.map_none, x_if2]
  exact eq_comm
theorem lt3 (x : Int32) : (3 : Int64) < x.toInt64 ↔ nI 4 ≤ x := by
  have h := nI_pr (n := 4) (by omega) x
  rw [show nI 4 - 1 = 3 by decide] at h
  exact (w_lt 3 x).trans h
theorem r_isSlot (hd : 2 ≤ d) (x : Int32) : x_ev g_M P d 333 [.int x] (mkH xs s) q ↔ q = (some (.int (if x < 0 then 0 else if nI 4 ≤ x then 0 else 1)), mkH xs s) := by
  have e0 : x.toInt64 < 0 ↔ x < 0 := w_lt x 0
  obtain ⟨d, rfl⟩ := x_1 (d := d) (by omega)
  rw [x_ev_in rfl (Nat.le_of_ble_eq_true rfl)]
  rw [show x_ent (x_nL g_M 333) [.int x] = [some (.int x)] from rfl]
  simp only [w_Ref_isSlot_0, w_Ref_isSlot_9, Option.some.injEq, exists_eq_left', exists_eq_left, Option.toList_some, Option.toList_none, List.cons_append, List.nil_append, true_and, and_true, Option.map_some, Option.map_none, r_in (d := d) (by omega), e0, lt3]
  by_cases h1 : x < 0 <;> by_cases h2 : nI 4 ≤ x <;> simp [h1, h2, x_nb0, x_nb1, eq_comm (a := q)]
/-- Arrays.fill of longs -/
theorem x_fillL (hd : 1 ≤ d) {a n : Nat} (ha : a < 131) (h0 : a ≠ 0) (hn : n < 2 ^ 31) (hc : ∀ s : xS, g_cell a s = xL ((List.range n).map (s.2 a))) (v : Int64) : ∃ s', x_ev g_M P d 342 [.ref a, .long v] (mkH xs s) (none, mkH xs s') ∧ s'.1 = s.1 ∧ (∀ q, q ≠ a → s'.2 q = s.2 q) ∧ ∀ j, j < n → s'.2 a j = v := by
  obtain ⟨d, rfl⟩ := x_1 (d := d) (by omega)
  have hl : x_len (mkH xs s) a = some n := by
    unfold x_len
    rw [mk_get ha h0, hc]
    simp
  obtain ⟨s', ho, e⟩ := x_upY (C := x_ev g_M P d) (k := 342) (N := n) (β := xS) (R := fun m z => z.1 = s.1 ∧ (∀ q, q ≠ a → z.2 q = s.2 q) ∧ ∀ j, j < m → z.2 a j = v) (F := fun m z => (6, [some (.ref a), some (.long v), none, some (.int (nI m)), some (.int (nI n))], [], mkH xs z)) (fun m z hm ho => by
    obtain ⟨r1, r2, r3⟩ := ho
    have hcc : ¬ nI n ≤ nI m := nI_ge hm hn
    have hx : x_rd (z.2 a) n (nI m) = some (z.2 a m) := x_rd_nI hm hn
    refine ⟨s_l z a m v, ⟨r1, fun q hq => ?_, fun j hj => ?_⟩, fun r => ?_⟩
    · rw [← r2 q hq]
      funext k
      simp [s_l, hq]
    · by_cases hj2 : j = m
      · simp [s_l, hj2]
      · rw [← r3 j (by omega)]
        simp [s_l, hj2]
    · simp only [w_Arrays_fill_d0a16_0, w_Arrays_fill_d0a16_4, w_Arrays_fill_d0a16_12, w_Arrays_fill_d0a16_16, w_Arrays_fill_d0a16_22, w_Arrays_fill_d0a16_6 (l3 := nI m), hcc, if_false, mk_lp ha h0 hc, hx, Option.some.injEq, exists_eq_left', exists_eq_left, Option.toList_some, Option.toList_none, List.cons_append, List.nil_append, true_and, and_true, Option.map_some, Option.map_none, nI_clamp (show m < 2 ^ 31 by omega), nI_1]) n 0 s (by omega) ⟨rfl, fun _ _ => rfl, fun j hj => by omega⟩
  obtain ⟨r1, r2, r3⟩ := ho
  refine ⟨s', ?_, r1, r2, r3⟩
  rw [x_ev_in rfl (Nat.le_of_ble_eq_true rfl)]
  rw [show x_ent (x_nL g_M 342) [.ref a, .long v] = [some (.ref a), some (.long v), none, none, none] from rfl]
  simp only [w_Arrays_fill_d0a16_0, w_Arrays_fill_d0a16_4, hl, Option.some.injEq, exists_eq_left', exists_eq_left, Option.toList_some, Option.toList_none, List.cons_append, List.nil_append, true_and, and_true, Option.map_some, Option.map_none]
  refine (e _).mpr ?_
  simp only [w_Arrays_fill_d0a16_0, w_Arrays_fill_d0a16_4, w_Arrays_fill_d0a16_12, w_Arrays_fill_d0a16_16, w_Arrays_fill_d0a16_22, w_Arrays_fill_d0a16_6 (l3 := nI n), show nI n ≤ nI n from Int32.le_refl _, if_true]
/-- Arrays.fill of ints -/
theorem x_fillI (hd : 1 ≤ d) {a n : Nat} (ha : a < 131) (h0 : a ≠ 0) (hn : n < 2 ^ 31) (hc : ∀ s : xS, g_cell a s = xI 0 ((List.range n).map (s.1 a))) (v : Int32) : ∃ s', x_ev g_M P d 343 [.ref a, .int v] (mkH xs s) (none, mkH xs s') ∧ s'.2 = s.2 ∧ (∀ q, q ≠ a → s'.1 q = s.1 q) ∧ ∀ j, j < n → s'.1 a j = v := by
  obtain ⟨d, rfl⟩ := x_1 (d := d) (by omega)
  have hl : x_len (mkH xs s) a = some n := by
    unfold x_len
    rw [mk_get ha h0, hc]
    simp
  obtain ⟨s', ho, e⟩ := x_upY (C := x_ev g_M P d) (k := 343) (N := n) (β := xS) (R := fun m z => z.2 = s.2 ∧ (∀ q, q ≠ a → z.1 q = s.1 q) ∧ ∀ j, j < m → z.1 a j = v) (F := fun m z => (5, [some (.ref a), some (.int v), some (.int (nI m)), some (.int (nI n))], [], mkH xs z)) (fun m z hm ho => by
    obtain ⟨r1, r2, r3⟩ := ho
    have hcc : ¬ nI n ≤ nI m := nI_ge hm hn
    have hx : x_rd (z.1 a) n (nI m) = some (z.1 a m) := x_rd_nI hm hn
    refine ⟨s_p z a m v, ⟨r1, fun q hq => ?_, fun j hj => ?_⟩, fun r => ?_⟩
    · rw [← r2 q hq]
      funext k
      simp [s_p, hq]
    · by_cases hj2 : j = m
      · simp [s_p, hj2]
      · rw [← r3 j (by omega)]
        simp [s_p, hj2]
    · simp only [w_Arrays_fill_53178_0, w_Arrays_fill_53178_4, w_Arrays_fill_53178_10, w_Arrays_fill_53178_14, w_Arrays_fill_53178_20, w_Arrays_fill_53178_5 (l2 := nI m), hcc, if_false, mk_ip ha h0 hc, hx, Option.some.injEq, exists_eq_left', exists_eq_left, Option.toList_some, Option.toList_none, List.cons_append, List.nil_append, true_and, and_true, Option.map_some, Option.map_none, nI_clamp (show m < 2 ^ 31 by omega), nI_1]) n 0 s (by omega) ⟨rfl, fun _ _ => rfl, fun j hj => by omega⟩
  obtain ⟨r1, r2, r3⟩ := ho
  refine ⟨s', ?_, r1, r2, r3⟩
  rw [x_ev_in rfl (Nat.le_of_ble_eq_true rfl)]
  rw [show x_ent (x_nL g_M 343) [.ref a, .int v] = [some (.ref a), some (.int v), none, none] from rfl]
  simp only [w_Arrays_fill_53178_0, w_Arrays_fill_53178_4, hl, Option.some.injEq, exists_eq_left', exists_eq_left, Option.toList_some, Option.toList_none, List.cons_append, List.nil_append, true_and, and_true, Option.map_some, Option.map_none]
  refine (e _).mpr ?_
  simp only [w_Arrays_fill_53178_0, w_Arrays_fill_53178_4, w_Arrays_fill_53178_10, w_Arrays_fill_53178_14, w_Arrays_fill_53178_20, w_Arrays_fill_53178_5 (l2 := nI n), show nI n ≤ nI n from Int32.le_refl _, if_true]
theorem s_lay (hd : 2 ≤ d) {i w n : Nat} (hi : i < 4) : ∃ s', x_ev g_M P d 63 [.ref (77 + 2 * i), .int (nI w), .int (nI n)] (mkH xs s) (none, mkH xs s') ∧ (∀ q, q ≠ 77 + 2 * i → s'.1 q = s.1 q) ∧ (∀ q, q ≠ 78 + 2 * i → s'.2 q = s.2 q) ∧ slC s' i (some (w, n, fun _ => 0)) := by
  obtain ⟨d, rfl⟩ := x_1 (d := d) (by omega)
  obtain ⟨s', q1, q2, q3, q4⟩ := x_fillL (P := P) (d := d) (xs := xs) (s := s_p (s_p (s_p s (77 + 2 * i) 0 1) (77 + 2 * i) 1 (nI w)) (77 + 2 * i) 2 (nI n)) (by omega) (a := 78 + 2 * i) (n := 60) (by omega) (by omega) (by omega) (sl_g hi) 0
  refine ⟨s', ?_, fun q hq => ?_, q3, ?_⟩
  · rw [x_ev_in rfl (Nat.le_of_ble_eq_true rfl)]
    rw [show x_ent (x_nL g_M 63) [.ref (77 + 2 * i), .int (nI w), .int (nI n)] = [some (.ref (77 + 2 * i)), some (.int (nI w)), some (.int (nI n))] from rfl]
    simp only [w_Slot_lay_0, w_Slot_lay_5, w_Slot_lay_10, w_Slot_lay_15, w_Slot_lay_19, w_Slot_lay_23, sl_p0 hi, sl_p1 hi, sl_p2 hi, sl_3 hi, Option.some.injEq, exists_eq_left', exists_eq_left, Option.toList_some, Option.toList_none, List.cons_append, List.nil_append, true_and, and_true, Option.map_some, Option.map_none, x_ev_iff q1]
  · rw [q2]
    funext k
    simp [s_p, hq]
  · unfold slC
    rw [q2]
    refine ⟨by simp [s_p], by simp [s_p], by simp [s_p], q4⟩
end ROWS
def wSlt (W : Wd) (i : Nat) (o : Option Sl) : Wd := (W.1, W.2.1, (fun k => if k = i then o else wSl W k), wIm W)
theorem wOk_sl {W : Wd} {i : Nat} {o : Option Sl} (h : wOk W) (ho : sOk o) : wOk (wSlt W i o) := by
  refine ⟨h.1, h.2.1, h.2.2.1, h.2.2.2.1, h.2.2.2.2.1, fun k hk => ?_, h.2.2.2.2.2.2⟩
  show sOk (if k = i then o else wSl W k)
  split
  · exact ho
  · exact h.2.2.2.2.2.1 k hk
theorem cW_sl {s s' : xS} {W : Wd} {i : Nat} {o : Option Sl} (hC : cW s W) (h : ∀ q, q ≠ 77 + 2 * i → s'.1 q = s.1 q) (h2 : ∀ q, q ≠ 78 + 2 * i → s'.2 q = s.2 q) (hz : slC s' i o) (hi : i < 4) : cW s' (wSlt W i o) := by
  obtain ⟨⟨c1, c2, c3, c4⟩, ⟨d1, d2, d3, d4⟩, e, f⟩ := hC
  refine ⟨⟨clsT_at (fun q a b => h q (by omega)) c1, clsS_at (fun q a b => h q (by omega)) c2, ?_, ?_⟩, ⟨?_, ?_, ?_, ?_⟩, fun k hk => ?_, fun k hk => imC_at (fun q a b => h q (by omega)) (f k hk)⟩
  · rw [h 1 (by omega)]; exact c3
  · rw [h 12 (by omega)]; exact c4
  · rw [h 1 (by omega)]; exact d1
  · rw [h 2 (by omega)]; exact d2
  · rw [h 13 (by omega)]; exact d3
  · rw [h 13 (by omega)]; exact d4
  · show slC s' k (if k = i then o else wSl W k)
    by_cases hki : k = i
    · subst hki
      rw [if_pos rfl]
      exact hz
    · rw [if_neg hki]
      exact slC_at (h _ (by omega)) (h2 _ (by omega)) (e k hk)
theorem rW_sl {s s' : xS} {W : Wd} {i : Nat} {o : Option Sl} (hC : rW s W) (h : ∀ q, q ≠ 127 → q ≠ 128 → s'.1 q = s.1 q) (h7 : ∀ k, k ≠ i → s'.1 127 k = s.1 127 k) (h8 : ∀ k, k ≠ i → s'.1 128 k = s.1 128 k) (h9 : ∀ k, k ≠ i → ∀ j, j < 60 → s'.2 129 (60 * k + j) = s.2 129 (60 * k + j)) (hz : slR s' i o) : rW s' (wSlt W i o) := by
  obtain ⟨c1, ⟨d1, d2, d3, d4⟩, e, f⟩ := hC
  refine ⟨refW_at (h 111 (by omega) (by omega)) c1, ⟨?_, ?_, ?_, ?_⟩, fun k hk => ?_, fun k hk => imR_at (h 112 (by omega) (by omega)) (h 113 (by omega) (by omega)) (f k hk)⟩
  · rw [h 110 (by omega) (by omega)]; exact d1
  · rw [h 114 (by omega) (by omega)]; exact d2
  · rw [h 110 (by omega) (by omega)]; exact d3
  · rw [h 110 (by omega) (by omega)]; exact d4
  · show slR s' k (if k = i then o else wSl W k)
    by_cases hki : k = i
    · subst hki
      rw [if_pos rfl]
      exact hz
    · rw [if_neg hki]
      exact slR_at (h7 k hki) (h8 k hki) (h9 k hki) (e k hk)
/-- whether a SLOT has a row -/
def slH (o : Option Sl) : Int32 := if o.isSome = true then 1 else 0
theorem slC_h {s : xS} {i : Nat} {o : Option Sl} (h : slC s i o) : s.1 (77 + 2 * i) 0 = slH o := by
  cases o with
  | none => exact h
  | some z => exact h.1
theorem slR_h {s : xS} {i : Nat} {o : Option Sl} (h : slR s i o) (ho : sOk o) : (s.1 127 i = -1) ↔ ¬ o.isSome = true := by
  cases o with
  | none => simp only [Option.isSome_none]; exact ⟨fun _ => by decide, fun _ => h⟩
  | some z =>
    have h60 := (ho z rfl).2
    simp only [Option.isSome_some, not_true_eq_false, iff_false]
    rw [h.1]
    intro hz
    have := nI_pos (n := z.2.1) (by omega)
    rw [hz] at this
    exact this (by decide)
section ROWS2
variable {P : Nat → List Value → Option Value} {W : Wd}
set_option maxHeartbeats 4000000 in
theorem k_count (h : wOk W) (x : Int32) : ask2 P 181 332 [.int x] W := by
  rcases in_cs (k := 7) (by omega) x with ⟨g0, gn⟩ | ⟨i, hi, rfl, g1⟩
  · refine ⟨-1, cAsk0 ?_, rAsk0 ?_⟩
    · intro d xs s hd hC; obtain ⟨⟨hT, hA, hn, hacts⟩, -⟩ := hC
      obtain ⟨d, rfl⟩ := x_1 (d := d) (by omega)
      rw [x_ev_in rfl (Nat.le_of_ble_eq_true rfl)]
      rw [show x_ent (x_nL g_M 181) [.ref 1, .int x] = [some (.ref 1), some (.int x)] from rfl]
      simp only [w_Top_count_0, w_Top_count_48, w_Top_count_52, w_Top_count_55, w_Top_count_56, w_Top_count_60, w_Top_count_63, w_Top_count_64, w_Top_count_68, w_Top_count_71, w_Top_count_72, w_Top_count_76, w_Top_count_79, w_Top_count_80, w_Top_count_84, w_Top_count_87, w_Top_count_88, w_Top_count_92, w_Top_count_93, w_Top_count_97, w_Top_count_98, w_Top_count_102, w_Top_count_103, x_sw_out (w := x) (ts := [48, 56, 64, 72, 80, 88, 93, 98]) (d := 103) (fun i hi => gn i (by simp at hi; omega))]
    · intro d xs s hd hC; obtain ⟨hR, -⟩ := hC; have hT := hR.1
      obtain ⟨d, rfl⟩ := x_1 (d := d) (by omega)
      rw [x_ev_in rfl (Nat.le_of_ble_eq_true rfl)]
      rw [show x_ent (x_nL g_M 332) [.ref 110, .int x] = [some (.ref 110), some (.int x), none, none] from rfl]
      simp only [w_Ref_count_0, w_Ref_count_48, w_Ref_count_52, w_Ref_count_54, w_Ref_count_55, w_Ref_count_59, w_Ref_count_61, w_Ref_count_62, w_Ref_count_66, w_Ref_count_68, w_Ref_count_69, w_Ref_count_73, w_Ref_count_75, w_Ref_count_76, w_Ref_count_80, w_Ref_count_82, w_Ref_count_83, w_Ref_count_87, w_Ref_count_88, w_Ref_count_92, w_Ref_count_95, w_Ref_count_96, w_Ref_count_103, w_Ref_count_108, w_Ref_count_110, w_Ref_count_114, w_Ref_count_118, w_Ref_count_119, w_Ref_count_127, w_Ref_count_129, x_sw_out (w := x) (ts := [48, 55, 62, 69, 76, 83, 88, 96]) (d := 129) (fun i hi => gn i (by simp at hi; omega))]
  · by_cases h7 : i = 7
    · subst h7
      refine ⟨sm (fun i => slH (wSl W i)) 4, cAsk0 ?_, rAsk0 ?_⟩
      · intro d xs s hd hC
        obtain ⟨-, -, e, -⟩ := hC
        obtain ⟨d, rfl⟩ := x_1 (d := d) (by omega)
        have q1 : x_ev g_M P d 182 [.ref 1] (mkH xs s) (some (.int (sm (fun i => slH (wSl W i)) 4)), mkH xs s) := by
          obtain ⟨d, rfl⟩ := x_1 (d := d) (by omega)
          rw [x_ev_in rfl (Nat.le_of_ble_eq_true rfl)]
          rw [show x_ent (x_nL g_M 182) [.ref 1] = [some (.ref 1), none, none] from rfl]
          rw [w_Top_rowsThere_0]
          have key := x_up (C := x_ev g_M P d) (k := 182) (r := (some (.int (sm (fun i => slH (wSl W i)) 4)), mkH xs s)) (N := 4) (F := fun m => (4, [some (.ref 1), some (.int (sm (fun i => slH (wSl W i)) m)), some (.int (nI m))], [], mkH xs s)) (fun m hm => by
            have hc : ¬ 4 ≤ nI m := nI_ge (b := 4) hm (by omega)
            have hh := slC_h (e m hm)
            simp only [w_Top_rowsThere_0, w_Top_rowsThere_9, w_Top_rowsThere_13, w_Top_rowsThere_15, w_Top_rowsThere_18, w_Top_rowsThere_21, w_Top_rowsThere_24, w_Top_rowsThere_30, w_Top_rowsThere_4 (l2 := nI m), hc, if_false, c_1, f_1_0, f_1_1, p_1_1, f_1_2, f_1_3, f_1_4, f_1_5, f_1_6, p_1_6, f_1_7, f_1_8, f_1_9, f_1_10, f_1_11, f_1_12, f_1_13, f_1_14, e_76, sl_q hm, sl_0 hm, Option.some.injEq, exists_eq_left', exists_eq_left, Option.toList_some, Option.toList_none, List.cons_append, List.nil_append, true_and, and_true, Option.map_some, Option.map_none, hh, nI_1, sm]
            unfold slH
            by_cases hb : (wSl W m).isSome = true
            · simp only [hb, if_true, show ¬ ((1 : Int32) = 0) by decide, if_false]
            · simp only [hb, Bool.false_eq_true, if_true, if_false, Int32.add_zero]) 0 (Nat.zero_le _)
          refine key.mpr ?_
          simp only [w_Top_rowsThere_0, w_Top_rowsThere_9, w_Top_rowsThere_13, w_Top_rowsThere_15, w_Top_rowsThere_18, w_Top_rowsThere_21, w_Top_rowsThere_24, w_Top_rowsThere_30, w_Top_rowsThere_4 (l2 := nI 4), show (4 : Int32) ≤ nI 4 from Int32.le_refl _, if_true]
        rw [x_ev_in rfl (Nat.le_of_ble_eq_true rfl)]
        rw [show x_ent (x_nL g_M 181) [.ref 1, .int (nI 7)] = [some (.ref 1), some (.int (nI 7))] from rfl]
        simp only [w_Top_count_0, w_Top_count_48, w_Top_count_52, w_Top_count_55, w_Top_count_56, w_Top_count_60, w_Top_count_63, w_Top_count_64, w_Top_count_68, w_Top_count_71, w_Top_count_72, w_Top_count_76, w_Top_count_79, w_Top_count_80, w_Top_count_84, w_Top_count_87, w_Top_count_88, w_Top_count_92, w_Top_count_93, w_Top_count_97, w_Top_count_98, w_Top_count_102, w_Top_count_103, c_1, f_1_0, f_1_1, p_1_1, f_1_2, f_1_3, f_1_4, f_1_5, f_1_6, p_1_6, f_1_7, f_1_8, f_1_9, f_1_10, f_1_11, f_1_12, f_1_13, f_1_14, Option.some.injEq, exists_eq_left', exists_eq_left, Option.toList_some, Option.toList_none, List.cons_append, List.nil_append, true_and, and_true, Option.map_some, Option.map_none, show x_sw (nI 7) 0 [48, 56, 64, 72, 80, 88, 93, 98] 103 = 98 by decide, x_ev_iff q1]
      · intro d xs s hd hC
        obtain ⟨-, -, e, -⟩ := hC
        obtain ⟨d, rfl⟩ := x_1 (d := d) (by omega)
        rw [x_ev_in rfl (Nat.le_of_ble_eq_true rfl)]
        rw [show x_ent (x_nL g_M 332) [.ref 110, .int (nI 7)] = [some (.ref 110), some (.int (nI 7)), none, none] from rfl]
        simp only [w_Ref_count_0, w_Ref_count_96, show x_sw (nI 7) 0 [48, 55, 62, 69, 76, 83, 88, 96] 129 = 96 by decide]
        have key := x_up (C := x_ev g_M P d) (k := 332) (r := (some (.int (sm (fun i => slH (wSl W i)) 4)), mkH xs s)) (N := 4) (F := fun m => (98, [some (.ref 110), some (.int (nI 7)), some (.int (sm (fun i => slH (wSl W i)) m)), some (.int (nI m))], [], mkH xs s)) (fun m hm => by
          have hc : ¬ 4 ≤ nI m := nI_ge (b := 4) hm (by omega)
          have hh := slR_h (e m hm) (h.2.2.2.2.2.1 m hm)
          have hx : x_rd (s.1 127) 4 (nI m) = some (s.1 127 m) := x_rd_nI hm (by omega)
          simp only [w_Ref_count_0, w_Ref_count_48, w_Ref_count_52, w_Ref_count_54, w_Ref_count_55, w_Ref_count_59, w_Ref_count_61, w_Ref_count_62, w_Ref_count_66, w_Ref_count_68, w_Ref_count_69, w_Ref_count_73, w_Ref_count_75, w_Ref_count_76, w_Ref_count_80, w_Ref_count_82, w_Ref_count_83, w_Ref_count_87, w_Ref_count_88, w_Ref_count_92, w_Ref_count_95, w_Ref_count_96, w_Ref_count_103, w_Ref_count_108, w_Ref_count_110, w_Ref_count_114, w_Ref_count_118, w_Ref_count_119, w_Ref_count_127, w_Ref_count_129, w_Ref_count_98 (l3 := nI m), hc, if_false, c_110, f_110_0, p_110_0, f_110_1, f_110_2, f_110_3, f_110_4, f_110_5, p_110_5, f_110_6, f_110_7, p_110_7, f_110_8, p_110_8, f_110_9, p_110_9, f_110_10, p_110_10, f_110_11, p_110_11, f_110_12, p_110_12, f_110_13, p_110_13, f_110_14, f_110_15, f_110_16, p_110_16, f_110_17, f_110_18, p_110_18, f_110_19, p_110_19, f_110_20, f_110_21, p_110_21, f_110_22, p_110_22, f_110_23, f_110_24, f_110_25, p_110_25, f_110_26, f_110_27, f_110_28, f_110_29, f_110_30, f_110_31, p_110_31, f_110_32, p_110_32, f_110_33, p_110_33, f_110_34, p_110_34, f_110_35, f_110_36, f_110_37, f_110_38, e_127, i_127, Option.some.injEq, exists_eq_left', exists_eq_left, Option.toList_some, Option.toList_none, List.cons_append, List.nil_append, true_and, and_true, Option.map_some, Option.map_none, hx, hh, nI_1, sm]
          unfold slH
          by_cases hb : (wSl W m).isSome = true
          · simp only [hb, not_true_eq_false, not_false_eq_true, if_true, if_false]
          · simp only [hb, not_true_eq_false, not_false_eq_true, if_true, if_false, Bool.false_eq_true]) 0 (Nat.zero_le _)
        refine key.mpr ?_
        simp only [w_Ref_count_0, w_Ref_count_48, w_Ref_count_52, w_Ref_count_54, w_Ref_count_55, w_Ref_count_59, w_Ref_count_61, w_Ref_count_62, w_Ref_count_66, w_Ref_count_68, w_Ref_count_69, w_Ref_count_73, w_Ref_count_75, w_Ref_count_76, w_Ref_count_80, w_Ref_count_82, w_Ref_count_83, w_Ref_count_87, w_Ref_count_88, w_Ref_count_92, w_Ref_count_95, w_Ref_count_96, w_Ref_count_103, w_Ref_count_108, w_Ref_count_110, w_Ref_count_114, w_Ref_count_118, w_Ref_count_119, w_Ref_count_127, w_Ref_count_129, w_Ref_count_98 (l3 := nI 4), show (4 : Int32) ≤ nI 4 from Int32.le_refl _, if_true]
    · have hw : ∀ (s : xS) (k : Nat), k < 135 → x_rd (s.1 111) 135 (nI k) = some (s.1 111 k) := fun s k hk => x_rd_nI hk (by omega)
      rcases (show i = 0 ∨ i = 1 ∨ i = 2 ∨ i = 3 ∨ i = 4 ∨ i = 5 ∨ i = 6 by omega) with rfl | rfl | rfl | rfl | rfl | rfl | rfl
      · refine ⟨nI (tP (wT W)), cAsk0 ?_, rAsk0 ?_⟩
        · intro d xs s hd hC; obtain ⟨⟨hT, hA, hn, hacts⟩, -⟩ := hC
          obtain ⟨d, rfl⟩ := x_1 (d := d) (by omega)
          rw [x_ev_in rfl (Nat.le_of_ble_eq_true rfl)]
          rw [show x_ent (x_nL g_M 181) [.ref 1, .int (nI 0)] = [some (.ref 1), some (.int (nI 0))] from rfl]
          simp only [w_Top_count_0, w_Top_count_48, w_Top_count_52, w_Top_count_55, w_Top_count_56, w_Top_count_60, w_Top_count_63, w_Top_count_64, w_Top_count_68, w_Top_count_71, w_Top_count_72, w_Top_count_76, w_Top_count_79, w_Top_count_80, w_Top_count_84, w_Top_count_87, w_Top_count_88, w_Top_count_92, w_Top_count_93, w_Top_count_97, w_Top_count_98, w_Top_count_102, w_Top_count_103, c_1, f_1_0, f_1_1, p_1_1, f_1_2, f_1_3, f_1_4, f_1_5, f_1_6, p_1_6, f_1_7, f_1_8, f_1_9, f_1_10, f_1_11, f_1_12, f_1_13, f_1_14, c_3, f_3_0, p_3_0, f_3_1, p_3_1, f_3_2, p_3_2, f_3_3, p_3_3, f_3_4, p_3_4, f_3_5, p_3_5, f_3_6, p_3_6, f_3_7, p_3_7, f_3_8, p_3_8, f_3_9, f_3_10, f_3_11, f_3_12, f_3_13, Option.some.injEq, exists_eq_left', exists_eq_left, Option.toList_some, Option.toList_none, List.cons_append, List.nil_append, true_and, and_true, Option.map_some, Option.map_none, show x_sw (nI 0) 0 [48, 56, 64, 72, 80, 88, 93, 98] 103 = 48 by decide, hT.1.2.2.2.2.1]
        · intro d xs s hd hC; obtain ⟨hR, -⟩ := hC; have hT := hR.1
          obtain ⟨d, rfl⟩ := x_1 (d := d) (by omega)
          rw [x_ev_in rfl (Nat.le_of_ble_eq_true rfl)]
          rw [show x_ent (x_nL g_M 332) [.ref 110, .int (nI 0)] = [some (.ref 110), some (.int (nI 0)), none, none] from rfl]
          simp only [w_Ref_count_0, w_Ref_count_48, w_Ref_count_52, w_Ref_count_54, w_Ref_count_55, w_Ref_count_59, w_Ref_count_61, w_Ref_count_62, w_Ref_count_66, w_Ref_count_68, w_Ref_count_69, w_Ref_count_73, w_Ref_count_75, w_Ref_count_76, w_Ref_count_80, w_Ref_count_82, w_Ref_count_83, w_Ref_count_87, w_Ref_count_88, w_Ref_count_92, w_Ref_count_95, w_Ref_count_96, w_Ref_count_103, w_Ref_count_108, w_Ref_count_110, w_Ref_count_114, w_Ref_count_118, w_Ref_count_119, w_Ref_count_127, w_Ref_count_129, c_110, f_110_0, p_110_0, f_110_1, f_110_2, f_110_3, f_110_4, f_110_5, p_110_5, f_110_6, f_110_7, p_110_7, f_110_8, p_110_8, f_110_9, p_110_9, f_110_10, p_110_10, f_110_11, p_110_11, f_110_12, p_110_12, f_110_13, p_110_13, f_110_14, f_110_15, f_110_16, p_110_16, f_110_17, f_110_18, p_110_18, f_110_19, p_110_19, f_110_20, f_110_21, p_110_21, f_110_22, p_110_22, f_110_23, f_110_24, f_110_25, p_110_25, f_110_26, f_110_27, f_110_28, f_110_29, f_110_30, f_110_31, p_110_31, f_110_32, p_110_32, f_110_33, p_110_33, f_110_34, p_110_34, f_110_35, f_110_36, f_110_37, f_110_38, e_111, i_111, Option.some.injEq, exists_eq_left', exists_eq_left, Option.toList_some, Option.toList_none, List.cons_append, List.nil_append, true_and, and_true, Option.map_some, Option.map_none, show x_sw (nI 0) 0 [48, 55, 62, 69, 76, 83, 88, 96] 129 = 48 by decide, x_w3 hT]
      · refine ⟨nI (tM (wT W)), cAsk0 ?_, rAsk0 ?_⟩
        · intro d xs s hd hC; obtain ⟨⟨hT, hA, hn, hacts⟩, -⟩ := hC
          obtain ⟨d, rfl⟩ := x_1 (d := d) (by omega)
          rw [x_ev_in rfl (Nat.le_of_ble_eq_true rfl)]
          rw [show x_ent (x_nL g_M 181) [.ref 1, .int (nI 1)] = [some (.ref 1), some (.int (nI 1))] from rfl]
          simp only [w_Top_count_0, w_Top_count_48, w_Top_count_52, w_Top_count_55, w_Top_count_56, w_Top_count_60, w_Top_count_63, w_Top_count_64, w_Top_count_68, w_Top_count_71, w_Top_count_72, w_Top_count_76, w_Top_count_79, w_Top_count_80, w_Top_count_84, w_Top_count_87, w_Top_count_88, w_Top_count_92, w_Top_count_93, w_Top_count_97, w_Top_count_98, w_Top_count_102, w_Top_count_103, c_1, f_1_0, f_1_1, p_1_1, f_1_2, f_1_3, f_1_4, f_1_5, f_1_6, p_1_6, f_1_7, f_1_8, f_1_9, f_1_10, f_1_11, f_1_12, f_1_13, f_1_14, c_3, f_3_0, p_3_0, f_3_1, p_3_1, f_3_2, p_3_2, f_3_3, p_3_3, f_3_4, p_3_4, f_3_5, p_3_5, f_3_6, p_3_6, f_3_7, p_3_7, f_3_8, p_3_8, f_3_9, f_3_10, f_3_11, f_3_12, f_3_13, Option.some.injEq, exists_eq_left', exists_eq_left, Option.toList_some, Option.toList_none, List.cons_append, List.nil_append, true_and, and_true, Option.map_some, Option.map_none, show x_sw (nI 1) 0 [48, 56, 64, 72, 80, 88, 93, 98] 103 = 56 by decide, hT.1.2.2.2.2.2]
        · intro d xs s hd hC; obtain ⟨hR, -⟩ := hC; have hT := hR.1
          obtain ⟨d, rfl⟩ := x_1 (d := d) (by omega)
          rw [x_ev_in rfl (Nat.le_of_ble_eq_true rfl)]
          rw [show x_ent (x_nL g_M 332) [.ref 110, .int (nI 1)] = [some (.ref 110), some (.int (nI 1)), none, none] from rfl]
          simp only [w_Ref_count_0, w_Ref_count_48, w_Ref_count_52, w_Ref_count_54, w_Ref_count_55, w_Ref_count_59, w_Ref_count_61, w_Ref_count_62, w_Ref_count_66, w_Ref_count_68, w_Ref_count_69, w_Ref_count_73, w_Ref_count_75, w_Ref_count_76, w_Ref_count_80, w_Ref_count_82, w_Ref_count_83, w_Ref_count_87, w_Ref_count_88, w_Ref_count_92, w_Ref_count_95, w_Ref_count_96, w_Ref_count_103, w_Ref_count_108, w_Ref_count_110, w_Ref_count_114, w_Ref_count_118, w_Ref_count_119, w_Ref_count_127, w_Ref_count_129, c_110, f_110_0, p_110_0, f_110_1, f_110_2, f_110_3, f_110_4, f_110_5, p_110_5, f_110_6, f_110_7, p_110_7, f_110_8, p_110_8, f_110_9, p_110_9, f_110_10, p_110_10, f_110_11, p_110_11, f_110_12, p_110_12, f_110_13, p_110_13, f_110_14, f_110_15, f_110_16, p_110_16, f_110_17, f_110_18, p_110_18, f_110_19, p_110_19, f_110_20, f_110_21, p_110_21, f_110_22, p_110_22, f_110_23, f_110_24, f_110_25, p_110_25, f_110_26, f_110_27, f_110_28, f_110_29, f_110_30, f_110_31, p_110_31, f_110_32, p_110_32, f_110_33, p_110_33, f_110_34, p_110_34, f_110_35, f_110_36, f_110_37, f_110_38, e_111, i_111, Option.some.injEq, exists_eq_left', exists_eq_left, Option.toList_some, Option.toList_none, List.cons_append, List.nil_append, true_and, and_true, Option.map_some, Option.map_none, show x_sw (nI 1) 0 [48, 55, 62, 69, 76, 83, 88, 96] 129 = 55 by decide, x_w4 hT]
      · refine ⟨tSp (wT W), cAsk0 ?_, rAsk0 ?_⟩
        · intro d xs s hd hC; obtain ⟨⟨hT, hA, hn, hacts⟩, -⟩ := hC
          obtain ⟨d, rfl⟩ := x_1 (d := d) (by omega)
          rw [x_ev_in rfl (Nat.le_of_ble_eq_true rfl)]
          rw [show x_ent (x_nL g_M 181) [.ref 1, .int (nI 2)] = [some (.ref 1), some (.int (nI 2))] from rfl]
          simp only [w_Top_count_0, w_Top_count_48, w_Top_count_52, w_Top_count_55, w_Top_count_56, w_Top_count_60, w_Top_count_63, w_Top_count_64, w_Top_count_68, w_Top_count_71, w_Top_count_72, w_Top_count_76, w_Top_count_79, w_Top_count_80, w_Top_count_84, w_Top_count_87, w_Top_count_88, w_Top_count_92, w_Top_count_93, w_Top_count_97, w_Top_count_98, w_Top_count_102, w_Top_count_103, c_1, f_1_0, f_1_1, p_1_1, f_1_2, f_1_3, f_1_4, f_1_5, f_1_6, p_1_6, f_1_7, f_1_8, f_1_9, f_1_10, f_1_11, f_1_12, f_1_13, f_1_14, c_3, f_3_0, p_3_0, f_3_1, p_3_1, f_3_2, p_3_2, f_3_3, p_3_3, f_3_4, p_3_4, f_3_5, p_3_5, f_3_6, p_3_6, f_3_7, p_3_7, f_3_8, p_3_8, f_3_9, f_3_10, f_3_11, f_3_12, f_3_13, Option.some.injEq, exists_eq_left', exists_eq_left, Option.toList_some, Option.toList_none, List.cons_append, List.nil_append, true_and, and_true, Option.map_some, Option.map_none, show x_sw (nI 2) 0 [48, 56, 64, 72, 80, 88, 93, 98] 103 = 64 by decide, hT.1.2.2.1]
        · intro d xs s hd hC; obtain ⟨hR, -⟩ := hC; have hT := hR.1
          have hx : x_rd (s.1 111) 135 1 = some (tSp (wT W)) := (hw s 1 (by omega)).trans (congrArg some hT.1.2.1)
          obtain ⟨d, rfl⟩ := x_1 (d := d) (by omega)
          rw [x_ev_in rfl (Nat.le_of_ble_eq_true rfl)]
          rw [show x_ent (x_nL g_M 332) [.ref 110, .int (nI 2)] = [some (.ref 110), some (.int (nI 2)), none, none] from rfl]
          simp only [w_Ref_count_0, w_Ref_count_48, w_Ref_count_52, w_Ref_count_54, w_Ref_count_55, w_Ref_count_59, w_Ref_count_61, w_Ref_count_62, w_Ref_count_66, w_Ref_count_68, w_Ref_count_69, w_Ref_count_73, w_Ref_count_75, w_Ref_count_76, w_Ref_count_80, w_Ref_count_82, w_Ref_count_83, w_Ref_count_87, w_Ref_count_88, w_Ref_count_92, w_Ref_count_95, w_Ref_count_96, w_Ref_count_103, w_Ref_count_108, w_Ref_count_110, w_Ref_count_114, w_Ref_count_118, w_Ref_count_119, w_Ref_count_127, w_Ref_count_129, c_110, f_110_0, p_110_0, f_110_1, f_110_2, f_110_3, f_110_4, f_110_5, p_110_5, f_110_6, f_110_7, p_110_7, f_110_8, p_110_8, f_110_9, p_110_9, f_110_10, p_110_10, f_110_11, p_110_11, f_110_12, p_110_12, f_110_13, p_110_13, f_110_14, f_110_15, f_110_16, p_110_16, f_110_17, f_110_18, p_110_18, f_110_19, p_110_19, f_110_20, f_110_21, p_110_21, f_110_22, p_110_22, f_110_23, f_110_24, f_110_25, p_110_25, f_110_26, f_110_27, f_110_28, f_110_29, f_110_30, f_110_31, p_110_31, f_110_32, p_110_32, f_110_33, p_110_33, f_110_34, p_110_34, f_110_35, f_110_36, f_110_37, f_110_38, e_111, i_111, Option.some.injEq, exists_eq_left', exists_eq_left, Option.toList_some, Option.toList_none, List.cons_append, List.nil_append, true_and, and_true, Option.map_some, Option.map_none, show x_sw (nI 2) 0 [48, 55, 62, 69, 76, 83, 88, 96] 129 = 62 by decide, hx]
      · refine ⟨tFr (wT W), cAsk0 ?_, rAsk0 ?_⟩
        · intro d xs s hd hC; obtain ⟨⟨hT, hA, hn, hacts⟩, -⟩ := hC
          obtain ⟨d, rfl⟩ := x_1 (d := d) (by omega)
          rw [x_ev_in rfl (Nat.le_of_ble_eq_true rfl)]
          rw [show x_ent (x_nL g_M 181) [.ref 1, .int (nI 3)] = [some (.ref 1), some (.int (nI 3))] from rfl]
          simp only [w_Top_count_0, w_Top_count_48, w_Top_count_52, w_Top_count_55, w_Top_count_56, w_Top_count_60, w_Top_count_63, w_Top_count_64, w_Top_count_68, w_Top_count_71, w_Top_count_72, w_Top_count_76, w_Top_count_79, w_Top_count_80, w_Top_count_84, w_Top_count_87, w_Top_count_88, w_Top_count_92, w_Top_count_93, w_Top_count_97, w_Top_count_98, w_Top_count_102, w_Top_count_103, c_1, f_1_0, f_1_1, p_1_1, f_1_2, f_1_3, f_1_4, f_1_5, f_1_6, p_1_6, f_1_7, f_1_8, f_1_9, f_1_10, f_1_11, f_1_12, f_1_13, f_1_14, c_3, f_3_0, p_3_0, f_3_1, p_3_1, f_3_2, p_3_2, f_3_3, p_3_3, f_3_4, p_3_4, f_3_5, p_3_5, f_3_6, p_3_6, f_3_7, p_3_7, f_3_8, p_3_8, f_3_9, f_3_10, f_3_11, f_3_12, f_3_13, Option.some.injEq, exists_eq_left', exists_eq_left, Option.toList_some, Option.toList_none, List.cons_append, List.nil_append, true_and, and_true, Option.map_some, Option.map_none, show x_sw (nI 3) 0 [48, 56, 64, 72, 80, 88, 93, 98] 103 = 72 by decide, hT.1.2.2.2.1]
        · intro d xs s hd hC; obtain ⟨hR, -⟩ := hC; have hT := hR.1
          have hx : x_rd (s.1 111) 135 2 = some (tFr (wT W)) := (hw s 2 (by omega)).trans (congrArg some hT.1.2.2.1)
          obtain ⟨d, rfl⟩ := x_1 (d := d) (by omega)
          rw [x_ev_in rfl (Nat.le_of_ble_eq_true rfl)]
          rw [show x_ent (x_nL g_M 332) [.ref 110, .int (nI 3)] = [some (.ref 110), some (.int (nI 3)), none, none] from rfl]
          simp only [w_Ref_count_0, w_Ref_count_48, w_Ref_count_52, w_Ref_count_54, w_Ref_count_55, w_Ref_count_59, w_Ref_count_61, w_Ref_count_62, w_Ref_count_66, w_Ref_count_68, w_Ref_count_69, w_Ref_count_73, w_Ref_count_75, w_Ref_count_76, w_Ref_count_80, w_Ref_count_82, w_Ref_count_83, w_Ref_count_87, w_Ref_count_88, w_Ref_count_92, w_Ref_count_95, w_Ref_count_96, w_Ref_count_103, w_Ref_count_108, w_Ref_count_110, w_Ref_count_114, w_Ref_count_118, w_Ref_count_119, w_Ref_count_127, w_Ref_count_129, c_110, f_110_0, p_110_0, f_110_1, f_110_2, f_110_3, f_110_4, f_110_5, p_110_5, f_110_6, f_110_7, p_110_7, f_110_8, p_110_8, f_110_9, p_110_9, f_110_10, p_110_10, f_110_11, p_110_11, f_110_12, p_110_12, f_110_13, p_110_13, f_110_14, f_110_15, f_110_16, p_110_16, f_110_17, f_110_18, p_110_18, f_110_19, p_110_19, f_110_20, f_110_21, p_110_21, f_110_22, p_110_22, f_110_23, f_110_24, f_110_25, p_110_25, f_110_26, f_110_27, f_110_28, f_110_29, f_110_30, f_110_31, p_110_31, f_110_32, p_110_32, f_110_33, p_110_33, f_110_34, p_110_34, f_110_35, f_110_36, f_110_37, f_110_38, e_111, i_111, Option.some.injEq, exists_eq_left', exists_eq_left, Option.toList_some, Option.toList_none, List.cons_append, List.nil_append, true_and, and_true, Option.map_some, Option.map_none, show x_sw (nI 3) 0 [48, 55, 62, 69, 76, 83, 88, 96] 129 = 69 by decide, hx]
      · refine ⟨tLi (wT W), cAsk0 ?_, rAsk0 ?_⟩
        · intro d xs s hd hC; obtain ⟨⟨hT, hA, hn, hacts⟩, -⟩ := hC
          obtain ⟨d, rfl⟩ := x_1 (d := d) (by omega)
          rw [x_ev_in rfl (Nat.le_of_ble_eq_true rfl)]
          rw [show x_ent (x_nL g_M 181) [.ref 1, .int (nI 4)] = [some (.ref 1), some (.int (nI 4))] from rfl]
          simp only [w_Top_count_0, w_Top_count_48, w_Top_count_52, w_Top_count_55, w_Top_count_56, w_Top_count_60, w_Top_count_63, w_Top_count_64, w_Top_count_68, w_Top_count_71, w_Top_count_72, w_Top_count_76, w_Top_count_79, w_Top_count_80, w_Top_count_84, w_Top_count_87, w_Top_count_88, w_Top_count_92, w_Top_count_93, w_Top_count_97, w_Top_count_98, w_Top_count_102, w_Top_count_103, c_1, f_1_0, f_1_1, p_1_1, f_1_2, f_1_3, f_1_4, f_1_5, f_1_6, p_1_6, f_1_7, f_1_8, f_1_9, f_1_10, f_1_11, f_1_12, f_1_13, f_1_14, c_3, f_3_0, p_3_0, f_3_1, p_3_1, f_3_2, p_3_2, f_3_3, p_3_3, f_3_4, p_3_4, f_3_5, p_3_5, f_3_6, p_3_6, f_3_7, p_3_7, f_3_8, p_3_8, f_3_9, f_3_10, f_3_11, f_3_12, f_3_13, Option.some.injEq, exists_eq_left', exists_eq_left, Option.toList_some, Option.toList_none, List.cons_append, List.nil_append, true_and, and_true, Option.map_some, Option.map_none, show x_sw (nI 4) 0 [48, 56, 64, 72, 80, 88, 93, 98] 103 = 80 by decide, hT.1.1]
        · intro d xs s hd hC; obtain ⟨hR, -⟩ := hC; have hT := hR.1
          have hx : x_rd (s.1 111) 135 5 = some (tLi (wT W)) := (hw s 5 (by omega)).trans (congrArg some hT.1.2.2.2.2.2)
          obtain ⟨d, rfl⟩ := x_1 (d := d) (by omega)
          rw [x_ev_in rfl (Nat.le_of_ble_eq_true rfl)]
          rw [show x_ent (x_nL g_M 332) [.ref 110, .int (nI 4)] = [some (.ref 110), some (.int (nI 4)), none, none] from rfl]
          simp only [w_Ref_count_0, w_Ref_count_48, w_Ref_count_52, w_Ref_count_54, w_Ref_count_55, w_Ref_count_59, w_Ref_count_61, w_Ref_count_62, w_Ref_count_66, w_Ref_count_68, w_Ref_count_69, w_Ref_count_73, w_Ref_count_75, w_Ref_count_76, w_Ref_count_80, w_Ref_count_82, w_Ref_count_83, w_Ref_count_87, w_Ref_count_88, w_Ref_count_92, w_Ref_count_95, w_Ref_count_96, w_Ref_count_103, w_Ref_count_108, w_Ref_count_110, w_Ref_count_114, w_Ref_count_118, w_Ref_count_119, w_Ref_count_127, w_Ref_count_129, c_110, f_110_0, p_110_0, f_110_1, f_110_2, f_110_3, f_110_4, f_110_5, p_110_5, f_110_6, f_110_7, p_110_7, f_110_8, p_110_8, f_110_9, p_110_9, f_110_10, p_110_10, f_110_11, p_110_11, f_110_12, p_110_12, f_110_13, p_110_13, f_110_14, f_110_15, f_110_16, p_110_16, f_110_17, f_110_18, p_110_18, f_110_19, p_110_19, f_110_20, f_110_21, p_110_21, f_110_22, p_110_22, f_110_23, f_110_24, f_110_25, p_110_25, f_110_26, f_110_27, f_110_28, f_110_29, f_110_30, f_110_31, p_110_31, f_110_32, p_110_32, f_110_33, p_110_33, f_110_34, p_110_34, f_110_35, f_110_36, f_110_37, f_110_38, e_111, i_111, Option.some.injEq, exists_eq_left', exists_eq_left, Option.toList_some, Option.toList_none, List.cons_append, List.nil_append, true_and, and_true, Option.map_some, Option.map_none, show x_sw (nI 4) 0 [48, 55, 62, 69, 76, 83, 88, 96] 129 = 76 by decide, hx]
      · refine ⟨nI (wTn W), cAsk0 ?_, rAsk0 ?_⟩
        · intro d xs s hd hC
          obtain ⟨-, ⟨c1, c2, c3, c4⟩, -⟩ := hC
          obtain ⟨d, rfl⟩ := x_1 (d := d) (by omega)
          rw [x_ev_in rfl (Nat.le_of_ble_eq_true rfl)]
          rw [show x_ent (x_nL g_M 181) [.ref 1, .int (nI 5)] = [some (.ref 1), some (.int (nI 5))] from rfl]
          simp only [w_Top_count_0, w_Top_count_48, w_Top_count_52, w_Top_count_55, w_Top_count_56, w_Top_count_60, w_Top_count_63, w_Top_count_64, w_Top_count_68, w_Top_count_71, w_Top_count_72, w_Top_count_76, w_Top_count_79, w_Top_count_80, w_Top_count_84, w_Top_count_87, w_Top_count_88, w_Top_count_92, w_Top_count_93, w_Top_count_97, w_Top_count_98, w_Top_count_102, w_Top_count_103, c_1, f_1_0, f_1_1, p_1_1, f_1_2, f_1_3, f_1_4, f_1_5, f_1_6, p_1_6, f_1_7, f_1_8, f_1_9, f_1_10, f_1_11, f_1_12, f_1_13, f_1_14, c_3, f_3_0, p_3_0, f_3_1, p_3_1, f_3_2, p_3_2, f_3_3, p_3_3, f_3_4, p_3_4, f_3_5, p_3_5, f_3_6, p_3_6, f_3_7, p_3_7, f_3_8, p_3_8, f_3_9, f_3_10, f_3_11, f_3_12, f_3_13, Option.some.injEq, exists_eq_left', exists_eq_left, Option.toList_some, Option.toList_none, List.cons_append, List.nil_append, true_and, and_true, Option.map_some, Option.map_none, show x_sw (nI 5) 0 [48, 56, 64, 72, 80, 88, 93, 98] 103 = 88 by decide, c1]
        · intro d xs s hd hC
          obtain ⟨-, ⟨c1, c2, c3, c4⟩, -⟩ := hC
          obtain ⟨d, rfl⟩ := x_1 (d := d) (by omega)
          rw [x_ev_in rfl (Nat.le_of_ble_eq_true rfl)]
          rw [show x_ent (x_nL g_M 332) [.ref 110, .int (nI 5)] = [some (.ref 110), some (.int (nI 5)), none, none] from rfl]
          simp only [w_Ref_count_0, w_Ref_count_48, w_Ref_count_52, w_Ref_count_54, w_Ref_count_55, w_Ref_count_59, w_Ref_count_61, w_Ref_count_62, w_Ref_count_66, w_Ref_count_68, w_Ref_count_69, w_Ref_count_73, w_Ref_count_75, w_Ref_count_76, w_Ref_count_80, w_Ref_count_82, w_Ref_count_83, w_Ref_count_87, w_Ref_count_88, w_Ref_count_92, w_Ref_count_95, w_Ref_count_96, w_Ref_count_103, w_Ref_count_108, w_Ref_count_110, w_Ref_count_114, w_Ref_count_118, w_Ref_count_119, w_Ref_count_127, w_Ref_count_129, c_110, f_110_0, p_110_0, f_110_1, f_110_2, f_110_3, f_110_4, f_110_5, p_110_5, f_110_6, f_110_7, p_110_7, f_110_8, p_110_8, f_110_9, p_110_9, f_110_10, p_110_10, f_110_11, p_110_11, f_110_12, p_110_12, f_110_13, p_110_13, f_110_14, f_110_15, f_110_16, p_110_16, f_110_17, f_110_18, p_110_18, f_110_19, p_110_19, f_110_20, f_110_21, p_110_21, f_110_22, p_110_22, f_110_23, f_110_24, f_110_25, p_110_25, f_110_26, f_110_27, f_110_28, f_110_29, f_110_30, f_110_31, p_110_31, f_110_32, p_110_32, f_110_33, p_110_33, f_110_34, p_110_34, f_110_35, f_110_36, f_110_37, f_110_38, e_111, i_111, Option.some.injEq, exists_eq_left', exists_eq_left, Option.toList_some, Option.toList_none, List.cons_append, List.nil_append, true_and, and_true, Option.map_some, Option.map_none, show x_sw (nI 5) 0 [48, 55, 62, 69, 76, 83, 88, 96] 129 = 83 by decide, c1]
      · refine ⟨nI (wAc W).length, cAsk0 ?_, rAsk0 ?_⟩
        · intro d xs s hd hC; obtain ⟨⟨hT, hA, hn, hacts⟩, -⟩ := hC
          obtain ⟨d, rfl⟩ := x_1 (d := d) (by omega)
          rw [x_ev_in rfl (Nat.le_of_ble_eq_true rfl)]
          rw [show x_ent (x_nL g_M 181) [.ref 1, .int (nI 6)] = [some (.ref 1), some (.int (nI 6))] from rfl]
          simp only [w_Top_count_0, w_Top_count_48, w_Top_count_52, w_Top_count_55, w_Top_count_56, w_Top_count_60, w_Top_count_63, w_Top_count_64, w_Top_count_68, w_Top_count_71, w_Top_count_72, w_Top_count_76, w_Top_count_79, w_Top_count_80, w_Top_count_84, w_Top_count_87, w_Top_count_88, w_Top_count_92, w_Top_count_93, w_Top_count_97, w_Top_count_98, w_Top_count_102, w_Top_count_103, c_1, f_1_0, f_1_1, p_1_1, f_1_2, f_1_3, f_1_4, f_1_5, f_1_6, p_1_6, f_1_7, f_1_8, f_1_9, f_1_10, f_1_11, f_1_12, f_1_13, f_1_14, c_3, f_3_0, p_3_0, f_3_1, p_3_1, f_3_2, p_3_2, f_3_3, p_3_3, f_3_4, p_3_4, f_3_5, p_3_5, f_3_6, p_3_6, f_3_7, p_3_7, f_3_8, p_3_8, f_3_9, f_3_10, f_3_11, f_3_12, f_3_13, Option.some.injEq, exists_eq_left', exists_eq_left, Option.toList_some, Option.toList_none, List.cons_append, List.nil_append, true_and, and_true, Option.map_some, Option.map_none, show x_sw (nI 6) 0 [48, 56, 64, 72, 80, 88, 93, 98] 103 = 93 by decide, hn]
        · intro d xs s hd hC; obtain ⟨hR, -⟩ := hC; have hT := hR.1
          have hx : x_rd (s.1 111) 135 6 = some (nI (wAc W).length) := (hw s 6 (by omega)).trans (congrArg some hR.2.1)
          obtain ⟨d, rfl⟩ := x_1 (d := d) (by omega)
          rw [x_ev_in rfl (Nat.le_of_ble_eq_true rfl)]
          rw [show x_ent (x_nL g_M 332) [.ref 110, .int (nI 6)] = [some (.ref 110), some (.int (nI 6)), none, none] from rfl]
          simp only [w_Ref_count_0, w_Ref_count_48, w_Ref_count_52, w_Ref_count_54, w_Ref_count_55, w_Ref_count_59, w_Ref_count_61, w_Ref_count_62, w_Ref_count_66, w_Ref_count_68, w_Ref_count_69, w_Ref_count_73, w_Ref_count_75, w_Ref_count_76, w_Ref_count_80, w_Ref_count_82, w_Ref_count_83, w_Ref_count_87, w_Ref_count_88, w_Ref_count_92, w_Ref_count_95, w_Ref_count_96, w_Ref_count_103, w_Ref_count_108, w_Ref_count_110, w_Ref_count_114, w_Ref_count_118, w_Ref_count_119, w_Ref_count_127, w_Ref_count_129, c_110, f_110_0, p_110_0, f_110_1, f_110_2, f_110_3, f_110_4, f_110_5, p_110_5, f_110_6, f_110_7, p_110_7, f_110_8, p_110_8, f_110_9, p_110_9, f_110_10, p_110_10, f_110_11, p_110_11, f_110_12, p_110_12, f_110_13, p_110_13, f_110_14, f_110_15, f_110_16, p_110_16, f_110_17, f_110_18, p_110_18, f_110_19, p_110_19, f_110_20, f_110_21, p_110_21, f_110_22, p_110_22, f_110_23, f_110_24, f_110_25, p_110_25, f_110_26, f_110_27, f_110_28, f_110_29, f_110_30, f_110_31, p_110_31, f_110_32, p_110_32, f_110_33, p_110_33, f_110_34, p_110_34, f_110_35, f_110_36, f_110_37, f_110_38, e_111, i_111, Option.some.injEq, exists_eq_left', exists_eq_left, Option.toList_some, Option.toList_none, List.cons_append, List.nil_append, true_and, and_true, Option.map_some, Option.map_none, show x_sw (nI 6) 0 [48, 55, 62, 69, 76, 83, 88, 96] 129 = 88 by decide, hx]
end ROWS2
