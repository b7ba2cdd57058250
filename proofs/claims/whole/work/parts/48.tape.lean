/-! feed, end, fault, count (own work) -/
section SLOTROWS
variable {xs : List Int32} {s : xS} {i : Nat}
theorem i4 (hi : i < 4) : i = 0 ∨ i = 1 ∨ i = 2 ∨ i = 3 := by omega
theorem sl_c (hi : i < 4) : x_cls (mkH xs s) (77 + 2 * i) 7 = true := by
  rcases i4 hi with rfl | rfl | rfl | rfl
  · exact c_77
  · exact c_79
  · exact c_81
  · exact c_83
theorem sl_0 (hi : i < 4) : x_fl (mkH xs s) (77 + 2 * i) 7 0 = some (.int (s.1 (77 + 2 * i) 0)) := by
  rcases i4 hi with rfl | rfl | rfl | rfl
  · exact f_77_0
  · exact f_79_0
  · exact f_81_0
  · exact f_83_0
theorem sl_1 (hi : i < 4) : x_fl (mkH xs s) (77 + 2 * i) 7 1 = some (.int (s.1 (77 + 2 * i) 1)) := by
  rcases i4 hi with rfl | rfl | rfl | rfl
  · exact f_77_1
  · exact f_79_1
  · exact f_81_1
  · exact f_83_1
theorem sl_2 (hi : i < 4) : x_fl (mkH xs s) (77 + 2 * i) 7 2 = some (.int (s.1 (77 + 2 * i) 2)) := by
  rcases i4 hi with rfl | rfl | rfl | rfl
  · exact f_77_2
  · exact f_79_2
  · exact f_81_2
  · exact f_83_2
theorem sl_3 (hi : i < 4) : x_fl (mkH xs s) (77 + 2 * i) 7 3 = some (.ref (78 + 2 * i)) := by
  rcases i4 hi with rfl | rfl | rfl | rfl
  · exact f_77_3
  · exact f_79_3
  · exact f_81_3
  · exact f_83_3
theorem sl_p0 (hi : i < 4) : x_fp (mkH xs s) (77 + 2 * i) 7 0 (.int 1) = some (mkH xs (s_p s (77 + 2 * i) 0 1)) := by
  rcases i4 hi with rfl | rfl | rfl | rfl
  · exact p_77_0_1
  · exact p_79_0_1
  · exact p_81_0_1
  · exact p_83_0_1
theorem sl_p1 (hi : i < 4) (v : Int32) : x_fp (mkH xs s) (77 + 2 * i) 7 1 (.int v) = some (mkH xs (s_p s (77 + 2 * i) 1 v)) := by
  rcases i4 hi with rfl | rfl | rfl | rfl
  · exact p_77_1 v
  · exact p_79_1 v
  · exact p_81_1 v
  · exact p_83_1 v
theorem sl_p2 (hi : i < 4) (v : Int32) : x_fp (mkH xs s) (77 + 2 * i) 7 2 (.int v) = some (mkH xs (s_p s (77 + 2 * i) 2 v)) := by
  rcases i4 hi with rfl | rfl | rfl | rfl
  · exact p_77_2 v
  · exact p_79_2 v
  · exact p_81_2 v
  · exact p_83_2 v
theorem sl_g (hi : i < 4) : ∀ s : xS, g_cell (78 + 2 * i) s = xL ((List.range 60).map (s.2 (78 + 2 * i))) := by
  intro s
  rcases i4 hi with rfl | rfl | rfl | rfl <;> rfl
theorem sl_e (hi : i < 4) (j : Int32) : x_le (mkH xs s) (78 + 2 * i) j = x_rd (s.2 (78 + 2 * i)) 60 j := mk_le (by omega) (by omega) (sl_g hi) j
theorem sl_i (hi : i < 4) (j : Int32) (v : Int64) : x_lp (mkH xs s) (78 + 2 * i) j v = (x_rd (s.2 (78 + 2 * i)) 60 j).map (fun _ => mkH xs (s_l s (78 + 2 * i) j.toNatClampNeg v)) := mk_lp (by omega) (by omega) (sl_g hi) j v
theorem sl_q (hi : i < 4) : x_rd (fun k => 77 + 2 * k) 4 (nI i) = some (77 + 2 * i) := x_rd_nI hi (by omega)
end SLOTROWS
/-- the TAPE and the FAULT are other ones -/
def wTape (W : Wd) (tp : Nat → Int32) (n : Nat) (fk fp : Int32) : Wd := (W.1, (tp, n, fk, fp), W.2.2)
theorem cW_tp {s s' : xS} {W : Wd} {tp : Nat → Int32} {n : Nat} {fk fp : Int32} (hC : cW s W) (h : ∀ q, q ≠ 1 → q ≠ 2 → q < 13 ∨ 76 ≤ q → s'.1 q = s.1 q) (h2 : ∀ q, 76 ≤ q → s'.2 q = s.2 q) (h6 : s'.1 1 6 = s.1 1 6) (h1 : s'.1 1 1 = nI n) (ht : ∀ i, i < 900 → s'.1 2 i = tp i) (hk : s'.1 13 6 = fk) (hp : s'.1 13 7 = fp) : cW s' (wTape W tp n fk fp) := by
  obtain ⟨⟨c1, c2, c3, c4⟩, -, e, f⟩ := hC
  refine ⟨⟨clsT_at (fun q a b => h q (by omega) (by omega) (by omega)) c1, clsS_at (fun q a b => h q (by omega) (by omega) (by omega)) c2, ?_, ?_⟩, ⟨h1, ht, hk, hp⟩, fun i hi => slC_at (h _ (by omega) (by omega) (by omega)) (h2 _ (by omega)) (e i hi), fun k hk => imC_at (fun q a b => h q (by omega) (by omega) (by omega)) (f k hk)⟩
  · rw [h6]; exact c3
  · rw [h 12 (by omega) (by omega) (by omega)]; exact c4
theorem rW_tp {s s' : xS} {W : Wd} {tp : Nat → Int32} {n : Nat} {fk fp : Int32} (hC : rW s W) (h : ∀ q, q ≠ 110 → q ≠ 114 → q < 115 ∨ 127 ≤ q → s'.1 q = s.1 q) (h2 : ∀ q, q ≠ 110 → q ≠ 130 → s'.2 q = s.2 q) (h1 : s'.1 110 5 = nI n) (ht : ∀ i, i < 900 → s'.1 114 i = tp i) (hk : s'.1 110 12 = fk) (hp : s'.1 110 13 = fp) : rW s' (wTape W tp n fk fp) := by
  obtain ⟨c1, -, e, f⟩ := hC
  exact ⟨refW_at (h 111 (by omega) (by omega) (by omega)) c1, ⟨h1, ht, hk, hp⟩, fun i hi => slR_at (by rw [h 127 (by omega) (by omega) (by omega)]) (by rw [h 128 (by omega) (by omega) (by omega)]) (fun j _ => by rw [h2 129 (by omega) (by omega)]) (e i hi), fun k hk => imR_at (h 112 (by omega) (by omega) (by omega)) (h 113 (by omega) (by omega) (by omega)) (f k hk)⟩
theorem wOk_tp {W : Wd} {tp : Nat → Int32} {n : Nat} {fk fp : Int32} (h : wOk W) (hn : n ≤ 900) (ht : ∀ i, -128 ≤ tp i ∧ tp i ≤ 127) : wOk (wTape W tp n fk fp) := ⟨h.1, h.2.1, h.2.2.1, hn, ht, h.2.2.2.2.2⟩
/-- a byte of four -/
def by8 (v : Int32) (k : Nat) : Int32 := x_nr 1 (Int32.toInt8 (v >>> (nI (24 - 8 * k) &&& 31))).toInt32
theorem by8_ok (v : Int32) (k : Nat) : -128 ≤ by8 v k ∧ by8 v k ≤ 127 := by
  have h : ∀ x : Int32, -128 ≤ x_nr 1 x ∧ x_nr 1 x ≤ 127 := by
    intro x
    have e : x_nr 1 x = x.toInt8.toInt32 := rfl
    rw [e, Int32.le_iff_toInt_le, Int32.le_iff_toInt_le, Int8.toInt_toInt32]
    have h1 := Int8.le_toInt x.toInt8
    have h2 := Int8.toInt_lt x.toInt8
    have e1 : (-128 : Int32).toInt = -128 := rfl
    have e2 : (127 : Int32).toInt = 127 := rfl
    omega
  exact h _
def shf : Nat → Int32
  | 0 => 24
  | j + 1 => shf j + (-8)
theorem shf_p : ∀ j, j < 4 → ¬ shf j < 0 ∧ shf j = nI (24 - 8 * j) := by decide
def fv (a b c d e : Int32) : Nat → Int32
  | 0 => a
  | 1 => b
  | 2 => c
  | 3 => d
  | _ => e
def fdT (t : Nat → Int32) (n : Nat) (f : Nat → Int32) (N : Nat) (i : Nat) : Int32 := if n ≤ i ∧ i < n + N then by8 (f ((i - n) / 4)) ((i - n) % 4) else t i
theorem fdT_4 {t t' : Nat → Int32} {n j : Nat} {f : Nat → Int32} {v : Int32} (hv : f j = v) (h : ∀ i, t' i = if n + 4 * j ≤ i ∧ i < n + 4 * j + 4 then by8 v (i - (n + 4 * j)) else fdT t n f (4 * j) i) : ∀ i, t' i = fdT t n f (4 * (j + 1)) i := by
  intro i
  rw [h i]
  unfold fdT
  by_cases h1 : n + 4 * j ≤ i ∧ i < n + 4 * j + 4
  · rw [if_pos h1, if_pos (by omega), show (i - n) / 4 = j by omega, show (i - n) % 4 = i - (n + 4 * j) by omega, hv]
  · rw [if_neg h1]
    by_cases h2 : n ≤ i ∧ i < n + 4 * j
    · rw [if_pos h2, if_pos (by omega)]
    · rw [if_neg h2, if_neg (by omega)]
section TAPE
variable {P : Nat → List Value → Option Value} {d : Nat} {xs : List Int32} {s : xS}
set_option maxHeartbeats 4000000 in
theorem s_putBytes (hd : 1 ≤ d) {n : Nat} (h1 : s.1 1 1 = nI n) (hn : n + 4 ≤ 900) (v : Int32) : ∃ s', x_ev g_M P d 111 [.ref 1, .int v] (mkH xs s) (none, mkH xs s') ∧ (∀ q, q ≠ 1 → q ≠ 2 → s'.1 q = s.1 q) ∧ (∀ k, k ≠ 1 → s'.1 1 k = s.1 1 k) ∧ s'.1 1 1 = nI (n + 4) ∧ (∀ i, s'.1 2 i = if n ≤ i ∧ i < n + 4 then by8 v (i - n) else s.1 2 i) ∧ s'.2 = s.2 := by
  obtain ⟨d, rfl⟩ := x_1 (d := d) (by omega)
  obtain ⟨s', ho, e⟩ := x_upY (C := x_ev g_M P d) (k := 111) (N := 4) (β := xS) (R := fun j z => (∀ q, q ≠ 1 → q ≠ 2 → z.1 q = s.1 q) ∧ (∀ k, k ≠ 1 → z.1 1 k = s.1 1 k) ∧ z.1 1 1 = nI (n + j) ∧ (∀ i, z.1 2 i = if n ≤ i ∧ i < n + j then by8 v (i - n) else s.1 2 i) ∧ z.2 = s.2) (F := fun j z => (3, [some (.ref 1), some (.int v), some (.int (shf j))], [], mkH xs z)) (fun j z hj ho => by
    obtain ⟨r1, r2, r3, r4, r5⟩ := ho
    obtain ⟨f1, f2⟩ := shf_p j hj
    have hx : x_rd (z.1 2) 900 (nI (n + j)) = some (z.1 2 (n + j)) := x_rd_nI (by omega) (by omega)
    refine ⟨s_p (s_p z 2 (n + j) (by8 v j)) 1 1 (nI (n + j + 1)), ⟨fun q a b => ?_, fun k a => ?_, ?_, fun i => ?_, r5⟩, fun r => ?_⟩
    · rw [← r1 q a b]
      funext k
      simp [s_p, a, b]
    · rw [← r2 k a]
      simp [s_p, a]
    · simp [s_p, Nat.add_assoc]
    · by_cases hi : i = n + j
      · subst hi
        rw [if_pos (by omega), show n + j - n = j by omega]
        simp [s_p]
      · have : (n ≤ i ∧ i < n + (j + 1)) ↔ (n ≤ i ∧ i < n + j) := by omega
        simp only [this, ← r4 i]
        simp [s_p, hi]
    · have e3 : (s_p z 2 (n + j) (by8 v j)).1 1 1 = nI (n + j) := by simp [s_p, r3]
      have hv : x_nr 1 (Int32.toInt8 (v >>> (shf j &&& 31))).toInt32 = by8 v j := by rw [f2]; rfl
      have e9 : shf (j + 1) = shf j + (-8) := rfl
      simp only [w_Top_putBytes_0, w_Top_putBytes_7, w_Top_putBytes_11, w_Top_putBytes_15, w_Top_putBytes_20, w_Top_putBytes_25, w_Top_putBytes_30, w_Top_putBytes_36, w_Top_putBytes_3 (l2 := shf j), f1, if_false, c_1, f_1_0, f_1_1, p_1_1, f_1_2, f_1_3, f_1_4, f_1_5, f_1_6, p_1_6, f_1_7, f_1_8, f_1_9, f_1_10, f_1_11, f_1_12, f_1_13, f_1_14, e_2, i_2, Option.some.injEq, exists_eq_left', exists_eq_left, Option.toList_some, Option.toList_none, List.cons_append, List.nil_append, true_and, and_true, Option.map_some, Option.map_none, r3, hx, nI_clamp (show n + j < 2 ^ 31 by omega), hv, e3, nI_1, e9]) 4 0 s (by omega) ⟨fun _ _ _ => rfl, fun _ _ => rfl, h1, fun i => by rw [if_neg (by omega)], rfl⟩
  obtain ⟨r1, r2, r3, r4, r5⟩ := ho
  refine ⟨s', ?_, r1, r2, r3, r4, r5⟩
  rw [x_ev_in rfl (Nat.le_of_ble_eq_true rfl)]
  rw [show x_ent (x_nL g_M 111) [.ref 1, .int v] = [some (.ref 1), some (.int v), none] from rfl]
  rw [w_Top_putBytes_0]
  refine (e _).mpr ?_
  simp only [w_Top_putBytes_3 (l2 := shf 4), w_Top_putBytes_36, show shf 4 < 0 by decide, if_true]
set_option maxHeartbeats 4000000 in
theorem s_feed (hd : 2 ≤ d) {n : Nat} (h1 : s.1 1 1 = nI n) (hn : n + 20 ≤ 900) (a b c d' e : Int32) : ∃ s', x_ev g_M P d 110 [.ref 1, .int a, .int b, .int c, .int d', .int e] (mkH xs s) (some (.int (nI (n + 20))), mkH xs s') ∧ (∀ q, q ≠ 1 → q ≠ 2 → s'.1 q = s.1 q) ∧ (∀ k, k ≠ 1 → s'.1 1 k = s.1 1 k) ∧ s'.1 1 1 = nI (n + 20) ∧ (∀ i, s'.1 2 i = fdT (s.1 2) n (fv a b c d' e) 20 i) ∧ s'.2 = s.2 := by
  obtain ⟨d, rfl⟩ := x_1 (d := d) (by omega)
  obtain ⟨s1, q1, a1, b1, c1, d1, e1⟩ := s_putBytes (P := P) (d := d) (xs := xs) (by omega) h1 (by omega) a
  obtain ⟨s2, q2, a2, b2, c2, d2, e2⟩ := s_putBytes (P := P) (d := d) (xs := xs) (by omega) c1 (by omega) b
  obtain ⟨s3, q3, a3, b3, c3, d3, e3⟩ := s_putBytes (P := P) (d := d) (xs := xs) (by omega) c2 (by omega) c
  obtain ⟨s4, q4, a4, b4, c4, d4, e4⟩ := s_putBytes (P := P) (d := d) (xs := xs) (by omega) c3 (by omega) d'
  obtain ⟨s5, q5, a5, b5, c5, d5, e5⟩ := s_putBytes (P := P) (d := d) (xs := xs) (by omega) c4 (by omega) e
  have g0 : ∀ i, s.1 2 i = fdT (s.1 2) n (fv a b c d' e) (4 * 0) i := fun i => by unfold fdT; rw [if_neg (by omega)]
  have g1 := fdT_4 (t := s.1 2) (t' := s1.1 2) (n := n) (j := 0) (f := fv a b c d' e) (v := a) rfl (fun i => by rw [d1 i, ← g0 i]; rfl)
  have g2 := fdT_4 (t := s.1 2) (t' := s2.1 2) (n := n) (j := 1) (f := fv a b c d' e) (v := b) rfl (fun i => by rw [d2 i, ← g1 i])
  have g3 := fdT_4 (t := s.1 2) (t' := s3.1 2) (n := n) (j := 2) (f := fv a b c d' e) (v := c) rfl (fun i => by rw [d3 i, ← g2 i])
  have g4 := fdT_4 (t := s.1 2) (t' := s4.1 2) (n := n) (j := 3) (f := fv a b c d' e) (v := d') rfl (fun i => by rw [d4 i, ← g3 i])
  have g5 := fdT_4 (t := s.1 2) (t' := s5.1 2) (n := n) (j := 4) (f := fv a b c d' e) (v := e) rfl (fun i => by rw [d5 i, ← g4 i])
  refine ⟨s5, ?_, fun q x y => ?_, fun k x => ?_, c5, g5, ?_⟩
  · have hc : nI n + 20 ≤ 900 := by
      rw [show (20 : Int32) = nI 20 from rfl, nI_add]
      exact nI_le (b := 900) (by omega) (by omega)
    rw [x_ev_in rfl (Nat.le_of_ble_eq_true rfl)]
    rw [show x_ent (x_nL g_M 110) [.ref 1, .int a, .int b, .int c, .int d', .int e] = [some (.ref 1), some (.int a), some (.int b), some (.int c), some (.int d'), some (.int e)] from rfl]
    simp only [w_Top_feed_0, w_Top_feed_4, w_Top_feed_13, w_Top_feed_15, w_Top_feed_20, w_Top_feed_25, w_Top_feed_30, w_Top_feed_36, w_Top_feed_42, w_Top_feed_46, c_1, f_1_0, f_1_1, p_1_1, f_1_2, f_1_3, f_1_4, f_1_5, f_1_6, p_1_6, f_1_7, f_1_8, f_1_9, f_1_10, f_1_11, f_1_12, f_1_13, f_1_14, Option.some.injEq, exists_eq_left', exists_eq_left, Option.toList_some, Option.toList_none, List.cons_append, List.nil_append, true_and, and_true, Option.map_some, Option.map_none, h1, hc, if_true, x_ev_iff q1, x_ev_iff q2, x_ev_iff q3, x_ev_iff q4, x_ev_iff q5, c5]
  · rw [a5 q x y, a4 q x y, a3 q x y, a2 q x y, a1 q x y]
  · rw [b5 k x, b4 k x, b3 k x, b2 k x, b1 k x]
  · rw [e5, e4, e3, e2, e1]
set_option maxHeartbeats 4000000 in
theorem r_feed (hd : 2 ≤ d) {n : Nat} (h1 : s.1 110 5 = nI n) (hn : n + 20 ≤ 900) (a b c d' e : Int32) : ∃ s', x_ev g_M P d 206 [.ref 110, .int a, .int b, .int c, .int d', .int e] (mkH xs s) (some (.int (nI (n + 20))), mkH xs s') ∧ (∀ q, q ≠ 110 → q ≠ 114 → q ≠ 115 → s'.1 q = s.1 q) ∧ (∀ k, k ≠ 5 → s'.1 110 k = s.1 110 k) ∧ s'.1 110 5 = nI (n + 20) ∧ (∀ i, s'.1 114 i = fdT (s.1 114) n (fv a b c d' e) 20 i) ∧ s'.2 = s.2 := by
  obtain ⟨d, rfl⟩ := x_1 (d := d) (by omega)
  generalize hz0 : s_p (s_p (s_p (s_p (s_p s 115 0 a) 115 1 b) 115 2 c) 115 3 d') 115 4 e = z0
  have z5 : ∀ j, j < 5 → z0.1 115 j = fv a b c d' e j := by
    intro j hj
    rcases (show j = 0 ∨ j = 1 ∨ j = 2 ∨ j = 3 ∨ j = 4 by omega) with rfl | rfl | rfl | rfl | rfl <;> subst hz0 <;> simp [s_p, fv]
  have zo : ∀ q, q ≠ 115 → z0.1 q = s.1 q := fun q hq => by
    subst hz0
    funext k
    simp [s_p, hq]
  have zl : z0.2 = s.2 := by subst hz0; rfl
  obtain ⟨z, ho, ee⟩ := x_upY (C := x_ev g_M P d) (k := 206) (N := 20) (β := xS) (R := fun k z => (∀ q, q ≠ 114 → z.1 q = z0.1 q) ∧ (∀ i, z.1 114 i = fdT (s.1 114) n (fv a b c d' e) k i) ∧ z.2 = s.2) (F := fun k z => (55, [some (.ref 110), some (.int a), some (.int b), some (.int c), some (.int d'), some (.int e), some (.int (nI k))], [], mkH xs z)) (fun k z hk ho => by
    obtain ⟨r1, r2, r3⟩ := ho
    have hc : ¬ 20 ≤ nI k := nI_ge (b := 20) hk (by omega)
    have hy : z.1 110 5 = nI n := by rw [r1 110 (by omega), zo 110 (by omega)]; exact h1
    have hx : x_rd (z.1 114) 900 (nI (n + k)) = some (z.1 114 (n + k)) := x_rd_nI (by omega) (by omega)
    have h5 : x_rd (z.1 115) 5 (nI (k / 4)) = some (fv a b c d' e (k / 4)) := by rw [x_rd_nI (by omega) (by omega), r1 115 (by omega), z5 _ (by omega)]
    have m1 : nI k / 4 = nI (k / 4) := pk_div (d := 4) (by omega) (by omega) (by omega)
    have m2 : nI k - nI (k / 4) * 4 = nI (k % 4) := by rw [← m1]; exact pk_rem (d := 4) (by omega) (by omega) (by omega)
    have m3 : 24 - 8 * nI (k % 4) = nI (24 - 8 * (k % 4)) := by
      rw [show (8 : Int32) = nI 8 from rfl, pk_mul, show (24 : Int32) = nI 24 from rfl, pk_sub (by omega)]
    have hv : x_nr 1 (Int32.toInt8 (fv a b c d' e (k / 4) >>> (nI (24 - 8 * (k % 4)) &&& 31))).toInt32 = by8 (fv a b c d' e (k / 4)) (k % 4) := rfl
    refine ⟨s_p z 114 (n + k) (by8 (fv a b c d' e (k / 4)) (k % 4)), ⟨fun q hq => ?_, fun i => ?_, r3⟩, fun r => ?_⟩
    · rw [← r1 q hq]
      funext j
      simp [s_p, hq]
    · by_cases hi : i = n + k
      · subst hi
        unfold fdT
        rw [if_pos (by omega), show n + k - n = k by omega]
        simp [s_p]
      · have e1 : (s_p z 114 (n + k) (by8 (fv a b c d' e (k / 4)) (k % 4))).1 114 i = z.1 114 i := by simp [s_p, hi]
        rw [e1, r2 i]
        unfold fdT
        have : (n ≤ i ∧ i < n + (k + 1)) ↔ (n ≤ i ∧ i < n + k) := by omega
        simp only [this]
    · simp only [w_Ref_feed_0, w_Ref_feed_4, w_Ref_feed_13, w_Ref_feed_15, w_Ref_feed_19, w_Ref_feed_22, w_Ref_feed_26, w_Ref_feed_29, w_Ref_feed_33, w_Ref_feed_36, w_Ref_feed_40, w_Ref_feed_44, w_Ref_feed_48, w_Ref_feed_52, w_Ref_feed_62, w_Ref_feed_66, w_Ref_feed_70, w_Ref_feed_77, w_Ref_feed_81, w_Ref_feed_82, w_Ref_feed_90, w_Ref_feed_95, w_Ref_feed_101, w_Ref_feed_106, w_Ref_feed_112, w_Ref_feed_116, w_Ref_feed_55 (l6 := nI k), hc, if_false, c_110, f_110_0, p_110_0, f_110_1, f_110_2, f_110_3, f_110_4, f_110_5, p_110_5, f_110_6, f_110_7, p_110_7, f_110_8, p_110_8, f_110_9, p_110_9, f_110_10, p_110_10, f_110_11, p_110_11, f_110_12, p_110_12, f_110_13, p_110_13, f_110_14, f_110_15, f_110_16, p_110_16, f_110_17, f_110_18, p_110_18, f_110_19, p_110_19, f_110_20, f_110_21, p_110_21, f_110_22, p_110_22, f_110_23, f_110_24, f_110_25, p_110_25, f_110_26, f_110_27, f_110_28, f_110_29, f_110_30, f_110_31, p_110_31, f_110_32, p_110_32, f_110_33, p_110_33, f_110_34, p_110_34, f_110_35, f_110_36, f_110_37, f_110_38, e_114, i_114, e_115, i_115, Option.some.injEq, exists_eq_left', exists_eq_left, Option.toList_some, Option.toList_none, List.cons_append, List.nil_append, true_and, and_true, Option.map_some, Option.map_none, hy, nI_add, hx, h5, m1, m2, m3, hv, show ¬ ((4 : Int32) = 0) by decide, not_false_eq_true, nI_clamp (show n + k < 2 ^ 31 by omega), nI_1]) 20 0 z0 (by omega) ⟨fun _ _ => rfl, fun i => by
      unfold fdT
      rw [if_neg (by omega), zo 114 (by omega)], zl⟩
  obtain ⟨r1, r2, r3⟩ := ho
  have hy : z.1 110 5 = nI n := by rw [r1 110 (by omega), zo 110 (by omega)]; exact h1
  refine ⟨s_p z 110 5 (nI (n + 20)), ?_, fun q x y w => ?_, fun k x => ?_, by simp [s_p], fun i => ?_, r3⟩
  · have hc : nI n + 20 ≤ 900 := by
      rw [show (20 : Int32) = nI 20 from rfl, nI_add]
      exact nI_le (b := 900) (by omega) (by omega)
    have e5 : (s_p z 110 5 (nI (n + 20))).1 110 5 = nI (n + 20) := by simp [s_p]
    have e20 : nI n + 20 = nI (n + 20) := nI_add n 20
    have w0 : x_rd (s.1 115) 5 0 = some (s.1 115 0) := rfl
    have w1 : x_rd ((s_p s 115 0 a).1 115) 5 1 = some ((s_p s 115 0 a).1 115 1) := rfl
    have w2 : x_rd ((s_p (s_p s 115 0 a) 115 1 b).1 115) 5 2 = some ((s_p (s_p s 115 0 a) 115 1 b).1 115 2) := rfl
    have w3 : x_rd ((s_p (s_p (s_p s 115 0 a) 115 1 b) 115 2 c).1 115) 5 3 = some ((s_p (s_p (s_p s 115 0 a) 115 1 b) 115 2 c).1 115 3) := rfl
    have w4 : x_rd ((s_p (s_p (s_p (s_p s 115 0 a) 115 1 b) 115 2 c) 115 3 d').1 115) 5 4 = some ((s_p (s_p (s_p (s_p s 115 0 a) 115 1 b) 115 2 c) 115 3 d').1 115 4) := rfl
    rw [x_ev_in rfl (Nat.le_of_ble_eq_true rfl)]
    rw [show x_ent (x_nL g_M 206) [.ref 110, .int a, .int b, .int c, .int d', .int e] = [some (.ref 110), some (.int a), some (.int b), some (.int c), some (.int d'), some (.int e), none] from rfl]
    simp only [w_Ref_feed_0, w_Ref_feed_4, w_Ref_feed_13, w_Ref_feed_15, w_Ref_feed_19, w_Ref_feed_22, w_Ref_feed_26, w_Ref_feed_29, w_Ref_feed_33, w_Ref_feed_36, w_Ref_feed_40, w_Ref_feed_44, w_Ref_feed_48, w_Ref_feed_52, w_Ref_feed_62, w_Ref_feed_66, w_Ref_feed_70, w_Ref_feed_77, w_Ref_feed_81, w_Ref_feed_82, w_Ref_feed_90, w_Ref_feed_95, w_Ref_feed_101, w_Ref_feed_106, w_Ref_feed_112, w_Ref_feed_116, c_110, f_110_0, p_110_0, f_110_1, f_110_2, f_110_3, f_110_4, f_110_5, p_110_5, f_110_6, f_110_7, p_110_7, f_110_8, p_110_8, f_110_9, p_110_9, f_110_10, p_110_10, f_110_11, p_110_11, f_110_12, p_110_12, f_110_13, p_110_13, f_110_14, f_110_15, f_110_16, p_110_16, f_110_17, f_110_18, p_110_18, f_110_19, p_110_19, f_110_20, f_110_21, p_110_21, f_110_22, p_110_22, f_110_23, f_110_24, f_110_25, p_110_25, f_110_26, f_110_27, f_110_28, f_110_29, f_110_30, f_110_31, p_110_31, f_110_32, p_110_32, f_110_33, p_110_33, f_110_34, p_110_34, f_110_35, f_110_36, f_110_37, f_110_38, e_115, i_115, Option.some.injEq, exists_eq_left', exists_eq_left, Option.toList_some, Option.toList_none, List.cons_append, List.nil_append, true_and, and_true, Option.map_some, Option.map_none, h1, hc, if_true, w0, w1, w2, w3, w4, show (0 : Int32).toNatClampNeg = 0 by decide, show (1 : Int32).toNatClampNeg = 1 by decide, show (2 : Int32).toNatClampNeg = 2 by decide, show (3 : Int32).toNatClampNeg = 3 by decide, show (4 : Int32).toNatClampNeg = 4 by decide, hz0]
    refine (ee _).mpr ?_
    simp only [w_Ref_feed_0, w_Ref_feed_4, w_Ref_feed_13, w_Ref_feed_15, w_Ref_feed_19, w_Ref_feed_22, w_Ref_feed_26, w_Ref_feed_29, w_Ref_feed_33, w_Ref_feed_36, w_Ref_feed_40, w_Ref_feed_44, w_Ref_feed_48, w_Ref_feed_52, w_Ref_feed_62, w_Ref_feed_66, w_Ref_feed_70, w_Ref_feed_77, w_Ref_feed_81, w_Ref_feed_82, w_Ref_feed_90, w_Ref_feed_95, w_Ref_feed_101, w_Ref_feed_106, w_Ref_feed_112, w_Ref_feed_116, w_Ref_feed_55 (l6 := nI 20), show (20 : Int32) ≤ nI 20 from Int32.le_refl _, if_true, c_110, f_110_0, p_110_0, f_110_1, f_110_2, f_110_3, f_110_4, f_110_5, p_110_5, f_110_6, f_110_7, p_110_7, f_110_8, p_110_8, f_110_9, p_110_9, f_110_10, p_110_10, f_110_11, p_110_11, f_110_12, p_110_12, f_110_13, p_110_13, f_110_14, f_110_15, f_110_16, p_110_16, f_110_17, f_110_18, p_110_18, f_110_19, p_110_19, f_110_20, f_110_21, p_110_21, f_110_22, p_110_22, f_110_23, f_110_24, f_110_25, p_110_25, f_110_26, f_110_27, f_110_28, f_110_29, f_110_30, f_110_31, p_110_31, f_110_32, p_110_32, f_110_33, p_110_33, f_110_34, p_110_34, f_110_35, f_110_36, f_110_37, f_110_38, Option.some.injEq, exists_eq_left', exists_eq_left, Option.toList_some, Option.toList_none, List.cons_append, List.nil_append, true_and, and_true, Option.map_some, Option.map_none, hy, e20, e5]
  · have : ¬ q = 110 := x
    rw [← zo q w, ← r1 q y]
    funext k
    simp [s_p, x]
  · have : (s_p z 110 5 (nI (n + 20))).1 110 k = z.1 110 k := by simp [s_p, x]
    rw [this, r1 110 (by omega), zo 110 (by omega)]
  · have : (s_p z 110 5 (nI (n + 20))).1 114 i = z.1 114 i := by simp [s_p]
    rw [this, r2 i]
end TAPE
section TAPE2
variable {P : Nat → List Value → Option Value} {W : Wd}
theorem fdT_ext {t t' : Nat → Int32} {n N i : Nat} {f : Nat → Int32} (h : t i = t' i) : fdT t n f N i = fdT t' n f N i := by unfold fdT; rw [h]
set_option maxHeartbeats 4000000 in
theorem k_feed (h : wOk W) (a b c d' e : Int32) : do2 P 110 206 [.int a, .int b, .int c, .int d', .int e] W := by
  by_cases hn : wTn W + 20 ≤ 900
  · refine ⟨wTape W (fdT (wTp W) (wTn W) (fv a b c d' e) 20) (wTn W + 20) (wFk W) (wFp W), nI (wTn W + 20), wOk_tp h hn (fun i => ?_), ?_, ?_⟩
    · unfold fdT
      split
      · exact by8_ok _ _
      · exact h.2.2.2.2.1 i
    · intro d xs s hd hC
      obtain ⟨-, ⟨c1, c2, c3, c4⟩, -⟩ := id hC
      obtain ⟨s', q1, q2, q3, q4, q5, q6⟩ := s_feed (P := P) (d := d) (xs := xs) (by omega) c1 hn a b c d' e
      exact ⟨s', q1, cW_tp hC (fun q x y _ => q2 q x y) (fun q _ => by rw [q6]) (q3 6 (by omega)) q4 (fun i hi => by rw [q5 i]; exact fdT_ext (c2 i hi)) (by rw [q2 13 (by omega) (by omega)]; exact c3) (by rw [q2 13 (by omega) (by omega)]; exact c4), fun q hq => ⟨q2 q (by omega) (by omega), by rw [q6]⟩⟩
    · intro d xs s hd hC
      obtain ⟨-, ⟨c1, c2, c3, c4⟩, -⟩ := id hC
      obtain ⟨s', q1, q2, q3, q4, q5, q6⟩ := r_feed (P := P) (d := d) (xs := xs) (by omega) c1 hn a b c d' e
      exact ⟨s', q1, rW_tp hC (fun q x y z => q2 q x y (by omega)) (fun q _ _ => by rw [q6]) q4 (fun i hi => by rw [q5 i]; exact fdT_ext (c2 i hi)) (by rw [q3 12 (by omega)]; exact c3) (by rw [q3 13 (by omega)]; exact c4), fun q hq => ⟨q2 q (by omega) (by omega) (by omega), by rw [q6]⟩⟩
  · have h9 := h.2.2.2.1
    have hc : ¬ nI (wTn W) + 20 ≤ 900 := by
      rw [show (20 : Int32) = nI 20 from rfl, nI_add]
      exact nI_ge (b := wTn W + 20) (a := 900) (by omega) (by omega)
    refine ask2.do h ⟨-1, cAsk0 ?_, rAsk0 ?_⟩
    · intro d xs s hd hC
      obtain ⟨-, ⟨c1, c2, c3, c4⟩, -⟩ := id hC
      obtain ⟨d, rfl⟩ := x_1 (d := d) (by omega)
      rw [x_ev_in rfl (Nat.le_of_ble_eq_true rfl)]
      rw [show x_ent (x_nL g_M 110) [.ref 1, .int a, .int b, .int c, .int d', .int e] = [some (.ref 1), some (.int a), some (.int b), some (.int c), some (.int d'), some (.int e)] from rfl]
      simp only [w_Top_feed_0, w_Top_feed_4, w_Top_feed_13, w_Top_feed_15, w_Top_feed_20, w_Top_feed_25, w_Top_feed_30, w_Top_feed_36, w_Top_feed_42, w_Top_feed_46, c_1, f_1_0, f_1_1, p_1_1, f_1_2, f_1_3, f_1_4, f_1_5, f_1_6, p_1_6, f_1_7, f_1_8, f_1_9, f_1_10, f_1_11, f_1_12, f_1_13, f_1_14, Option.some.injEq, exists_eq_left', exists_eq_left, Option.toList_some, Option.toList_none, List.cons_append, List.nil_append, true_and, and_true, Option.map_some, Option.map_none, c1, hc, if_false]
    · intro d xs s hd hC
      obtain ⟨-, ⟨c1, c2, c3, c4⟩, -⟩ := id hC
      obtain ⟨d, rfl⟩ := x_1 (d := d) (by omega)
      rw [x_ev_in rfl (Nat.le_of_ble_eq_true rfl)]
      rw [show x_ent (x_nL g_M 206) [.ref 110, .int a, .int b, .int c, .int d', .int e] = [some (.ref 110), some (.int a), some (.int b), some (.int c), some (.int d'), some (.int e), none] from rfl]
      simp only [w_Ref_feed_0, w_Ref_feed_4, w_Ref_feed_13, w_Ref_feed_15, w_Ref_feed_19, w_Ref_feed_22, w_Ref_feed_26, w_Ref_feed_29, w_Ref_feed_33, w_Ref_feed_36, w_Ref_feed_40, w_Ref_feed_44, w_Ref_feed_48, w_Ref_feed_52, w_Ref_feed_62, w_Ref_feed_66, w_Ref_feed_70, w_Ref_feed_77, w_Ref_feed_81, w_Ref_feed_82, w_Ref_feed_90, w_Ref_feed_95, w_Ref_feed_101, w_Ref_feed_106, w_Ref_feed_112, w_Ref_feed_116, c_110, f_110_0, p_110_0, f_110_1, f_110_2, f_110_3, f_110_4, f_110_5, p_110_5, f_110_6, f_110_7, p_110_7, f_110_8, p_110_8, f_110_9, p_110_9, f_110_10, p_110_10, f_110_11, p_110_11, f_110_12, p_110_12, f_110_13, p_110_13, f_110_14, f_110_15, f_110_16, p_110_16, f_110_17, f_110_18, p_110_18, f_110_19, p_110_19, f_110_20, f_110_21, p_110_21, f_110_22, p_110_22, f_110_23, f_110_24, f_110_25, p_110_25, f_110_26, f_110_27, f_110_28, f_110_29, f_110_30, f_110_31, p_110_31, f_110_32, p_110_32, f_110_33, p_110_33, f_110_34, p_110_34, f_110_35, f_110_36, f_110_37, f_110_38, Option.some.injEq, exists_eq_left', exists_eq_left, Option.toList_some, Option.toList_none, List.cons_append, List.nil_append, true_and, and_true, Option.map_some, Option.map_none, c1, hc, if_false]
set_option maxHeartbeats 4000000 in
theorem k_end (h : wOk W) (x : Int32) : do2 P 112 207 [.int x] W := by
  have h9 := h.2.2.2.1
  have e0 : x.toInt64 < 0 ↔ x < 0 := w_lt x 0
  by_cases h1 : x < 0
  · refine ask2.do h ⟨-1, cAsk0 ?_, rAsk0 ?_⟩
    · intro d xs s hd hC
      obtain ⟨d, rfl⟩ := x_1 (d := d) (by omega)
      rw [x_ev_in rfl (Nat.le_of_ble_eq_true rfl)]
      rw [show x_ent (x_nL g_M 112) [.ref 1, .int x] = [some (.ref 1), some (.int x)] from rfl]
      simp only [w_Top_end_0, w_Top_end_4, w_Top_end_9, w_Top_end_12, w_Top_end_14, w_Top_end_19, h1, if_true]
    · intro d xs s hd hC
      obtain ⟨d, rfl⟩ := x_1 (d := d) (by omega)
      rw [x_ev_in rfl (Nat.le_of_ble_eq_true rfl)]
      rw [show x_ent (x_nL g_M 207) [.ref 110, .int x] = [some (.ref 110), some (.int x)] from rfl]
      simp only [w_Ref_end_0, w_Ref_end_7, w_Ref_end_11, w_Ref_end_14, w_Ref_end_16, w_Ref_end_21, c_110, f_110_0, p_110_0, f_110_1, f_110_2, f_110_3, f_110_4, f_110_5, p_110_5, f_110_6, f_110_7, p_110_7, f_110_8, p_110_8, f_110_9, p_110_9, f_110_10, p_110_10, f_110_11, p_110_11, f_110_12, p_110_12, f_110_13, p_110_13, f_110_14, f_110_15, f_110_16, p_110_16, f_110_17, f_110_18, p_110_18, f_110_19, p_110_19, f_110_20, f_110_21, p_110_21, f_110_22, p_110_22, f_110_23, f_110_24, f_110_25, p_110_25, f_110_26, f_110_27, f_110_28, f_110_29, f_110_30, f_110_31, p_110_31, f_110_32, p_110_32, f_110_33, p_110_33, f_110_34, p_110_34, f_110_35, f_110_36, f_110_37, f_110_38, Option.some.injEq, exists_eq_left', exists_eq_left, Option.toList_some, Option.toList_none, List.cons_append, List.nil_append, true_and, and_true, Option.map_some, Option.map_none, r_in (d := d) (by omega), e0, h1, if_true, not_true_eq_false, if_false]
  · obtain ⟨n, hn, rfl⟩ := nI_of h1
    by_cases h2 : n ≤ wTn W
    · have g1 : nI n ≤ nI (wTn W) := nI_le h2 (by omega)
      have g2 : ¬ nI (wTn W) < nI n := nI_nlt h2 (by omega)
      refine ⟨wTape W (wTp W) n (wFk W) (wFp W), nI n, wOk_tp h (by omega) h.2.2.2.2.1, ?_, ?_⟩
      · intro d xs s hd hC
        obtain ⟨-, ⟨c1, c2, c3, c4⟩, -⟩ := id hC
        refine ⟨s_p s 1 1 (nI n), ?_, cW_tp hC (fun q x y _ => by funext k; simp [s_p, x]) (fun q _ => rfl) (by simp [s_p]) (by simp [s_p]) (fun i hi => by rw [← c2 i hi]; simp [s_p]) (by rw [← c3]; simp [s_p]) (by rw [← c4]; simp [s_p]), fun q hq => ⟨by
          funext k
          have : ¬ q = 1 := by omega
          simp [s_p, this], rfl⟩⟩
        obtain ⟨d, rfl⟩ := x_1 (d := d) (by omega)
        rw [x_ev_in rfl (Nat.le_of_ble_eq_true rfl)]
        rw [show x_ent (x_nL g_M 112) [.ref 1, .int (nI n)] = [some (.ref 1), some (.int (nI n))] from rfl]
        simp only [w_Top_end_0, w_Top_end_4, w_Top_end_9, w_Top_end_12, w_Top_end_14, w_Top_end_19, c_1, f_1_0, f_1_1, p_1_1, f_1_2, f_1_3, f_1_4, f_1_5, f_1_6, p_1_6, f_1_7, f_1_8, f_1_9, f_1_10, f_1_11, f_1_12, f_1_13, f_1_14, Option.some.injEq, exists_eq_left', exists_eq_left, Option.toList_some, Option.toList_none, List.cons_append, List.nil_append, true_and, and_true, Option.map_some, Option.map_none, h1, if_false, c1, g1, if_true]
      · intro d xs s hd hC
        obtain ⟨-, ⟨c1, c2, c3, c4⟩, -⟩ := id hC
        refine ⟨s_p s 110 5 (nI n), ?_, rW_tp hC (fun q x y _ => by funext k; simp [s_p, x]) (fun q _ _ => rfl) (by simp [s_p]) (fun i hi => by rw [← c2 i hi]; simp [s_p]) (by rw [← c3]; simp [s_p]) (by rw [← c4]; simp [s_p]), fun q hq => ⟨by
          funext k
          have : ¬ q = 110 := by omega
          simp [s_p, this], rfl⟩⟩
        obtain ⟨d, rfl⟩ := x_1 (d := d) (by omega)
        rw [x_ev_in rfl (Nat.le_of_ble_eq_true rfl)]
        rw [show x_ent (x_nL g_M 207) [.ref 110, .int (nI n)] = [some (.ref 110), some (.int (nI n))] from rfl]
        simp only [w_Ref_end_0, w_Ref_end_7, w_Ref_end_11, w_Ref_end_14, w_Ref_end_16, w_Ref_end_21, c_110, f_110_0, p_110_0, f_110_1, f_110_2, f_110_3, f_110_4, f_110_5, p_110_5, f_110_6, f_110_7, p_110_7, f_110_8, p_110_8, f_110_9, p_110_9, f_110_10, p_110_10, f_110_11, p_110_11, f_110_12, p_110_12, f_110_13, p_110_13, f_110_14, f_110_15, f_110_16, p_110_16, f_110_17, f_110_18, p_110_18, f_110_19, p_110_19, f_110_20, f_110_21, p_110_21, f_110_22, p_110_22, f_110_23, f_110_24, f_110_25, p_110_25, f_110_26, f_110_27, f_110_28, f_110_29, f_110_30, f_110_31, p_110_31, f_110_32, p_110_32, f_110_33, p_110_33, f_110_34, p_110_34, f_110_35, f_110_36, f_110_37, f_110_38, Option.some.injEq, exists_eq_left', exists_eq_left, Option.toList_some, Option.toList_none, List.cons_append, List.nil_append, true_and, and_true, Option.map_some, Option.map_none, r_in (d := d) (by omega), e0, h1, if_false, c1, w_lt, g2, show ¬ ((1 : Int32) = 0) by decide, not_false_eq_true, if_true]
    · have g1 : ¬ nI n ≤ nI (wTn W) := nI_ge (by omega) hn
      have g2 : nI (wTn W) < nI n := nI_lt (by omega) hn
      refine ask2.do h ⟨-1, cAsk0 ?_, rAsk0 ?_⟩
      · intro d xs s hd hC
        obtain ⟨-, ⟨c1, c2, c3, c4⟩, -⟩ := id hC
        obtain ⟨d, rfl⟩ := x_1 (d := d) (by omega)
        rw [x_ev_in rfl (Nat.le_of_ble_eq_true rfl)]
        rw [show x_ent (x_nL g_M 112) [.ref 1, .int (nI n)] = [some (.ref 1), some (.int (nI n))] from rfl]
        simp only [w_Top_end_0, w_Top_end_4, w_Top_end_9, w_Top_end_12, w_Top_end_14, w_Top_end_19, c_1, f_1_0, f_1_1, p_1_1, f_1_2, f_1_3, f_1_4, f_1_5, f_1_6, p_1_6, f_1_7, f_1_8, f_1_9, f_1_10, f_1_11, f_1_12, f_1_13, f_1_14, Option.some.injEq, exists_eq_left', exists_eq_left, Option.toList_some, Option.toList_none, List.cons_append, List.nil_append, true_and, and_true, Option.map_some, Option.map_none, h1, if_false, c1, g1]
      · intro d xs s hd hC
        obtain ⟨-, ⟨c1, c2, c3, c4⟩, -⟩ := id hC
        obtain ⟨d, rfl⟩ := x_1 (d := d) (by omega)
        rw [x_ev_in rfl (Nat.le_of_ble_eq_true rfl)]
        rw [show x_ent (x_nL g_M 207) [.ref 110, .int (nI n)] = [some (.ref 110), some (.int (nI n))] from rfl]
        simp only [w_Ref_end_0, w_Ref_end_7, w_Ref_end_11, w_Ref_end_14, w_Ref_end_16, w_Ref_end_21, c_110, f_110_0, p_110_0, f_110_1, f_110_2, f_110_3, f_110_4, f_110_5, p_110_5, f_110_6, f_110_7, p_110_7, f_110_8, p_110_8, f_110_9, p_110_9, f_110_10, p_110_10, f_110_11, p_110_11, f_110_12, p_110_12, f_110_13, p_110_13, f_110_14, f_110_15, f_110_16, p_110_16, f_110_17, f_110_18, p_110_18, f_110_19, p_110_19, f_110_20, f_110_21, p_110_21, f_110_22, p_110_22, f_110_23, f_110_24, f_110_25, p_110_25, f_110_26, f_110_27, f_110_28, f_110_29, f_110_30, f_110_31, p_110_31, f_110_32, p_110_32, f_110_33, p_110_33, f_110_34, p_110_34, f_110_35, f_110_36, f_110_37, f_110_38, Option.some.injEq, exists_eq_left', exists_eq_left, Option.toList_some, Option.toList_none, List.cons_append, List.nil_append, true_and, and_true, Option.map_some, Option.map_none, r_in (d := d) (by omega), e0, h1, if_false, c1, w_lt, g2, not_true_eq_false, if_true]
theorem k_fault (h : wOk W) (x : Int32) : ask2 P 114 217 [.int x] W := by
  refine ⟨if x = 0 then wFk W else if x = 1 then wFp W else -1, cAsk0 ?_, rAsk0 ?_⟩
  · intro d xs s hd hC
    obtain ⟨-, ⟨c1, c2, c3, c4⟩, -⟩ := id hC
    obtain ⟨d, rfl⟩ := x_1 (d := d) (by omega)
    rw [x_ev_in rfl (Nat.le_of_ble_eq_true rfl)]
    rw [show x_ent (x_nL g_M 114) [.ref 1, .int x] = [some (.ref 1), some (.int x)] from rfl]
    simp only [w_Top_fault_0, w_Top_fault_4, w_Top_fault_8, w_Top_fault_11, w_Top_fault_12, w_Top_fault_17, w_Top_fault_21, w_Top_fault_24, w_Top_fault_27, w_Top_fault_28, c_1, f_1_0, f_1_1, p_1_1, f_1_2, f_1_3, f_1_4, f_1_5, f_1_6, p_1_6, f_1_7, f_1_8, f_1_9, f_1_10, f_1_11, f_1_12, f_1_13, f_1_14, c_13, f_13_0, f_13_1, f_13_2, p_13_2, f_13_3, p_13_3, f_13_4, p_13_4, f_13_5, p_13_5, f_13_6, p_13_6, f_13_7, p_13_7, Option.some.injEq, exists_eq_left', exists_eq_left, Option.toList_some, Option.toList_none, List.cons_append, List.nil_append, true_and, and_true, Option.map_some, Option.map_none, c3, c4]
    by_cases h0 : x = 0 <;> by_cases h1 : x = 1 <;> simp [h0, h1]
  · intro d xs s hd hC
    obtain ⟨-, ⟨c1, c2, c3, c4⟩, -⟩ := id hC
    obtain ⟨d, rfl⟩ := x_1 (d := d) (by omega)
    rw [x_ev_in rfl (Nat.le_of_ble_eq_true rfl)]
    rw [show x_ent (x_nL g_M 217) [.ref 110, .int x] = [some (.ref 110), some (.int x)] from rfl]
    simp only [w_Ref_fault_0, w_Ref_fault_4, w_Ref_fault_8, w_Ref_fault_11, w_Ref_fault_16, w_Ref_fault_20, w_Ref_fault_23, w_Ref_fault_24, c_110, f_110_0, p_110_0, f_110_1, f_110_2, f_110_3, f_110_4, f_110_5, p_110_5, f_110_6, f_110_7, p_110_7, f_110_8, p_110_8, f_110_9, p_110_9, f_110_10, p_110_10, f_110_11, p_110_11, f_110_12, p_110_12, f_110_13, p_110_13, f_110_14, f_110_15, f_110_16, p_110_16, f_110_17, f_110_18, p_110_18, f_110_19, p_110_19, f_110_20, f_110_21, p_110_21, f_110_22, p_110_22, f_110_23, f_110_24, f_110_25, p_110_25, f_110_26, f_110_27, f_110_28, f_110_29, f_110_30, f_110_31, p_110_31, f_110_32, p_110_32, f_110_33, p_110_33, f_110_34, p_110_34, f_110_35, f_110_36, f_110_37, f_110_38, Option.some.injEq, exists_eq_left', exists_eq_left, Option.toList_some, Option.toList_none, List.cons_append, List.nil_append, true_and, and_true, Option.map_some, Option.map_none, c3, c4]
    by_cases h0 : x = 0 <;> by_cases h1 : x = 1 <;> simp [h0, h1]
end TAPE2
