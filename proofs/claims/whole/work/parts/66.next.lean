/-! the reference's next order (own work) -/
def swp (f : Nat → Nat) (a b : Nat) (k : Nat) : Nat := if k = a then f b else if k = b then f a else f k
/-- a row, its part behind i turned around -/
def rvs (f : Nat → Nat) (i n : Nat) (k : Nat) : Nat := if i < k ∧ k < n then f (n + i - k) else f k
/-- the row amid the turning -/
def rv3 (f : Nat → Nat) (i m c : Nat) (k : Nat) : Nat := if (i < k ∧ k < i + 1 + c) ∨ (m - c < k ∧ k < m + 1) then f (m + 1 + i - k) else f k
def rowF (s : xS) (n : Nat) (f : Nat → Nat) : Prop := ∀ i, i < n → s.1 117 i = nI (f i)
theorem nI_m2 (m : Nat) : nI (m + 1) - 2 = nI m - 1 := by
  rw [← nI_1, Int32.sub_eq_add_neg, Int32.sub_eq_add_neg, Int32.add_assoc]
  rfl
section NEXT
variable {P : Nat → List Value → Option Value} {d : Nat} {xs : List Int32}
theorem r_swap (hd : 1 ≤ d) {s : xS} {n a b : Nat} {f : Nat → Nat} (hn : n ≤ 8) (ha : a < n) (hb : b < n) (hf : rowF s n f) : ∃ s', x_ev g_M P d 284 [.ref 110, .int (nI a), .int (nI b)] (mkH xs s) (none, mkH xs s') ∧ offX 117 s s' ∧ rowF s' n (swp f a b) := by
  have x1 : x_rd (s.1 117) 8 (nI a) = some (nI (f a)) := by rw [x_rd_nI (by omega) (by omega), hf a ha]
  have x2 : x_rd (s.1 117) 8 (nI b) = some (nI (f b)) := by rw [x_rd_nI (by omega) (by omega), hf b hb]
  have x3 : ∀ v, x_rd ((s_p s 117 a v).1 117) 8 (nI b) = some ((s_p s 117 a v).1 117 b) := fun v => x_rd_nI (by omega) (by omega)
  refine ⟨s_p (s_p s 117 a (nI (f b))) 117 b (nI (f a)), ?_, ⟨fun q hq => by rw [s_p_o.1 q hq, s_p_o.1 q hq], rfl⟩, fun k hk => ?_⟩
  · obtain ⟨d, rfl⟩ := x_1 (d := d) (by omega)
    rw [x_ev_in rfl (Nat.le_of_ble_eq_true rfl)]
    rw [show x_ent (x_nL g_M 284) [.ref 110, .int (nI a), .int (nI b)] = [some (.ref 110), some (.int (nI a)), some (.int (nI b)), none] from rfl]
    simp only [w_Ref_swap_0, w_Ref_swap_4, w_Ref_swap_6, w_Ref_swap_11, w_Ref_swap_16, w_Ref_swap_18, w_Ref_swap_19, w_Ref_swap_23, w_Ref_swap_26, c_110, f_110_0, p_110_0, f_110_1, f_110_2, f_110_3, f_110_4, f_110_5, p_110_5, f_110_6, f_110_7, p_110_7, f_110_8, p_110_8, f_110_9, p_110_9, f_110_10, p_110_10, f_110_11, p_110_11, f_110_12, p_110_12, f_110_13, p_110_13, f_110_14, f_110_15, f_110_16, p_110_16, f_110_17, f_110_18, p_110_18, f_110_19, p_110_19, f_110_20, f_110_21, p_110_21, f_110_22, p_110_22, f_110_23, f_110_24, f_110_25, p_110_25, f_110_26, f_110_27, f_110_28, f_110_29, f_110_30, f_110_31, p_110_31, f_110_32, p_110_32, f_110_33, p_110_33, f_110_34, p_110_34, f_110_35, f_110_36, f_110_37, f_110_38, e_117, i_117, Option.some.injEq, exists_eq_left', exists_eq_left, Option.toList_some, Option.toList_none, List.cons_append, List.nil_append, true_and, and_true, Option.map_some, Option.map_none, x1, x2, x3, nI_clamp (show a < 2 ^ 31 by omega), nI_clamp (show b < 2 ^ 31 by omega)]
  · unfold swp
    by_cases h1 : k = b
    · subst h1
      by_cases h2 : k = a
      · subst h2; simp [s_p]
      · simp [s_p, h2]
    · by_cases h2 : k = a
      · subst h2; simp [s_p, h1]
      · simp [s_p, h1, h2, hf k hk]
/-- down while it falls -/
theorem r_nxDn (hd : 1 ≤ d) {s : xS} {n : Nat} {f : Nat → Nat} (hn : n ≤ 8) (hfb : ∀ i, i < n → f i < 2 ^ 31) (hf : rowF s n f) : ∀ (e c : Nat), c + e + 1 = n → (∀ i, c ≤ i → i + 1 < n → f (i + 1) < f i) → ∀ r, x_R (x_ev g_M P d) 283 (4, [some (.ref 110), some (.int (nI n)), some (.int (nI (n - 1) - 1)), none, none, none], [], mkH xs s) r ↔ x_R (x_ev g_M P d) 283 (4, [some (.ref 110), some (.int (nI n)), some (.int (nI c - 1)), none, none, none], [], mkH xs s) r := by
  intro e
  induction e with
  | zero => intro c hc _ r; rw [show n - 1 = c by omega]
  | succ e ih =>
    intro c hc hd2 r
    rw [ih (c + 1) (by omega) (fun i h1 h2 => hd2 i (by omega) h2) r, nI_pred]
    have x1 : x_rd (s.1 117) 8 (nI c) = some (nI (f c)) := by rw [x_rd_nI (by omega) (by omega), hf c (by omega)]
    have x2 : x_rd (s.1 117) 8 (nI (c + 1)) = some (nI (f (c + 1))) := by rw [x_rd_nI (by omega) (by omega), hf (c + 1) (by omega)]
    have hlt := hd2 c (Nat.le_refl _) (by omega)
    have hc1 : ¬ nI (f c) ≤ nI (f (c + 1)) := nI_ge hlt (hfb c (by omega))
    simp only [w_Ref_nextOrder_4 (l2 := nI c), w_Ref_nextOrder_8, w_Ref_nextOrder_12, w_Ref_nextOrder_14, w_Ref_nextOrder_18, w_Ref_nextOrder_22, w_Ref_nextOrder_25, nI_pos (show c < 2 ^ 31 by omega), if_false, c_110, f_110_0, p_110_0, f_110_1, f_110_2, f_110_3, f_110_4, f_110_5, p_110_5, f_110_6, f_110_7, p_110_7, f_110_8, p_110_8, f_110_9, p_110_9, f_110_10, p_110_10, f_110_11, p_110_11, f_110_12, p_110_12, f_110_13, p_110_13, f_110_14, f_110_15, f_110_16, p_110_16, f_110_17, f_110_18, p_110_18, f_110_19, p_110_19, f_110_20, f_110_21, p_110_21, f_110_22, p_110_22, f_110_23, f_110_24, f_110_25, p_110_25, f_110_26, f_110_27, f_110_28, f_110_29, f_110_30, f_110_31, p_110_31, f_110_32, p_110_32, f_110_33, p_110_33, f_110_34, p_110_34, f_110_35, f_110_36, f_110_37, f_110_38, e_117, i_117, Option.some.injEq, exists_eq_left', exists_eq_left, Option.toList_some, Option.toList_none, List.cons_append, List.nil_append, true_and, and_true, Option.map_some, Option.map_none, x1, x2, nI_1, hc1, nI_dn]
theorem r_nxNo (hd : 2 ≤ d) {s : xS} {n : Nat} {f : Nat → Nat} (hn : n ≤ 8) (hfb : ∀ i, i < n → f i < 2 ^ 31) (hf : rowF s n f) (hdn : ∀ i, i + 1 < n → f (i + 1) < f i) : x_ev g_M P d 283 [.ref 110, .int (nI n)] (mkH xs s) (some (.int 0), mkH xs s) := by
  obtain ⟨d, rfl⟩ := x_1 (d := d) (by omega)
  rw [x_ev_in rfl (Nat.le_of_ble_eq_true rfl)]
  rw [show x_ent (x_nL g_M 283) [.ref 110, .int (nI n)] = [some (.ref 110), some (.int (nI n)), none, none, none, none] from rfl]
  rw [w_Ref_nextOrder_0]
  rcases Nat.eq_zero_or_pos n with h0 | h0
  · subst h0
    simp only [w_Ref_nextOrder_4 (l2 := nI 0 - 2), w_Ref_nextOrder_31, w_Ref_nextOrder_35, show nI 0 - 2 < 0 by decide, show ¬ 0 ≤ nI 0 - 2 by decide, if_true, if_false, x_nb0, true_and]
  · obtain ⟨m, rfl⟩ : ∃ m, n = m + 1 := ⟨n - 1, by omega⟩
    rw [nI_m2]
    refine (r_nxDn (P := P) (d := d) (xs := xs) (by omega) hn hfb hf m 0 (by omega) (fun i _ h => hdn i h) _).mpr ?_
    simp only [w_Ref_nextOrder_4 (l2 := nI 0 - 1), w_Ref_nextOrder_31, w_Ref_nextOrder_35, show nI 0 - 1 < 0 by decide, show ¬ 0 ≤ nI 0 - 1 by decide, if_true, if_false, x_nb0, true_and]
set_option maxHeartbeats 4000000 in
theorem r_nxYes (hd : 3 ≤ d) {s : xS} {n i j : Nat} {f : Nat → Nat} (hn : n ≤ 8) (hfb : ∀ i, i < n → f i < 2 ^ 31) (hf : rowF s n f) (hin : i + 1 < n) (hup : f i ≤ f (i + 1)) (hdn : ∀ k, i < k → k + 1 < n → f (k + 1) < f k) (hij : i < j) (hjn : j < n) (hfj : f i ≤ f j) (hlo : ∀ k, j < k → k < n → f k < f i) : ∃ s', x_ev g_M P d 283 [.ref 110, .int (nI n)] (mkH xs s) (some (.int 1), mkH xs s') ∧ offX 117 s s' ∧ rowF s' n (rvs (swp f i j) i n) := by
  obtain ⟨d, rfl⟩ := x_1 (d := d) (by omega)
  obtain ⟨m, rfl⟩ : ∃ m, n = m + 1 := ⟨n - 1, by omega⟩
  obtain ⟨s1, q1, q2, q3⟩ := r_swap (P := P) (d := d) (xs := xs) (by omega) hn (show i < m + 1 by omega) hjn hf
  -- the third loop
  have key3 : ∀ (e c : Nat) (z : xS), m - (i + 1 + c) - c ≤ e → i + c ≤ m - c → c ≤ m → offX 117 s z → rowF z (m + 1) (rv3 (swp f i j) i m c) → ∃ s', x_R (x_ev g_M P d) 283 (78, [some (.ref 110), some (.int (nI (m + 1))), some (.int (nI i)), some (.int (nI j)), some (.int (nI (i + 1 + c))), some (.int (nI (m - c)))], [], mkH xs z) (some (.int 1), mkH xs s') ∧ offX 117 s s' ∧ rowF s' (m + 1) (rvs (swp f i j) i (m + 1)) := by
    intro e
    induction e with
    | zero =>
      intro c z he hic hcm hz hrow
      have hle : nI (m - c) ≤ nI (i + 1 + c) := nI_le (by omega) (by omega)
      refine ⟨z, ?_, hz, fun k hk => ?_⟩
      · simp only [w_Ref_nextOrder_78 (l4 := nI (i + 1 + c)), w_Ref_nextOrder_102, hle, if_true, x_nb1, true_and]
      · rw [hrow k hk]
        congr 1
        unfold rvs rv3
        by_cases h1 : i < k ∧ k < m + 1
        · rw [if_pos h1]
          by_cases h2 : (i < k ∧ k < i + 1 + c) ∨ (m - c < k ∧ k < m + 1)
          · rw [if_pos h2]
          · rw [if_neg h2, show m + 1 + i - k = k by omega]
        · rw [if_neg h1, if_neg (by omega)]
    | succ e ih =>
      intro c z he hic hcm hz hrow
      by_cases hlt : m - c ≤ i + 1 + c
      · have hle : nI (m - c) ≤ nI (i + 1 + c) := nI_le hlt (by omega)
        refine ⟨z, ?_, hz, fun k hk => ?_⟩
        · simp only [w_Ref_nextOrder_78 (l4 := nI (i + 1 + c)), w_Ref_nextOrder_102, hle, if_true, x_nb1, true_and]
        · rw [hrow k hk]
          congr 1
          unfold rvs rv3
          by_cases h1 : i < k ∧ k < m + 1
          · rw [if_pos h1]
            by_cases h2 : (i < k ∧ k < i + 1 + c) ∨ (m - c < k ∧ k < m + 1)
            · rw [if_pos h2]
            · rw [if_neg h2, show m + 1 + i - k = k by omega]
          · rw [if_neg h1, if_neg (by omega)]
      · have hle : ¬ nI (m - c) ≤ nI (i + 1 + c) := nI_ge (by omega) (by omega)
        obtain ⟨z1, a1, a2, a3⟩ := r_swap (P := P) (d := d) (xs := xs) (by omega) hn (show i + 1 + c < m + 1 by omega) (show m - c < m + 1 by omega) hrow
        obtain ⟨s', b1, b2, b3⟩ := ih (c + 1) z1 (by omega) (by omega) (by omega) ⟨fun q hq => (a2.1 q hq).trans (hz.1 q hq), a2.2.trans hz.2⟩ (fun k hk => by
          rw [a3 k hk]
          congr 1
          generalize swp f i j = g
          unfold swp rv3
          by_cases h1 : k = i + 1 + c
          · rw [if_pos h1, if_pos (show (i < k ∧ k < i + 1 + (c + 1)) ∨ (m - (c + 1) < k ∧ k < m + 1) by omega), if_neg (show ¬ ((i < m - c ∧ m - c < i + 1 + c) ∨ (m - c < m - c ∧ m - c < m + 1)) by omega), show m + 1 + i - k = m - c by omega]
          · by_cases h2 : k = m - c
            · rw [if_neg h1, if_pos h2, if_pos (show (i < k ∧ k < i + 1 + (c + 1)) ∨ (m - (c + 1) < k ∧ k < m + 1) by omega), if_neg (show ¬ ((i < i + 1 + c ∧ i + 1 + c < i + 1 + c) ∨ (m - c < i + 1 + c ∧ i + 1 + c < m + 1)) by omega), show m + 1 + i - k = i + 1 + c by omega]
            · rw [if_neg h1, if_neg h2]
              by_cases h3 : (i < k ∧ k < i + 1 + c) ∨ (m - c < k ∧ k < m + 1)
              · rw [if_pos h3, if_pos (show (i < k ∧ k < i + 1 + (c + 1)) ∨ (m - (c + 1) < k ∧ k < m + 1) by omega)]
              · rw [if_neg h3, if_neg (show ¬ ((i < k ∧ k < i + 1 + (c + 1)) ∨ (m - (c + 1) < k ∧ k < m + 1)) by omega)])
        refine ⟨s', ?_, b2, b3⟩
        have hm1 : nI (m - c) + (-1) = nI (m - (c + 1)) := by
          rw [show m - c = (m - (c + 1)) + 1 by omega, pk_m1]
        simp only [w_Ref_nextOrder_78 (l4 := nI (i + 1 + c)), w_Ref_nextOrder_85, w_Ref_nextOrder_93, hle, if_false, c_110, f_110_0, p_110_0, f_110_1, f_110_2, f_110_3, f_110_4, f_110_5, p_110_5, f_110_6, f_110_7, p_110_7, f_110_8, p_110_8, f_110_9, p_110_9, f_110_10, p_110_10, f_110_11, p_110_11, f_110_12, p_110_12, f_110_13, p_110_13, f_110_14, f_110_15, f_110_16, p_110_16, f_110_17, f_110_18, p_110_18, f_110_19, p_110_19, f_110_20, f_110_21, p_110_21, f_110_22, p_110_22, f_110_23, f_110_24, f_110_25, p_110_25, f_110_26, f_110_27, f_110_28, f_110_29, f_110_30, f_110_31, p_110_31, f_110_32, p_110_32, f_110_33, p_110_33, f_110_34, p_110_34, f_110_35, f_110_36, f_110_37, f_110_38, Option.some.injEq, exists_eq_left', exists_eq_left, Option.toList_some, Option.toList_none, List.cons_append, List.nil_append, true_and, and_true, Option.map_some, Option.map_none, x_ev_iff a1, nI_1, hm1]
        exact b1
  obtain ⟨s', c1, c2, c3⟩ := key3 m 0 s1 (by omega) (by omega) (by omega) q2 (fun k hk => by
    rw [q3 k hk]
    congr 1
    unfold rv3
    rw [if_neg (by omega)])
  refine ⟨s', ?_, c2, c3⟩
  -- the second loop
  have key2 : ∀ (e k : Nat), k = j + e → k < m + 1 → (x_R (x_ev g_M P d) 283 (41, [some (.ref 110), some (.int (nI (m + 1))), some (.int (nI i)), some (.int (nI k)), none, none], [], mkH xs s) (some (.int 1), mkH xs s') ↔ x_R (x_ev g_M P d) 283 (62, [some (.ref 110), some (.int (nI (m + 1))), some (.int (nI i)), some (.int (nI j)), none, none], [], mkH xs s) (some (.int 1), mkH xs s')) := by
    intro e
    have xi : x_rd (s.1 117) 8 (nI i) = some (nI (f i)) := by rw [x_rd_nI (by omega) (by omega), hf i (by omega)]
    induction e with
    | zero =>
      intro k hk hk2
      obtain rfl : k = j := by omega
      have xk : x_rd (s.1 117) 8 (nI k) = some (nI (f k)) := by rw [x_rd_nI (by omega) (by omega), hf k (by omega)]
      have hle : nI (f i) ≤ nI (f k) := nI_le hfj (hfb k (by omega))
      simp only [w_Ref_nextOrder_41 (l3 := nI k), w_Ref_nextOrder_45, w_Ref_nextOrder_47, w_Ref_nextOrder_51, w_Ref_nextOrder_53, c_110, f_110_0, p_110_0, f_110_1, f_110_2, f_110_3, f_110_4, f_110_5, p_110_5, f_110_6, f_110_7, p_110_7, f_110_8, p_110_8, f_110_9, p_110_9, f_110_10, p_110_10, f_110_11, p_110_11, f_110_12, p_110_12, f_110_13, p_110_13, f_110_14, f_110_15, f_110_16, p_110_16, f_110_17, f_110_18, p_110_18, f_110_19, p_110_19, f_110_20, f_110_21, p_110_21, f_110_22, p_110_22, f_110_23, f_110_24, f_110_25, p_110_25, f_110_26, f_110_27, f_110_28, f_110_29, f_110_30, f_110_31, p_110_31, f_110_32, p_110_32, f_110_33, p_110_33, f_110_34, p_110_34, f_110_35, f_110_36, f_110_37, f_110_38, e_117, i_117, Option.some.injEq, exists_eq_left', exists_eq_left, Option.toList_some, Option.toList_none, List.cons_append, List.nil_append, true_and, and_true, Option.map_some, Option.map_none, xi, xk, hle, if_true]
    | succ e ih =>
      intro k hk hk2
      have xk : x_rd (s.1 117) 8 (nI k) = some (nI (f k)) := by rw [x_rd_nI (by omega) (by omega), hf k (by omega)]
      have hle : ¬ nI (f i) ≤ nI (f k) := nI_ge (hlo k (by omega) hk2) (hfb i (by omega))
      have hm1 : nI k + (-1) = nI (k - 1) := by
        obtain ⟨k', rfl⟩ : ∃ k', k = k' + 1 := ⟨k - 1, by omega⟩
        rw [pk_m1, Nat.add_sub_cancel]
      simp only [w_Ref_nextOrder_41 (l3 := nI k), w_Ref_nextOrder_45, w_Ref_nextOrder_47, w_Ref_nextOrder_51, w_Ref_nextOrder_53, w_Ref_nextOrder_56, c_110, f_110_0, p_110_0, f_110_1, f_110_2, f_110_3, f_110_4, f_110_5, p_110_5, f_110_6, f_110_7, p_110_7, f_110_8, p_110_8, f_110_9, p_110_9, f_110_10, p_110_10, f_110_11, p_110_11, f_110_12, p_110_12, f_110_13, p_110_13, f_110_14, f_110_15, f_110_16, p_110_16, f_110_17, f_110_18, p_110_18, f_110_19, p_110_19, f_110_20, f_110_21, p_110_21, f_110_22, p_110_22, f_110_23, f_110_24, f_110_25, p_110_25, f_110_26, f_110_27, f_110_28, f_110_29, f_110_30, f_110_31, p_110_31, f_110_32, p_110_32, f_110_33, p_110_33, f_110_34, p_110_34, f_110_35, f_110_36, f_110_37, f_110_38, e_117, i_117, Option.some.injEq, exists_eq_left', exists_eq_left, Option.toList_some, Option.toList_none, List.cons_append, List.nil_append, true_and, and_true, Option.map_some, Option.map_none, xi, xk, hle, if_false, hm1]
      exact ih (k - 1) (by omega) (by omega)
  rw [x_ev_in rfl (Nat.le_of_ble_eq_true rfl)]
  rw [show x_ent (x_nL g_M 283) [.ref 110, .int (nI (m + 1))] = [some (.ref 110), some (.int (nI (m + 1))), none, none, none, none] from rfl]
  rw [w_Ref_nextOrder_0, nI_m2]
  refine (r_nxDn (P := P) (d := d) (xs := xs) (by omega) hn hfb hf (m - (i + 1)) (i + 1) (by omega) (fun k h1 h2 => hdn k (by omega) h2) _).mpr ?_
  rw [nI_pred]
  have xi : x_rd (s.1 117) 8 (nI i) = some (nI (f i)) := by rw [x_rd_nI (by omega) (by omega), hf i (by omega)]
  have xi1 : x_rd (s.1 117) 8 (nI (i + 1)) = some (nI (f (i + 1))) := by rw [x_rd_nI (by omega) (by omega), hf (i + 1) (by omega)]
  have hle : nI (f i) ≤ nI (f (i + 1)) := nI_le hup (hfb (i + 1) (by omega))
  simp only [w_Ref_nextOrder_4 (l2 := nI i), w_Ref_nextOrder_8, w_Ref_nextOrder_12, w_Ref_nextOrder_14, w_Ref_nextOrder_18, w_Ref_nextOrder_22, w_Ref_nextOrder_31, w_Ref_nextOrder_37, nI_pos (show i < 2 ^ 31 by omega), nI_pos' (show i < 2 ^ 31 by omega), if_false, if_true, c_110, f_110_0, p_110_0, f_110_1, f_110_2, f_110_3, f_110_4, f_110_5, p_110_5, f_110_6, f_110_7, p_110_7, f_110_8, p_110_8, f_110_9, p_110_9, f_110_10, p_110_10, f_110_11, p_110_11, f_110_12, p_110_12, f_110_13, p_110_13, f_110_14, f_110_15, f_110_16, p_110_16, f_110_17, f_110_18, p_110_18, f_110_19, p_110_19, f_110_20, f_110_21, p_110_21, f_110_22, p_110_22, f_110_23, f_110_24, f_110_25, p_110_25, f_110_26, f_110_27, f_110_28, f_110_29, f_110_30, f_110_31, p_110_31, f_110_32, p_110_32, f_110_33, p_110_33, f_110_34, p_110_34, f_110_35, f_110_36, f_110_37, f_110_38, e_117, i_117, Option.some.injEq, exists_eq_left', exists_eq_left, Option.toList_some, Option.toList_none, List.cons_append, List.nil_append, true_and, and_true, Option.map_some, Option.map_none, xi, xi1, nI_1, hle, nI_pred]
  refine (key2 (m - j) m (by omega) (by omega)).mpr ?_
  simp only [w_Ref_nextOrder_62, w_Ref_nextOrder_68, c_110, f_110_0, p_110_0, f_110_1, f_110_2, f_110_3, f_110_4, f_110_5, p_110_5, f_110_6, f_110_7, p_110_7, f_110_8, p_110_8, f_110_9, p_110_9, f_110_10, p_110_10, f_110_11, p_110_11, f_110_12, p_110_12, f_110_13, p_110_13, f_110_14, f_110_15, f_110_16, p_110_16, f_110_17, f_110_18, p_110_18, f_110_19, p_110_19, f_110_20, f_110_21, p_110_21, f_110_22, p_110_22, f_110_23, f_110_24, f_110_25, p_110_25, f_110_26, f_110_27, f_110_28, f_110_29, f_110_30, f_110_31, p_110_31, f_110_32, p_110_32, f_110_33, p_110_33, f_110_34, p_110_34, f_110_35, f_110_36, f_110_37, f_110_38, Option.some.injEq, exists_eq_left', exists_eq_left, Option.toList_some, Option.toList_none, List.cons_append, List.nil_append, true_and, and_true, Option.map_some, Option.map_none, x_ev_iff q1, nI_1, nI_pred]
  exact c1
end NEXT
theorem lo_ap2 (A B : List Nat) (k : Nat) : lo (A ++ B) k = if k < A.length then lo A k else lo B (k - A.length) := by
  unfold lo
  simp only [List.getD_eq_getElem?_getD]
  by_cases h : k < A.length
  · rw [if_pos h, List.getElem?_append_left h]
  · rw [if_neg h, List.getElem?_append_right (by omega)]
theorem lo_c0 (a : Nat) (l : List Nat) : lo (a :: l) 0 = a := rfl
theorem lo_cs (a : Nat) (l : List Nat) (k : Nat) : lo (a :: l) (k + 1) = lo l k := by
  unfold lo
  simp [List.getD_eq_getElem?_getD]
theorem lo_rv (L : List Nat) (k : Nat) (hk : k < L.length) : lo L.reverse k = lo L (L.length - 1 - k) := by
  unfold lo
  simp only [List.getD_eq_getElem?_getD]
  rw [List.getElem?_reverse hk]
theorem lo_cons' (a : Nat) (l : List Nat) (k : Nat) : lo (a :: l) k = if k = 0 then a else lo l (k - 1) := by
  cases k with
  | zero => rfl
  | succ k => rw [lo_cs, if_neg (by omega), Nat.add_sub_cancel]
theorem pw_lo {L : List Nat} {R : Nat → Nat → Prop} (h : L.Pairwise R) {i j : Nat} (hij : i < j) (hj : j < L.length) : R (lo L i) (lo L j) := by
  have := List.pairwise_iff_getElem.mp h i j (by omega) hj hij
  unfold lo
  rw [List.getD_eq_getElem?_getD, List.getD_eq_getElem?_getD, List.getElem?_eq_getElem hj, List.getElem?_eq_getElem (by omega)]
  exact this
/-- the next order, as lists -/
theorem nx_list (pre D1 D2 : List Nat) (m m' : Nat) : ∀ k, k < (pre ++ m :: (D1 ++ m' :: D2)).length → rvs (swp (lo (pre ++ m :: (D1 ++ m' :: D2))) pre.length (pre.length + 1 + D1.length)) pre.length (pre ++ m :: (D1 ++ m' :: D2)).length k = lo (pre ++ m' :: (D2.reverse ++ m :: D1.reverse)) k := by
  intro k hk
  have hn : (pre ++ m :: (D1 ++ m' :: D2)).length = pre.length + D1.length + D2.length + 2 := by
    simp
    omega
  rw [hn] at hk ⊢
  unfold rvs swp
  by_cases h1 : k < pre.length
  · rw [if_neg (by omega), if_neg (by omega), if_neg (by omega), lo_ap2, lo_ap2, if_pos h1, if_pos h1]
  · by_cases h2 : k = pre.length
    · subst h2
      rw [if_neg (by omega), if_pos rfl, lo_ap2, if_neg (by omega), lo_ap2, if_neg (by omega), Nat.sub_self, lo_c0, show pre.length + 1 + D1.length - pre.length = D1.length + 1 by omega, lo_cs, lo_ap2, if_neg (by omega), Nat.sub_self, lo_c0]
    · rw [if_pos ⟨by omega, by omega⟩, if_neg (by omega), lo_ap2 pre (m' :: _), if_neg h1, lo_cons' m', if_neg (show ¬ k - pre.length = 0 by omega), lo_ap2 D2.reverse, List.length_reverse]
      by_cases h3 : k - pre.length - 1 < D2.length
      · rw [if_pos h3, lo_rv _ _ h3, if_neg (show ¬ pre.length + D1.length + D2.length + 2 + pre.length - k = pre.length + 1 + D1.length by omega), lo_ap2, if_neg (by omega), lo_cons', if_neg (by omega), lo_ap2, if_neg (by omega), lo_cons', if_neg (by omega)]
        congr 1
        omega
      · rw [if_neg h3, lo_cons' m]
        by_cases h4 : k - pre.length - 1 - D2.length = 0
        · rw [if_pos h4, if_pos (show pre.length + D1.length + D2.length + 2 + pre.length - k = pre.length + 1 + D1.length by omega), lo_ap2, if_neg (by omega), Nat.sub_self, lo_c0]
        · rw [if_neg h4, if_neg (show ¬ pre.length + D1.length + D2.length + 2 + pre.length - k = pre.length + 1 + D1.length by omega), lo_rv _ _ (by omega), lo_ap2, if_neg (by omega), lo_cons', if_neg (by omega), lo_ap2, if_pos (by omega)]
          congr 1
          omega
