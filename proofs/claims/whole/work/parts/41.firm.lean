/-! WHAT IS FIRM (own work) -/
section LOOPS4
variable {C : Nat → List Value → xH → Option Value × xH → Prop} {k : Nat}
/-- a loop upwards that changes what is kept -/
theorem x_upX {β : Type} {N : Nat} {F : Nat → β → xF} {G : β → Option Value × xH} (hs : ∀ m o, m < N → ∃ o', ∀ r, (x_R C k (F m o) r ↔ x_R C k (F (m + 1) o') r)) (he : ∀ o, x_R C k (F N o) (G o)) : ∀ n m o, m + n = N → ∃ o', x_R C k (F m o) (G o') := by
  intro n
  induction n with
  | zero => intro m o h; obtain rfl : m = N := by omega
            exact ⟨o, he o⟩
  | succ n ih =>
    intro m o h
    obtain ⟨o', e⟩ := hs m o (by omega)
    obtain ⟨o2, e2⟩ := ih (m + 1) o' (by omega)
    exact ⟨o2, (e _).mpr e2⟩
end LOOPS4
def tGbf (T : Tw) (set : Int32) (m p : Nat) : Int32 := if (tDry T m || !tAgr T (tOth T p m) m (-tSum T (tOth T p m) (tFall T set m))) = true then 0 else -tSum T p (tFall T set m)
def wk1 (T : Tw) (set : Int32) (m k : Nat) (a : Option Nat × Int32) : Option Nat × Int32 := if a.2 < tGbf T set m (tPa T m k) then (some m, tGbf T set m (tPa T m k)) else a
def wkN (T : Tw) (set : Int32) : Nat → Option Nat × Int32
  | 0 => (none, 0)
  | m + 1 => if bt set m = true then wk1 T set m 1 (wk1 T set m 0 (wkN T set m)) else wkN T set m
theorem wk1_pos {T : Tw} {set : Int32} {m k : Nat} {a : Option Nat × Int32} (h : 0 ≤ a.2) : 0 ≤ (wk1 T set m k a).2 := by
  unfold wk1
  split
  · rename_i hl
    exact Int32.le_trans h (Int32.le_of_lt hl)
  · exact h
theorem wkN_pos (T : Tw) (set : Int32) : ∀ n, 0 ≤ (wkN T set n).2 := by
  intro n
  induction n with
  | zero => exact Int32.le_refl _
  | succ n ih =>
    rw [wkN]
    split
    · exact wk1_pos (wk1_pos ih)
    · exact ih
theorem wk1_lt {T : Tw} {set : Int32} {m k b : Nat} {a : Option Nat × Int32} (h : (wk1 T set m k a).1 = some b) : b = m ∨ a.1 = some b := by
  unfold wk1 at h
  split at h
  · left; cases h; rfl
  · right; exact h
theorem wkN_lt (T : Tw) (set : Int32) : ∀ n b, (wkN T set n).1 = some b → b < n := by
  intro n
  induction n with
  | zero => intro b h; cases h
  | succ n ih =>
    intro b h
    rw [wkN] at h
    split at h
    · rcases wk1_lt h with h | h
      · omega
      · rcases wk1_lt h with h | h
        · omega
        · have := ih b h; omega
    · have := ih b h; omega
def tFirm (T : Tw) (set : Int32) : Bool := tClo T set && (wkN T set (tM T)).1.isNone
theorem tOth_0 {T : Tw} {m : Nat} : tOth T (tPa T m 0) m = tPa T m 1 := by unfold tOth; rw [if_pos rfl]
theorem tOth_1 {T : Tw} (hW : tWf T) {m : Nat} (hm : m < tM T) : tOth T (tPa T m 1) m = tPa T m 0 := by
  obtain ⟨-, -, h3⟩ := hW.2.2.1 m hm
  unfold tOth
  rw [if_neg h3]
theorem tPa_lt {T : Tw} (hW : tWf T) {m k : Nat} (hm : m < tM T) (hk : k < 2) : tPa T m k < tP T := by
  obtain ⟨h1, h2, h3⟩ := hW.2.2.1 m hm
  rcases (show k = 0 ∨ k = 1 by omega) with rfl | rfl
  · exact h1
  · exact h2
theorem optI_m1 {o : Option Nat} (h : ∀ b, o = some b → b < 2 ^ 31) : optI o < 0 ↔ o.isNone = true := by
  cases o with
  | none => simp [optI]
  | some b => simp [optI, nI_pos' (h b rfl)]
theorem optI_e {o : Option Nat} (h : ∀ b, o = some b → b < 2 ^ 31) : optI o = -1 ↔ o.isNone = true := by
  cases o with
  | none => simp [optI]
  | some b =>
    have := nI_pos (h b rfl)
    simp only [optI, Option.isNone_some, Bool.false_eq_true, iff_false]
    intro z
    rw [z] at this
    exact this (by decide)
section FIRM
variable {P : Nat → List Value → Option Value} {d : Nat} {xs : List Int32} {s : xS} {T : Tw} {q : Option Value × xH}
theorem s_gainByFall (hd : 3 ≤ d) (hT : clsT s 3 T) (hW : tWf T) (set : Int32) {m p : Nat} (hm : m < tM T) (hp : p < tP T) : x_ev g_M P d 39 [.ref 25, .int set, .int (nI m), .int (nI p)] (mkH xs s) q ↔ q = (some (.int (tGbf T set m p)), mkH xs s) := by
  have w2 := hW.2.1
  have t7 := hT.2.2.1 m hm
  have ho := tOth_lt hW (j := p) hm
  obtain ⟨d, rfl⟩ := x_1 (d := d) (by omega)
  rw [x_ev_in rfl (Nat.le_of_ble_eq_true rfl)]
  rw [show x_ent (x_nL g_M 39) [.ref 25, .int set, .int (nI m), .int (nI p)] = [some (.ref 25), some (.int set), some (.int (nI m)), some (.int (nI p)), none, none] from rfl]
  simp only [w_Sets_gainByFall_0, w_Sets_gainByFall_4, w_Sets_gainByFall_9, w_Sets_gainByFall_15, w_Sets_gainByFall_20, w_Sets_gainByFall_26, w_Sets_gainByFall_29, w_Sets_gainByFall_33, w_Sets_gainByFall_37, w_Sets_gainByFall_41, w_Sets_gainByFall_48, w_Sets_gainByFall_55, w_Sets_gainByFall_58, w_Sets_gainByFall_61, w_Sets_gainByFall_63, w_Sets_gainByFall_67, w_Sets_gainByFall_73, c_3, f_3_0, p_3_0, f_3_1, p_3_1, f_3_2, p_3_2, f_3_3, p_3_3, f_3_4, p_3_4, f_3_5, p_3_5, f_3_6, p_3_6, f_3_7, p_3_7, f_3_8, p_3_8, f_3_9, f_3_10, f_3_11, f_3_12, f_3_13, c_25, f_25_0, f_25_1, f_25_2, f_25_3, f_25_4, f_25_5, f_25_6, f_25_7, p_25_7, Option.some.injEq, exists_eq_left', exists_eq_left, Option.toList_some, Option.toList_none, List.cons_append, List.nil_append, true_and, and_true, Option.map_some, Option.map_none, t_fallIn (d := d) (by omega) hT hW hm, t_otherParty (d := d) (by omega) hT hW hm hp, show (if tPa T m 0 = p then tPa T m 1 else tPa T m 0) = tOth T p m from rfl, t_bitOf (d := d) (by omega), bit_1 (show m < 32 by omega), t7, t_swingOf (d := d) (by omega) hT hW ho, t_swingOf (d := d) (by omega) hT hW hp, t_agrees (d := d) (by omega) hT hW ho hm, tGbf]
  by_cases h1 : tDry T m = true <;> by_cases h2 : tAgr T (tOth T p m) m (-tSum T (tOth T p m) (tFall T set m)) = true <;> simp [h1, h2, eq_comm (a := q)]
theorem s_weakStep (hd : 4 ≤ d) (hT : clsT s 3 T) (hW : tWf T) {set : Int32} {m k : Nat} (hm : m < tM T) (hk : k < 2) (hb : bt set m = true) (a : Option Nat × Int32) (o : Option Value) : x_R (x_ev g_M P d) 48 (35, [some (.ref 25), some (.int set), some (.int (optI a.1)), some (.int a.2), some (.int (nI m)), some (.int (nI k)), o], [], mkH xs s) q ↔ x_R (x_ev g_M P d) 48 (35, [some (.ref 25), some (.int set), some (.int (optI (wk1 T set m k a).1)), some (.int (wk1 T set m k a).2), some (.int (nI m)), some (.int (nI (k + 1))), some (.int (tGbf T set m (tPa T m k)))], [], mkH xs s) q := by
  have w2 := hW.2.1
  have hc : ¬ (2 : Int32) ≤ nI k := nI_ge (b := 2) hk (by omega)
  have hle : tGbf T set m (tPa T m k) ≤ a.2 ↔ ¬ a.2 < tGbf T set m (tPa T m k) := Int32.not_lt.symm
  simp only [w_Sets_weakestIn_0, w_Sets_weakestIn_4, w_Sets_weakestIn_8, w_Sets_weakestIn_11, w_Sets_weakestIn_13, w_Sets_weakestIn_26, w_Sets_weakestIn_29, w_Sets_weakestIn_32, w_Sets_weakestIn_41, w_Sets_weakestIn_47, w_Sets_weakestIn_51, w_Sets_weakestIn_59, w_Sets_weakestIn_66, w_Sets_weakestIn_69, w_Sets_weakestIn_77, w_Sets_weakestIn_83, w_Sets_weakestIn_89, w_Sets_weakestIn_95, w_Sets_weakestIn_35 (l5 := nI k), c_3, f_3_0, p_3_0, f_3_1, p_3_1, f_3_2, p_3_2, f_3_3, p_3_3, f_3_4, p_3_4, f_3_5, p_3_5, f_3_6, p_3_6, f_3_7, p_3_7, f_3_8, p_3_8, f_3_9, f_3_10, f_3_11, f_3_12, f_3_13, c_25, f_25_0, f_25_1, f_25_2, f_25_3, f_25_4, f_25_5, f_25_6, f_25_7, p_25_7, Option.some.injEq, exists_eq_left', exists_eq_left, Option.toList_some, Option.toList_none, List.cons_append, List.nil_append, true_and, and_true, Option.map_some, Option.map_none, hc, if_false, t_bitOf (d := d) (by omega), bit_1 (show m < 32 by omega), hb, not_true_eq_false, t_partyOf (d := d) (by omega) hT hW hm hk, s_gainByFall (d := d) (by omega) hT hW set hm (tPa_lt hW hm hk), hle, nI_1, wk1]
  by_cases h1 : a.2 < tGbf T set m (tPa T m k)
  · simp only [h1, not_true_eq_false, if_false, if_true, optI]
  · simp only [h1, not_false_eq_true, if_true, if_false]
theorem s_weakestIn (hd : 5 ≤ d) (hT : clsT s 3 T) (hW : tWf T) (set : Int32) : x_ev g_M P d 48 [.ref 25, .int set] (mkH xs s) q ↔ q = (some (.int (if tClo T set = true then optI (wkN T set (tM T)).1 else -1)), mkH xs s) := by
  have w2 := hW.2.1
  have t5 := hT.1.2.2.2.2.2
  obtain ⟨d, rfl⟩ := x_1 (d := d) (by omega)
  rw [x_ev_in rfl (Nat.le_of_ble_eq_true rfl)]
  rw [show x_ent (x_nL g_M 48) [.ref 25, .int set] = [some (.ref 25), some (.int set), none, none, none, none, none] from rfl]
  have key := x_upO (C := x_ev g_M P d) (k := 48) (r := q) (N := tM T) (E := q = (some (.int (optI (wkN T set (tM T)).1)), mkH xs s)) (F := fun m (o : Option Value × Option Value) => (20, [some (.ref 25), some (.int set), some (.int (optI (wkN T set m).1)), some (.int (wkN T set m).2), some (.int (nI m)), o.1, o.2], [], mkH xs s)) (fun m o hm => by
      have hc : ¬ nI (tM T) ≤ nI m := nI_ge hm (by omega)
      by_cases hb : bt set m = true
      · refine ⟨(some (.int (nI 2)), some (.int (tGbf T set m (tPa T m 1)))), ?_⟩
        have s0 := s_weakStep (P := P) (d := d) (xs := xs) (q := q) (by omega) hT hW hm (k := 0) (by omega) hb (wkN T set m) o.2
        have s1 := s_weakStep (P := P) (d := d) (xs := xs) (q := q) (by omega) hT hW hm (k := 1) (by omega) hb (wk1 T set m 0 (wkN T set m)) (some (.int (tGbf T set m (tPa T m 0))))
        simp only [w_Sets_weakestIn_20 (l4 := nI m), w_Sets_weakestIn_26, w_Sets_weakestIn_29, w_Sets_weakestIn_32, c_3, f_3_0, p_3_0, f_3_1, p_3_1, f_3_2, p_3_2, f_3_3, p_3_3, f_3_4, p_3_4, f_3_5, p_3_5, f_3_6, p_3_6, f_3_7, p_3_7, f_3_8, p_3_8, f_3_9, f_3_10, f_3_11, f_3_12, f_3_13, c_25, f_25_0, f_25_1, f_25_2, f_25_3, f_25_4, f_25_5, f_25_6, f_25_7, p_25_7, Option.some.injEq, exists_eq_left', exists_eq_left, Option.toList_some, Option.toList_none, List.cons_append, List.nil_append, true_and, and_true, Option.map_some, Option.map_none, t5, hc, if_false]
        refine s0.trans (s1.trans ?_)
        simp only [w_Sets_weakestIn_35 (l5 := nI (1 + 1)), show (2 : Int32) ≤ nI (1 + 1) from by decide, if_true, w_Sets_weakestIn_89, nI_1, wkN, hb]
      · refine ⟨(some (.int 0), o.2), ?_⟩
        simp only [w_Sets_weakestIn_0, w_Sets_weakestIn_4, w_Sets_weakestIn_8, w_Sets_weakestIn_11, w_Sets_weakestIn_13, w_Sets_weakestIn_26, w_Sets_weakestIn_29, w_Sets_weakestIn_32, w_Sets_weakestIn_41, w_Sets_weakestIn_47, w_Sets_weakestIn_51, w_Sets_weakestIn_59, w_Sets_weakestIn_66, w_Sets_weakestIn_69, w_Sets_weakestIn_77, w_Sets_weakestIn_83, w_Sets_weakestIn_89, w_Sets_weakestIn_95, w_Sets_weakestIn_20 (l4 := nI m), w_Sets_weakestIn_35 (l5 := 0), c_3, f_3_0, p_3_0, f_3_1, p_3_1, f_3_2, p_3_2, f_3_3, p_3_3, f_3_4, p_3_4, f_3_5, p_3_5, f_3_6, p_3_6, f_3_7, p_3_7, f_3_8, p_3_8, f_3_9, f_3_10, f_3_11, f_3_12, f_3_13, c_25, f_25_0, f_25_1, f_25_2, f_25_3, f_25_4, f_25_5, f_25_6, f_25_7, p_25_7, Option.some.injEq, exists_eq_left', exists_eq_left, Option.toList_some, Option.toList_none, List.cons_append, List.nil_append, true_and, and_true, Option.map_some, Option.map_none, t5, hc, if_false, show ¬ (2 : Int32) ≤ 0 by decide, t_bitOf (d := d) (by omega), bit_1 (show m < 32 by omega), hb, not_false_eq_true, if_true, nI_1, wkN, Bool.false_eq_true]) (fun o => by
      simp only [w_Sets_weakestIn_0, w_Sets_weakestIn_4, w_Sets_weakestIn_8, w_Sets_weakestIn_11, w_Sets_weakestIn_13, w_Sets_weakestIn_26, w_Sets_weakestIn_29, w_Sets_weakestIn_32, w_Sets_weakestIn_41, w_Sets_weakestIn_47, w_Sets_weakestIn_51, w_Sets_weakestIn_59, w_Sets_weakestIn_66, w_Sets_weakestIn_69, w_Sets_weakestIn_77, w_Sets_weakestIn_83, w_Sets_weakestIn_89, w_Sets_weakestIn_95, w_Sets_weakestIn_20 (l4 := nI (tM T)), c_3, f_3_0, p_3_0, f_3_1, p_3_1, f_3_2, p_3_2, f_3_3, p_3_3, f_3_4, p_3_4, f_3_5, p_3_5, f_3_6, p_3_6, f_3_7, p_3_7, f_3_8, p_3_8, f_3_9, f_3_10, f_3_11, f_3_12, f_3_13, c_25, f_25_0, f_25_1, f_25_2, f_25_3, f_25_4, f_25_5, f_25_6, f_25_7, p_25_7, Option.some.injEq, exists_eq_left', exists_eq_left, Option.toList_some, Option.toList_none, List.cons_append, List.nil_append, true_and, and_true, Option.map_some, Option.map_none, t5, show nI (tM T) ≤ nI (tM T) from Int32.le_refl _, if_true]
      exact eq_comm) (tM T) 0 (none, none) (by omega)
  simp only [w_Sets_weakestIn_0, w_Sets_weakestIn_4, w_Sets_weakestIn_8, w_Sets_weakestIn_11, w_Sets_weakestIn_13, w_Sets_weakestIn_26, w_Sets_weakestIn_29, w_Sets_weakestIn_32, w_Sets_weakestIn_41, w_Sets_weakestIn_47, w_Sets_weakestIn_51, w_Sets_weakestIn_59, w_Sets_weakestIn_66, w_Sets_weakestIn_69, w_Sets_weakestIn_77, w_Sets_weakestIn_83, w_Sets_weakestIn_89, w_Sets_weakestIn_95, c_3, f_3_0, p_3_0, f_3_1, p_3_1, f_3_2, p_3_2, f_3_3, p_3_3, f_3_4, p_3_4, f_3_5, p_3_5, f_3_6, p_3_6, f_3_7, p_3_7, f_3_8, p_3_8, f_3_9, f_3_10, f_3_11, f_3_12, f_3_13, c_25, f_25_0, f_25_1, f_25_2, f_25_3, f_25_4, f_25_5, f_25_6, f_25_7, p_25_7, Option.some.injEq, exists_eq_left', exists_eq_left, Option.toList_some, Option.toList_none, List.cons_append, List.nil_append, true_and, and_true, Option.map_some, Option.map_none, t_isClosed (d := d) (by omega) hT hW]
  by_cases hcl : tClo T set = true
  · simp only [hcl, b01, if_true, show ¬ ((1 : Int32) = 0) by decide, not_false_eq_true]
    exact key
  · simp only [hcl, b01, Bool.false_eq_true, if_false, not_true_eq_false]
    exact eq_comm
theorem s_isFirm (hd : 6 ≤ d) (hT : clsT s 3 T) (hW : tWf T) (set : Int32) : x_ev g_M P d 47 [.ref 25, .int set] (mkH xs s) q ↔ q = (some (.int (b01 (tFirm T set))), mkH xs s) := by
  have w2 := hW.2.1
  have e := optI_m1 (o := (wkN T set (tM T)).1) (fun b hb => by have := wkN_lt T set _ b hb; omega)
  have e' : 0 ≤ optI (wkN T set (tM T)).1 ↔ ¬ (wkN T set (tM T)).1.isNone = true := by rw [← e]; exact Int32.not_lt.symm
  obtain ⟨d, rfl⟩ := x_1 (d := d) (by omega)
  rw [x_ev_in rfl (Nat.le_of_ble_eq_true rfl)]
  rw [show x_ent (x_nL g_M 47) [.ref 25, .int set] = [some (.ref 25), some (.int set)] from rfl]
  simp only [w_Sets_isFirm_0, w_Sets_isFirm_4, w_Sets_isFirm_8, w_Sets_isFirm_11, w_Sets_isFirm_16, w_Sets_isFirm_19, w_Sets_isFirm_23, w_Sets_isFirm_24, c_3, f_3_0, p_3_0, f_3_1, p_3_1, f_3_2, p_3_2, f_3_3, p_3_3, f_3_4, p_3_4, f_3_5, p_3_5, f_3_6, p_3_6, f_3_7, p_3_7, f_3_8, p_3_8, f_3_9, f_3_10, f_3_11, f_3_12, f_3_13, c_25, f_25_0, f_25_1, f_25_2, f_25_3, f_25_4, f_25_5, f_25_6, f_25_7, p_25_7, Option.some.injEq, exists_eq_left', exists_eq_left, Option.toList_some, Option.toList_none, List.cons_append, List.nil_append, true_and, and_true, Option.map_some, Option.map_none, t_isClosed (d := d) (by omega) hT hW, s_weakestIn (d := d) (by omega) hT hW, x_nb0, x_nb1, tFirm, b01]
  by_cases hcl : tClo T set = true
  · simp only [hcl, if_true, show ¬ ((1 : Int32) = 0) by decide, if_false, e', Bool.true_and]
    by_cases h2 : (wkN T set (tM T)).1.isNone = true <;> simp [h2, eq_comm (a := q)]
  · simp only [hcl, Bool.false_eq_true, if_false, if_true, Bool.false_and]
    exact eq_comm
end FIRM
def off25 (s s' : xS) : Prop := (∀ q, q ≠ 110 → s'.1 q = s.1 q) ∧ (∀ k, k ≠ 25 → s'.1 110 k = s.1 110 k) ∧ s'.2 = s.2
theorem off25.rf {s : xS} : off25 s s := ⟨fun _ _ => rfl, fun _ _ => rfl, rfl⟩
theorem off25.tr {s s' s'' : xS} (h : off25 s s') (h2 : off25 s' s'') : off25 s s'' := ⟨fun q a => (h2.1 q a).trans (h.1 q a), fun k a => (h2.2.1 k a).trans (h.2.1 k a), h2.2.2.trans h.2.2⟩
theorem off25.ke {s s' : xS} (h : off25 s s') : keR s s' := ⟨fun q a _ => h.1 q a, fun k a => h.2.1 k (by omega), fun q _ _ => by rw [h.2.2]⟩
theorem off25.T {s s' : xS} {T : Tw} (h : off25 s s') (hT : refT s 111 0 T) : refT s' 111 0 T := refT_off (h.1 111 (by omega)) hT
theorem off25.p {s : xS} {v : Int32} : off25 s (s_p s 110 25 v) := ⟨fun q a => by funext k; simp [s_p, a], fun k a => by simp [s_p, a], rfl⟩
section FIRM2
variable {P : Nat → List Value → Option Value} {d : Nat} {xs : List Int32} {s : xS} {T : Tw}
theorem r_ofk (hd : 1 ≤ d) (hT : refT s 111 0 T) (hW : tWf T) {m k : Nat} (hm : m < tM T) (hk : k < 2) {q : Option Value × xH} : x_ev g_M P d 199 [.ref 110, .int (nI m), .int (nI k)] (mkH xs s) q ↔ q = (some (.int (nI (tPa T m k))), mkH xs s) := by
  rcases (show k = 0 ∨ k = 1 by omega) with rfl | rfl
  · exact r_of0 hd hT hW hm
  · exact r_of1 hd hT hW hm
theorem tOth_k {T : Tw} (hW : tWf T) {m k : Nat} (hm : m < tM T) (hk : k < 2) : tOth T (tPa T m k) m = tPa T m (1 - k) := by
  rcases (show k = 0 ∨ k = 1 by omega) with rfl | rfl
  · exact tOth_0
  · exact tOth_1 hW hm
theorem r_weakStep (hd : 6 ≤ d) (hT : refT s 111 0 T) (hW : tWf T) {set : Int32} {m k : Nat} (hm : m < tM T) (hk : k < 2) (hdr : ¬ tDry T m = true) (a : Option Nat × Int32) (ha : 0 ≤ a.2) (h25 : s.1 110 25 = a.2) (o : Option Value) : ∃ s' o', off25 s s' ∧ s'.1 110 25 = (wk1 T set m k a).2 ∧ ∀ q, x_R (x_ev g_M P d) 289 (51, [some (.ref 110), some (.int set), some (.int (optI a.1)), some (.int (nI m)), some (.int (tFall T set m)), some (.int (nI k)), o], [], mkH xs s) q ↔ x_R (x_ev g_M P d) 289 (51, [some (.ref 110), some (.int set), some (.int (optI (wk1 T set m k a).1)), some (.int (nI m)), some (.int (tFall T set m)), some (.int (nI (k + 1))), o'], [], mkH xs s') q := by
  have w2 := hW.2.1
  have hc : ¬ (2 : Int32) ≤ nI k := nI_ge (b := 2) hk (by omega)
  have e1 : (1 : Int32) - nI k = nI (1 - k) := pk_sub (a := 1) (b := k) (by omega)
  have hg : tGbf T set m (tPa T m k) = if tAgr T (tPa T m (1 - k)) m (-tSum T (tPa T m (1 - k)) (tFall T set m)) = true then -tSum T (tPa T m k) (tFall T set m) else 0 := by
    unfold tGbf
    rw [tOth_k hW hm hk]
    by_cases h2 : tAgr T (tPa T m (1 - k)) m (-tSum T (tPa T m (1 - k)) (tFall T set m)) = true <;> simp [hdr, h2]
  have hle : -tSum T (tPa T m k) (tFall T set m) ≤ a.2 ↔ ¬ a.2 < -tSum T (tPa T m k) (tFall T set m) := Int32.not_lt.symm
  by_cases h1 : a.2 < -tSum T (tPa T m k) (tFall T set m)
  · by_cases h2 : tAgr T (tPa T m (1 - k)) m (-tSum T (tPa T m (1 - k)) (tFall T set m)) = true
    · have hw : wk1 T set m k a = (some m, -tSum T (tPa T m k) (tFall T set m)) := by unfold wk1; rw [hg, if_pos h2, if_pos h1]
      rw [hw]
      refine ⟨s_p s 110 25 (-tSum T (tPa T m k) (tFall T set m)), some (.int (-tSum T (tPa T m k) (tFall T set m))), off25.p, by simp [s_p], fun q => ?_⟩
      · simp only [w_Ref_weakOf_0, w_Ref_weakOf_7, w_Ref_weakOf_14, w_Ref_weakOf_16, w_Ref_weakOf_19, w_Ref_weakOf_24, w_Ref_weakOf_27, w_Ref_weakOf_33, w_Ref_weakOf_37, w_Ref_weakOf_40, w_Ref_weakOf_46, w_Ref_weakOf_57, w_Ref_weakOf_65, w_Ref_weakOf_70, w_Ref_weakOf_78, w_Ref_weakOf_81, w_Ref_weakOf_91, w_Ref_weakOf_97, w_Ref_weakOf_100, w_Ref_weakOf_103, w_Ref_weakOf_109, w_Ref_weakOf_111, w_Ref_weakOf_117, w_Ref_weakOf_123, w_Ref_weakOf_51 (l5 := nI k), c_110, f_110_0, p_110_0, f_110_1, f_110_2, f_110_3, f_110_4, f_110_5, p_110_5, f_110_6, f_110_7, p_110_7, f_110_8, p_110_8, f_110_9, p_110_9, f_110_10, p_110_10, f_110_11, p_110_11, f_110_12, p_110_12, f_110_13, p_110_13, f_110_14, f_110_15, f_110_16, p_110_16, f_110_17, f_110_18, p_110_18, f_110_19, p_110_19, f_110_20, f_110_21, p_110_21, f_110_22, p_110_22, f_110_23, f_110_24, f_110_25, p_110_25, f_110_26, f_110_27, f_110_28, f_110_29, f_110_30, f_110_31, p_110_31, f_110_32, p_110_32, f_110_33, p_110_33, f_110_34, p_110_34, f_110_35, f_110_36, f_110_37, f_110_38, Option.some.injEq, exists_eq_left', exists_eq_left, Option.toList_some, Option.toList_none, List.cons_append, List.nil_append, true_and, and_true, Option.map_some, Option.map_none, hc, if_false, r_ofk (d := d) (by omega) hT hW hm hk, r_swingOf (d := d) (by omega) hT hW (tPa_lt hW hm hk), h25, hle, h1, not_true_eq_false, e1, r_ofk (d := d) (by omega) hT hW hm (show 1 - k < 2 by omega), r_agrees (d := d) (by omega) hT hW (tPa_lt hW hm (show 1 - k < 2 by omega)) hm, h2, b01, if_true, show ¬ ((1 : Int32) = 0) by decide, not_false_eq_true, nI_1, optI]
    · have hw : wk1 T set m k a = a := by
        unfold wk1
        rw [hg, if_neg h2, if_neg (Int32.not_lt.mpr ha)]
      rw [hw]
      refine ⟨s, some (.int (-tSum T (tPa T m k) (tFall T set m))), off25.rf, h25, fun q => ?_⟩
      · simp only [w_Ref_weakOf_0, w_Ref_weakOf_7, w_Ref_weakOf_14, w_Ref_weakOf_16, w_Ref_weakOf_19, w_Ref_weakOf_24, w_Ref_weakOf_27, w_Ref_weakOf_33, w_Ref_weakOf_37, w_Ref_weakOf_40, w_Ref_weakOf_46, w_Ref_weakOf_57, w_Ref_weakOf_65, w_Ref_weakOf_70, w_Ref_weakOf_78, w_Ref_weakOf_81, w_Ref_weakOf_91, w_Ref_weakOf_97, w_Ref_weakOf_100, w_Ref_weakOf_103, w_Ref_weakOf_109, w_Ref_weakOf_111, w_Ref_weakOf_117, w_Ref_weakOf_123, w_Ref_weakOf_51 (l5 := nI k), c_110, f_110_0, p_110_0, f_110_1, f_110_2, f_110_3, f_110_4, f_110_5, p_110_5, f_110_6, f_110_7, p_110_7, f_110_8, p_110_8, f_110_9, p_110_9, f_110_10, p_110_10, f_110_11, p_110_11, f_110_12, p_110_12, f_110_13, p_110_13, f_110_14, f_110_15, f_110_16, p_110_16, f_110_17, f_110_18, p_110_18, f_110_19, p_110_19, f_110_20, f_110_21, p_110_21, f_110_22, p_110_22, f_110_23, f_110_24, f_110_25, p_110_25, f_110_26, f_110_27, f_110_28, f_110_29, f_110_30, f_110_31, p_110_31, f_110_32, p_110_32, f_110_33, p_110_33, f_110_34, p_110_34, f_110_35, f_110_36, f_110_37, f_110_38, Option.some.injEq, exists_eq_left', exists_eq_left, Option.toList_some, Option.toList_none, List.cons_append, List.nil_append, true_and, and_true, Option.map_some, Option.map_none, hc, if_false, r_ofk (d := d) (by omega) hT hW hm hk, r_swingOf (d := d) (by omega) hT hW (tPa_lt hW hm hk), h25, hle, h1, not_true_eq_false, e1, r_ofk (d := d) (by omega) hT hW hm (show 1 - k < 2 by omega), r_agrees (d := d) (by omega) hT hW (tPa_lt hW hm (show 1 - k < 2 by omega)) hm, h2, b01, Bool.false_eq_true, nI_1]
  · have hw : wk1 T set m k a = a := by
      unfold wk1
      rw [hg]
      by_cases h2 : tAgr T (tPa T m (1 - k)) m (-tSum T (tPa T m (1 - k)) (tFall T set m)) = true
      · rw [if_pos h2, if_neg h1]
      · rw [if_neg h2, if_neg (Int32.not_lt.mpr ha)]
    rw [hw]
    refine ⟨s, some (.int (-tSum T (tPa T m k) (tFall T set m))), off25.rf, h25, fun q => ?_⟩
    · simp only [w_Ref_weakOf_0, w_Ref_weakOf_7, w_Ref_weakOf_14, w_Ref_weakOf_16, w_Ref_weakOf_19, w_Ref_weakOf_24, w_Ref_weakOf_27, w_Ref_weakOf_33, w_Ref_weakOf_37, w_Ref_weakOf_40, w_Ref_weakOf_46, w_Ref_weakOf_57, w_Ref_weakOf_65, w_Ref_weakOf_70, w_Ref_weakOf_78, w_Ref_weakOf_81, w_Ref_weakOf_91, w_Ref_weakOf_97, w_Ref_weakOf_100, w_Ref_weakOf_103, w_Ref_weakOf_109, w_Ref_weakOf_111, w_Ref_weakOf_117, w_Ref_weakOf_123, w_Ref_weakOf_51 (l5 := nI k), c_110, f_110_0, p_110_0, f_110_1, f_110_2, f_110_3, f_110_4, f_110_5, p_110_5, f_110_6, f_110_7, p_110_7, f_110_8, p_110_8, f_110_9, p_110_9, f_110_10, p_110_10, f_110_11, p_110_11, f_110_12, p_110_12, f_110_13, p_110_13, f_110_14, f_110_15, f_110_16, p_110_16, f_110_17, f_110_18, p_110_18, f_110_19, p_110_19, f_110_20, f_110_21, p_110_21, f_110_22, p_110_22, f_110_23, f_110_24, f_110_25, p_110_25, f_110_26, f_110_27, f_110_28, f_110_29, f_110_30, f_110_31, p_110_31, f_110_32, p_110_32, f_110_33, p_110_33, f_110_34, p_110_34, f_110_35, f_110_36, f_110_37, f_110_38, Option.some.injEq, exists_eq_left', exists_eq_left, Option.toList_some, Option.toList_none, List.cons_append, List.nil_append, true_and, and_true, Option.map_some, Option.map_none, hc, if_false, r_ofk (d := d) (by omega) hT hW hm hk, r_swingOf (d := d) (by omega) hT hW (tPa_lt hW hm hk), h25, hle, h1, not_false_eq_true, if_true, nI_1]
theorem r_weakOf (hd : 7 ≤ d) (hT : refT s 111 0 T) (hW : tWf T) (set : Int32) : ∃ s', x_ev g_M P d 289 [.ref 110, .int set] (mkH xs s) (some (.int (optI (wkN T set (tM T)).1)), mkH xs s') ∧ off25 s s' := by
  have w2 := hW.2.1
  obtain ⟨d, rfl⟩ := x_1 (d := d) (by omega)
  have key := x_upX (C := x_ev g_M P d) (k := 289) (N := tM T) (β := {z : xS × Option Value × Option Value × Option Value // off25 s z.1}) (G := fun o => (some (.int (optI (wkN T set (tM T)).1)), mkH xs (s_p o.1.1 110 25 (wkN T set (tM T)).2))) (F := fun m o => (9, [some (.ref 110), some (.int set), some (.int (optI (wkN T set m).1)), some (.int (nI m)), o.1.2.1, o.1.2.2.1, o.1.2.2.2], [], mkH xs (s_p o.1.1 110 25 (wkN T set m).2))) (fun m o hm => by
      obtain ⟨⟨si, o4, o5, o6⟩, ho⟩ := o
      have hc : ¬ nI (tM T) ≤ nI m := nI_ge hm (by omega)
      have hT1 : refT (s_p si 110 25 (wkN T set m).2) 111 0 T := (off25.tr ho off25.p).T hT
      by_cases hb : bt set m = true
      · by_cases hdr : tDry T m = true
        · have hw : ∀ k, wk1 T set m k (wkN T set m) = wkN T set m := fun k => by
            unfold wk1 tGbf
            rw [if_neg]
            simp [hdr, wkN_pos T set m]
          refine ⟨⟨(si, o4, o5, o6), ho⟩, fun r => ?_⟩
          simp only [w_Ref_weakOf_0, w_Ref_weakOf_7, w_Ref_weakOf_14, w_Ref_weakOf_16, w_Ref_weakOf_19, w_Ref_weakOf_24, w_Ref_weakOf_27, w_Ref_weakOf_33, w_Ref_weakOf_37, w_Ref_weakOf_40, w_Ref_weakOf_46, w_Ref_weakOf_57, w_Ref_weakOf_65, w_Ref_weakOf_70, w_Ref_weakOf_78, w_Ref_weakOf_81, w_Ref_weakOf_91, w_Ref_weakOf_97, w_Ref_weakOf_100, w_Ref_weakOf_103, w_Ref_weakOf_109, w_Ref_weakOf_111, w_Ref_weakOf_117, w_Ref_weakOf_123, w_Ref_weakOf_9 (l3 := nI m), c_110, f_110_0, p_110_0, f_110_1, f_110_2, f_110_3, f_110_4, f_110_5, p_110_5, f_110_6, f_110_7, p_110_7, f_110_8, p_110_8, f_110_9, p_110_9, f_110_10, p_110_10, f_110_11, p_110_11, f_110_12, p_110_12, f_110_13, p_110_13, f_110_14, f_110_15, f_110_16, p_110_16, f_110_17, f_110_18, p_110_18, f_110_19, p_110_19, f_110_20, f_110_21, p_110_21, f_110_22, p_110_22, f_110_23, f_110_24, f_110_25, p_110_25, f_110_26, f_110_27, f_110_28, f_110_29, f_110_30, f_110_31, p_110_31, f_110_32, p_110_32, f_110_33, p_110_33, f_110_34, p_110_34, f_110_35, f_110_36, f_110_37, f_110_38, e_111, i_111, Option.some.injEq, exists_eq_left', exists_eq_left, Option.toList_some, Option.toList_none, List.cons_append, List.nil_append, true_and, and_true, Option.map_some, Option.map_none, x_w4 hT1, hc, if_false, r_bit (d := d) (by omega), bit_0 (show m < 32 by omega), hb, Bool.true_eq_false, r_of5 (d := d) (by omega) hT1 hW hm, b01_1, hdr, not_true_eq_false, nI_1, wkN, if_true, hw]
        · obtain ⟨s2, o2, x1, x2, x3⟩ := r_weakStep (P := P) (d := d) (xs := xs) (by omega) hT1 hW (set := set) hm (k := 0) (by omega) hdr (wkN T set m) (wkN_pos T set m) (by simp [s_p]) o6
          obtain ⟨s3, o3, y1, y2, y3⟩ := r_weakStep (P := P) (d := d) (xs := xs) (by omega) (x1.T hT1) hW (set := set) hm (k := 1) (by omega) hdr _ (wk1_pos (wkN_pos T set m)) x2 o2
          have es : s_p s3 110 25 (wkN T set (m + 1)).2 = s3 := by
            rw [wkN, if_pos hb, ← y2]
            unfold s_p
            ext1
            · funext q k
              simp only
              split
              · rename_i hh; rw [hh.1, hh.2]
              · rfl
            · rfl
          refine ⟨⟨(s3, some (.int (tFall T set m)), some (.int (nI 2)), o3), (off25.tr (off25.tr (off25.tr ho off25.p) x1) y1)⟩, fun r => ?_⟩
          simp only [es]
          simp only [w_Ref_weakOf_9 (l3 := nI m), w_Ref_weakOf_14, w_Ref_weakOf_16, w_Ref_weakOf_19, w_Ref_weakOf_24, w_Ref_weakOf_27, w_Ref_weakOf_33, w_Ref_weakOf_37, w_Ref_weakOf_40, w_Ref_weakOf_46, c_110, f_110_0, p_110_0, f_110_1, f_110_2, f_110_3, f_110_4, f_110_5, p_110_5, f_110_6, f_110_7, p_110_7, f_110_8, p_110_8, f_110_9, p_110_9, f_110_10, p_110_10, f_110_11, p_110_11, f_110_12, p_110_12, f_110_13, p_110_13, f_110_14, f_110_15, f_110_16, p_110_16, f_110_17, f_110_18, p_110_18, f_110_19, p_110_19, f_110_20, f_110_21, p_110_21, f_110_22, p_110_22, f_110_23, f_110_24, f_110_25, p_110_25, f_110_26, f_110_27, f_110_28, f_110_29, f_110_30, f_110_31, p_110_31, f_110_32, p_110_32, f_110_33, p_110_33, f_110_34, p_110_34, f_110_35, f_110_36, f_110_37, f_110_38, e_111, i_111, Option.some.injEq, exists_eq_left', exists_eq_left, Option.toList_some, Option.toList_none, List.cons_append, List.nil_append, true_and, and_true, Option.map_some, Option.map_none, x_w4 hT1, hc, if_false, r_bit (d := d) (by omega), bit_0 (show m < 32 by omega), hb, Bool.true_eq_false, r_of5 (d := d) (by omega) hT1 hW hm, b01_1, hdr, not_false_eq_true, if_true, r_fallIn (d := d) (by omega) hT1 hW hm]
          refine (x3 r).trans ((y3 r).trans ?_)
          simp only [w_Ref_weakOf_51 (l5 := nI (1 + 1)), show (2 : Int32) ≤ nI (1 + 1) from by decide, if_true, w_Ref_weakOf_117, nI_1, wkN, hb]
      · refine ⟨⟨(si, o4, o5, o6), ho⟩, fun r => ?_⟩
        have hb' : bt set m = false := by simpa using hb
        simp only [w_Ref_weakOf_0, w_Ref_weakOf_7, w_Ref_weakOf_14, w_Ref_weakOf_16, w_Ref_weakOf_19, w_Ref_weakOf_24, w_Ref_weakOf_27, w_Ref_weakOf_33, w_Ref_weakOf_37, w_Ref_weakOf_40, w_Ref_weakOf_46, w_Ref_weakOf_57, w_Ref_weakOf_65, w_Ref_weakOf_70, w_Ref_weakOf_78, w_Ref_weakOf_81, w_Ref_weakOf_91, w_Ref_weakOf_97, w_Ref_weakOf_100, w_Ref_weakOf_103, w_Ref_weakOf_109, w_Ref_weakOf_111, w_Ref_weakOf_117, w_Ref_weakOf_123, w_Ref_weakOf_9 (l3 := nI m), c_110, f_110_0, p_110_0, f_110_1, f_110_2, f_110_3, f_110_4, f_110_5, p_110_5, f_110_6, f_110_7, p_110_7, f_110_8, p_110_8, f_110_9, p_110_9, f_110_10, p_110_10, f_110_11, p_110_11, f_110_12, p_110_12, f_110_13, p_110_13, f_110_14, f_110_15, f_110_16, p_110_16, f_110_17, f_110_18, p_110_18, f_110_19, p_110_19, f_110_20, f_110_21, p_110_21, f_110_22, p_110_22, f_110_23, f_110_24, f_110_25, p_110_25, f_110_26, f_110_27, f_110_28, f_110_29, f_110_30, f_110_31, p_110_31, f_110_32, p_110_32, f_110_33, p_110_33, f_110_34, p_110_34, f_110_35, f_110_36, f_110_37, f_110_38, e_111, i_111, Option.some.injEq, exists_eq_left', exists_eq_left, Option.toList_some, Option.toList_none, List.cons_append, List.nil_append, true_and, and_true, Option.map_some, Option.map_none, x_w4 hT1, hc, if_false, r_bit (d := d) (by omega), bit_0 (show m < 32 by omega), hb', if_true, nI_1, wkN, Bool.false_eq_true]) (fun o => by
      have hT1 : refT (s_p o.1.1 110 25 (wkN T set (tM T)).2) 111 0 T := (off25.tr o.2 off25.p).T hT
      simp only [w_Ref_weakOf_0, w_Ref_weakOf_7, w_Ref_weakOf_14, w_Ref_weakOf_16, w_Ref_weakOf_19, w_Ref_weakOf_24, w_Ref_weakOf_27, w_Ref_weakOf_33, w_Ref_weakOf_37, w_Ref_weakOf_40, w_Ref_weakOf_46, w_Ref_weakOf_57, w_Ref_weakOf_65, w_Ref_weakOf_70, w_Ref_weakOf_78, w_Ref_weakOf_81, w_Ref_weakOf_91, w_Ref_weakOf_97, w_Ref_weakOf_100, w_Ref_weakOf_103, w_Ref_weakOf_109, w_Ref_weakOf_111, w_Ref_weakOf_117, w_Ref_weakOf_123, w_Ref_weakOf_9 (l3 := nI (tM T)), c_110, f_110_0, p_110_0, f_110_1, f_110_2, f_110_3, f_110_4, f_110_5, p_110_5, f_110_6, f_110_7, p_110_7, f_110_8, p_110_8, f_110_9, p_110_9, f_110_10, p_110_10, f_110_11, p_110_11, f_110_12, p_110_12, f_110_13, p_110_13, f_110_14, f_110_15, f_110_16, p_110_16, f_110_17, f_110_18, p_110_18, f_110_19, p_110_19, f_110_20, f_110_21, p_110_21, f_110_22, p_110_22, f_110_23, f_110_24, f_110_25, p_110_25, f_110_26, f_110_27, f_110_28, f_110_29, f_110_30, f_110_31, p_110_31, f_110_32, p_110_32, f_110_33, p_110_33, f_110_34, p_110_34, f_110_35, f_110_36, f_110_37, f_110_38, e_111, i_111, Option.some.injEq, exists_eq_left', exists_eq_left, Option.toList_some, Option.toList_none, List.cons_append, List.nil_append, true_and, and_true, Option.map_some, Option.map_none, x_w4 hT1, show nI (tM T) ≤ nI (tM T) from Int32.le_refl _, if_true]) (tM T) 0 ⟨(s, none, none, none), off25.rf⟩ (by omega)
  obtain ⟨⟨⟨s', o4, o5, o6⟩, ho⟩, e⟩ := key
  refine ⟨s_p s' 110 25 (wkN T set (tM T)).2, ?_, off25.tr ho off25.p⟩
  rw [x_ev_in rfl (Nat.le_of_ble_eq_true rfl)]
  rw [show x_ent (x_nL g_M 289) [.ref 110, .int set] = [some (.ref 110), some (.int set), none, none, none, none, none] from rfl]
  simp only [w_Ref_weakOf_0, w_Ref_weakOf_7, c_110, f_110_0, p_110_0, f_110_1, f_110_2, f_110_3, f_110_4, f_110_5, p_110_5, f_110_6, f_110_7, p_110_7, f_110_8, p_110_8, f_110_9, p_110_9, f_110_10, p_110_10, f_110_11, p_110_11, f_110_12, p_110_12, f_110_13, p_110_13, f_110_14, f_110_15, f_110_16, p_110_16, f_110_17, f_110_18, p_110_18, f_110_19, p_110_19, f_110_20, f_110_21, p_110_21, f_110_22, p_110_22, f_110_23, f_110_24, f_110_25, p_110_25, f_110_26, f_110_27, f_110_28, f_110_29, f_110_30, f_110_31, p_110_31, f_110_32, p_110_32, f_110_33, p_110_33, f_110_34, p_110_34, f_110_35, f_110_36, f_110_37, f_110_38, Option.some.injEq, exists_eq_left', exists_eq_left, Option.toList_some, Option.toList_none, List.cons_append, List.nil_append, true_and, and_true, Option.map_some, Option.map_none]
  exact e
theorem r_isFirm (hd : 8 ≤ d) (hT : refT s 111 0 T) (hW : tWf T) (set : Int32) : ∃ s', x_ev g_M P d 290 [.ref 110, .int set] (mkH xs s) (some (.int (b01 (tFirm T set))), mkH xs s') ∧ off25 s s' := by
  have w2 := hW.2.1
  have e := optI_e (o := (wkN T set (tM T)).1) (fun b hb => by have := wkN_lt T set _ b hb; omega)
  obtain ⟨d, rfl⟩ := x_1 (d := d) (by omega)
  obtain ⟨s1, q1, q2⟩ := r_weakOf (P := P) (d := d) (xs := xs) (by omega) hT hW set
  by_cases hcl : tClo T set = true
  · refine ⟨s1, ?_, q2⟩
    rw [x_ev_in rfl (Nat.le_of_ble_eq_true rfl)]
    rw [show x_ent (x_nL g_M 290) [.ref 110, .int set] = [some (.ref 110), some (.int set)] from rfl]
    simp only [w_Ref_isFirm_0, w_Ref_isFirm_5, w_Ref_isFirm_8, w_Ref_isFirm_13, w_Ref_isFirm_17, w_Ref_isFirm_21, w_Ref_isFirm_22, c_110, f_110_0, p_110_0, f_110_1, f_110_2, f_110_3, f_110_4, f_110_5, p_110_5, f_110_6, f_110_7, p_110_7, f_110_8, p_110_8, f_110_9, p_110_9, f_110_10, p_110_10, f_110_11, p_110_11, f_110_12, p_110_12, f_110_13, p_110_13, f_110_14, f_110_15, f_110_16, p_110_16, f_110_17, f_110_18, p_110_18, f_110_19, p_110_19, f_110_20, f_110_21, p_110_21, f_110_22, p_110_22, f_110_23, f_110_24, f_110_25, p_110_25, f_110_26, f_110_27, f_110_28, f_110_29, f_110_30, f_110_31, p_110_31, f_110_32, p_110_32, f_110_33, p_110_33, f_110_34, p_110_34, f_110_35, f_110_36, f_110_37, f_110_38, Option.some.injEq, exists_eq_left', exists_eq_left, Option.toList_some, Option.toList_none, List.cons_append, List.nil_append, true_and, and_true, Option.map_some, Option.map_none, r_isClosed (d := d) (by omega) hT hW, x_ev_iff q1, hcl, b01, if_true, show ¬ ((1 : Int32) = 0) by decide, if_false, x_nb0, x_nb1, tFirm, Bool.true_and, e]
    by_cases h2 : (wkN T set (tM T)).1.isNone = true <;> simp [h2]
  · refine ⟨s, ?_, off25.rf⟩
    rw [x_ev_in rfl (Nat.le_of_ble_eq_true rfl)]
    rw [show x_ent (x_nL g_M 290) [.ref 110, .int set] = [some (.ref 110), some (.int set)] from rfl]
    simp only [w_Ref_isFirm_0, w_Ref_isFirm_5, w_Ref_isFirm_8, w_Ref_isFirm_13, w_Ref_isFirm_17, w_Ref_isFirm_21, w_Ref_isFirm_22, c_110, f_110_0, p_110_0, f_110_1, f_110_2, f_110_3, f_110_4, f_110_5, p_110_5, f_110_6, f_110_7, p_110_7, f_110_8, p_110_8, f_110_9, p_110_9, f_110_10, p_110_10, f_110_11, p_110_11, f_110_12, p_110_12, f_110_13, p_110_13, f_110_14, f_110_15, f_110_16, p_110_16, f_110_17, f_110_18, p_110_18, f_110_19, p_110_19, f_110_20, f_110_21, p_110_21, f_110_22, p_110_22, f_110_23, f_110_24, f_110_25, p_110_25, f_110_26, f_110_27, f_110_28, f_110_29, f_110_30, f_110_31, p_110_31, f_110_32, p_110_32, f_110_33, p_110_33, f_110_34, p_110_34, f_110_35, f_110_36, f_110_37, f_110_38, Option.some.injEq, exists_eq_left', exists_eq_left, Option.toList_some, Option.toList_none, List.cons_append, List.nil_append, true_and, and_true, Option.map_some, Option.map_none, r_isClosed (d := d) (by omega) hT hW, hcl, b01, Bool.false_eq_true, if_false, if_true, x_nb0, tFirm, Bool.false_and]
end FIRM2
