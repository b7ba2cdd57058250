/-! WHAT HAS COME OF A TOWN: the class's State at p, what it answers (own work) -/
/-- what is settled, in its order; what was drunk; the level; the cups -/
abbrev As : Type := List Nat × Int32 × Int32 × (Nat → Int32)
abbrev lo (L : List Nat) (i : Nat) : Nat := L.getD i 0
def msk : List Nat → Int32
  | [] => 0
  | m :: L => on1 m ||| msk L
theorem b_msk {i : Nat} (hi : i < 32) : ∀ {L : List Nat}, (∀ m ∈ L, m < 32) → bt (msk L) i = decide (i ∈ L) := by
  intro L
  induction L with
  | nil => intro _; simp [msk, b_0]
  | cons m L ih =>
    intro h
    rw [msk, b_or, b_on (h m List.mem_cons_self) hi, ih (fun x hx => h x (List.mem_cons_of_mem _ hx))]
    simp
def aWf (T : Tw) (A : As) : Prop := (∀ m ∈ A.1, m < tM T) ∧ A.1.Nodup ∧ A.1.length ≤ 8
/-- the State at p -/
def clsS (s : xS) (p : Nat) (T : Tw) (A : As) : Prop := s.1 p 1 = msk A.1 ∧ s.1 p 2 = A.2.1 ∧ s.1 p 3 = A.2.2.1 ∧ s.1 p 4 = nI A.1.length ∧ (∀ i, i < A.1.length → s.1 (p + 1) i = nI (lo A.1 i)) ∧ ∀ j, j < tP T → s.1 (p + 2) j = A.2.2.2 j
def tOpen (T : Tw) (set : Int32) (m : Nat) : Bool := !bt set m && decide ((tOn T m &&& (set ^^^ (-1))) = 0)
/-- bits that a test chooses -/
def mkM (f : Nat → Bool) : Nat → Int32
  | 0 => 0
  | n + 1 => if f n = true then mkM f n ||| on1 n else mkM f n
def lastN (T : Tw) (L : List Nat) (p : Nat) : Nat → Option Nat
  | 0 => none
  | n + 1 => if tIs T p (lo L n) = true then some (lo L n) else lastN T L p n
def aLast (T : Tw) (A : As) (p : Nat) : Option Nat := lastN T A.1 p A.1.length
def optI : Option Nat → Int32
  | none => -1
  | some m => nI m
def tOth (T : Tw) (p m : Nat) : Nat := if tPa T m 0 = p then tPa T m 1 else tPa T m 0
def aWhy (T : Tw) (A : As) (p : Nat) : Int32 := match aLast T A p with
  | none => 1
  | some m => if tDry T m = true then 2 else if bt A.2.1 m = true then 3 else if A.2.2.2 p < 1 then 4 else if A.2.2.1 < 1 then 5 else if tAgr T (tOth T p m) m (-tSum T (tOth T p m) (tFall T (msk A.1) m)) = true then 0 else 6
def aWil (T : Tw) (A : As) (p : Nat) : Bool := match aLast T A p with
  | none => false
  | some m => decide (aWhy T A p = 0) && decide (0 < -tSum T p (tFall T (msk A.1) m))
theorem lastN_in {T : Tw} {L : List Nat} {p m : Nat} : ∀ {n : Nat}, n ≤ L.length → lastN T L p n = some m → m ∈ L ∧ tIs T p m = true := by
  intro n
  induction n with
  | zero => intro _ h; cases h
  | succ n ih =>
    intro hn h
    rw [lastN] at h
    split at h
    · rename_i hc
      cases h
      refine ⟨?_, hc⟩
      unfold lo
      rw [List.getD_eq_getElem?_getD, List.getElem?_eq_getElem (by omega)]
      exact List.getElem_mem _
    · exact ih (by omega) h
theorem aWhy_last {T : Tw} {A : As} {p : Nat} (h : aWhy T A p = 0) : ∃ m, aLast T A p = some m := by
  unfold aWhy at h
  cases hl : aLast T A p with
  | none => rw [hl] at h; exact absurd h (show ¬ ((1 : Int32) = 0) by decide)
  | some m => exact ⟨m, rfl⟩
section STATE
variable {P : Nat → List Value → Option Value} {d : Nat} {xs : List Int32} {s : xS} {T : Tw} {A : As} {p : Nat} {q : Option Value × xH}
theorem t_bitOf (hd : 1 ≤ d) (a b : Int32) : x_ev g_M P d 117 [.int a, .int b] (mkH xs s) q ↔ q = (some (.int ((a >>> (b &&& 31)) &&& 1)), mkH xs s) := by
  obtain ⟨d, rfl⟩ := x_1 (d := d) (by omega)
  rw [x_ev_in rfl (Nat.le_of_ble_eq_true rfl)]
  rw [show x_ent (x_nL g_M 117) [.int a, .int b] = [some (.int a), some (.int b)] from rfl]
  simp only [w_Top_bitOf_0]
  exact eq_comm
theorem s_isOpen (hd : 2 ≤ d) (hp : p ∈ g_SP) (hT : clsT s 3 T) (hW : tWf T) (hA : clsS s p T A) {m : Nat} (hm : m < tM T) : x_ev g_M P d 69 [.ref p, .int (nI m)] (mkH xs s) q ↔ q = (some (.int (if tOpen T (msk A.1) m = true then 1 else 0)), mkH xs s) := by
  obtain ⟨⟨t0, t1, t2, t3, t4, t5⟩, t6, t7, t8, t9, t10, t11, t12, t13⟩ := hT
  obtain ⟨w1, w2, w3, w4⟩ := hW
  obtain ⟨a1, a2, a3, a4, a5, a6⟩ := hA
  obtain ⟨d, rfl⟩ := x_1 (d := d) (by omega)
  rw [x_ev_in rfl (Nat.le_of_ble_eq_true rfl)]
  rw [show x_ent (x_nL g_M 69) [.ref p, .int (nI m)] = [some (.ref p), some (.int (nI m))] from rfl]
  have hx : x_rd (s.1 7) 8 (nI m) = some (tOn T m) := by rw [x_rd_nI (by omega) (by omega), t12 m hm]
  simp only [w_State_isOpen_0, w_State_isOpen_4, w_State_isOpen_8, w_State_isOpen_11, w_State_isOpen_15, w_State_isOpen_18, w_State_isOpen_20, w_State_isOpen_24, w_State_isOpen_30, w_State_isOpen_34, w_State_isOpen_35, cS hp, fS0 hp, fS1 hp, fS2 hp, fS3 hp, fS4 hp, fS5 hp, fS6 hp, pS1 hp, pS2 hp, pS3 hp, pS4 hp, eS1 hp, eS2 hp, iS1 hp, iS2 hp, c_3, f_3_0, p_3_0, f_3_1, p_3_1, f_3_2, p_3_2, f_3_3, p_3_3, f_3_4, p_3_4, f_3_5, p_3_5, f_3_6, p_3_6, f_3_7, p_3_7, f_3_8, p_3_8, f_3_9, f_3_10, f_3_11, f_3_12, f_3_13, e_7, i_7, Option.some.injEq, exists_eq_left', exists_eq_left, Option.toList_some, Option.toList_none, List.cons_append, List.nil_append, true_and, and_true, Option.map_some, Option.map_none, x_nb0, x_nb1, t_bitOf (d := d) (by omega), bit_0 (show m < 32 by omega), a1, hx]
  unfold tOpen
  by_cases h1 : bt (msk A.1) m = false
  · by_cases h2 : (tOn T m &&& (msk A.1 ^^^ (-1))) = 0
    · simp only [h1, h2, not_true_eq_false, if_false, Bool.not_false, decide_true, Bool.and_self, if_true]
      exact eq_comm
    · simp only [h1, h2, not_true_eq_false, not_false_eq_true, if_false, if_true, Bool.not_false, decide_false, Bool.and_false, Bool.false_eq_true]
      exact eq_comm
  · have h1' : bt (msk A.1) m = true := by simpa using h1
    simp only [h1', not_false_eq_true, if_true, Bool.not_true, Bool.false_and, Bool.false_eq_true, if_false, Bool.true_eq_false]
    exact eq_comm
set_option maxHeartbeats 4000000 in
theorem s_openOnes (hd : 3 ≤ d) (hp : p ∈ g_SP) (hT : clsT s 3 T) (hW : tWf T) (hA : clsS s p T A) : x_ev g_M P d 70 [.ref p] (mkH xs s) q ↔ q = (some (.int (mkM (fun m => tOpen T (msk A.1) m) (tM T))), mkH xs s) := by
  have hT0 := hT
  have hW0 := hW
  obtain ⟨⟨t0, t1, t2, t3, t4, t5⟩, t6, t7, t8, t9, t10, t11, t12, t13⟩ := hT
  obtain ⟨w1, w2, w3, w4⟩ := hW
  obtain ⟨d, rfl⟩ := x_1 (d := d) (by omega)
  rw [x_ev_in rfl (Nat.le_of_ble_eq_true rfl)]
  rw [show x_ent (x_nL g_M 70) [.ref p] = [some (.ref p), none, none] from rfl]
  rw [w_State_openOnes_0]
  have key := x_up (C := x_ev g_M P d) (k := 70) (r := q) (N := tM T) (F := fun m => (4, [some (.ref p), some (.int (mkM (fun m => tOpen T (msk A.1) m) m)), some (.int (nI m))], [], mkH xs s)) (fun m hm => by
    have hc : ¬ nI (tM T) ≤ nI m := nI_ge hm (by omega)
    simp only [w_State_openOnes_0, w_State_openOnes_9, w_State_openOnes_12, w_State_openOnes_15, w_State_openOnes_20, w_State_openOnes_23, w_State_openOnes_29, w_State_openOnes_35, w_State_openOnes_4 (l2 := nI m), cS hp, fS0 hp, fS1 hp, fS2 hp, fS3 hp, fS4 hp, fS5 hp, fS6 hp, pS1 hp, pS2 hp, pS3 hp, pS4 hp, eS1 hp, eS2 hp, iS1 hp, iS2 hp, c_3, f_3_0, p_3_0, f_3_1, p_3_1, f_3_2, p_3_2, f_3_3, p_3_3, f_3_4, p_3_4, f_3_5, p_3_5, f_3_6, p_3_6, f_3_7, p_3_7, f_3_8, p_3_8, f_3_9, f_3_10, f_3_11, f_3_12, f_3_13, Option.some.injEq, exists_eq_left', exists_eq_left, Option.toList_some, Option.toList_none, List.cons_append, List.nil_append, true_and, and_true, Option.map_some, Option.map_none, t5, hc, if_false, s_isOpen (d := d) (by omega) hp hT0 hW0 hA hm, nI_1, mkM]
    by_cases hb : tOpen T (msk A.1) m = true
    · simp only [hb, if_true, show ¬ ((1 : Int32) = 0) by decide, if_false]
      rfl
    · simp only [hb, if_true, if_false, Bool.false_eq_true]) 0 (Nat.zero_le _)
  refine key.trans ?_
  simp only [w_State_openOnes_0, w_State_openOnes_9, w_State_openOnes_12, w_State_openOnes_15, w_State_openOnes_20, w_State_openOnes_23, w_State_openOnes_29, w_State_openOnes_35, w_State_openOnes_4 (l2 := nI (tM T)), cS hp, fS0 hp, fS1 hp, fS2 hp, fS3 hp, fS4 hp, fS5 hp, fS6 hp, pS1 hp, pS2 hp, pS3 hp, pS4 hp, eS1 hp, eS2 hp, iS1 hp, iS2 hp, c_3, f_3_0, p_3_0, f_3_1, p_3_1, f_3_2, p_3_2, f_3_3, p_3_3, f_3_4, p_3_4, f_3_5, p_3_5, f_3_6, p_3_6, f_3_7, p_3_7, f_3_8, p_3_8, f_3_9, f_3_10, f_3_11, f_3_12, f_3_13, Option.some.injEq, exists_eq_left', exists_eq_left, Option.toList_some, Option.toList_none, List.cons_append, List.nil_append, true_and, and_true, Option.map_some, Option.map_none, t5, show nI (tM T) ≤ nI (tM T) from Int32.le_refl _, if_true]
  exact eq_comm
theorem lo_lt (hAw : aWf T A) {i : Nat} (hi : i < A.1.length) : lo A.1 i < tM T := by
  refine hAw.1 _ ?_
  unfold lo
  rw [List.getD_eq_getElem?_getD, List.getElem?_eq_getElem hi]
  exact List.getElem_mem _
theorem nI_dn (n : Nat) : nI n + (-1) = nI n - 1 := by rw [Int32.sub_eq_add_neg]
set_option maxHeartbeats 4000000 in
theorem s_lastOf (hd : 1 ≤ d) (hp : p ∈ g_SP) (hT : clsT s 3 T) (hW : tWf T) (hA : clsS s p T A) (hAw : aWf T A) {j : Nat} (hj : j < tP T) : x_ev g_M P d 71 [.ref p, .int (nI j)] (mkH xs s) q ↔ q = (some (.int (optI (aLast T A j))), mkH xs s) := by
  obtain ⟨⟨t0, t1, t2, t3, t4, t5⟩, t6, t7, t8, t9, t10, t11, t12, t13⟩ := hT
  obtain ⟨w1, w2, w3, w4⟩ := hW
  obtain ⟨a1, a2, a3, a4, a5, a6⟩ := hA
  obtain ⟨d, rfl⟩ := x_1 (d := d) (by omega)
  rw [x_ev_in rfl (Nat.le_of_ble_eq_true rfl)]
  rw [show x_ent (x_nL g_M 71) [.ref p, .int (nI j)] = [some (.ref p), some (.int (nI j)), none] from rfl]
  have hm : x_rd (s.1 5) 6 (nI j) = some (s.1 5 j) := x_rd_nI (by omega) (by omega)
  have key : ∀ n, n ≤ A.1.length → (x_R (x_ev g_M P d) 71 (7, [some (.ref p), some (.int (nI j)), some (.int (nI n - 1))], [], mkH xs s) q ↔ q = (some (.int (optI (lastN T A.1 j n))), mkH xs s)) := by
    intro n
    induction n with
    | zero =>
      intro _
      simp only [w_State_lastOf_0, w_State_lastOf_4, w_State_lastOf_7, w_State_lastOf_11, w_State_lastOf_15, w_State_lastOf_18, w_State_lastOf_20, w_State_lastOf_24, w_State_lastOf_26, w_State_lastOf_33, w_State_lastOf_37, w_State_lastOf_39, w_State_lastOf_40, w_State_lastOf_46, show nI 0 - 1 < 0 by decide, if_true, lastN, optI]
      exact eq_comm
    | succ n ih =>
      intro hn
      have h8 : A.1.length ≤ 8 := hAw.2.2
      have hlt : lo A.1 n < tM T := lo_lt hAw (by omega)
      have ho : x_rd (s.1 (p + 1)) 8 (nI n) = some (nI (lo A.1 n)) := by rw [x_rd_nI (by omega) (by omega), a5 n (by omega)]
      have hb : bt (s.1 5 j) (lo A.1 n) = true ↔ tIs T j (lo A.1 n) = true := (t10 j hj _).trans ⟨fun z => z.2, fun z => ⟨hlt, z⟩⟩
      rw [nI_pred]
      simp only [w_State_lastOf_0, w_State_lastOf_4, w_State_lastOf_11, w_State_lastOf_15, w_State_lastOf_18, w_State_lastOf_20, w_State_lastOf_24, w_State_lastOf_26, w_State_lastOf_33, w_State_lastOf_37, w_State_lastOf_39, w_State_lastOf_40, w_State_lastOf_46, w_State_lastOf_7 (l2 := nI n), cS hp, fS0 hp, fS1 hp, fS2 hp, fS3 hp, fS4 hp, fS5 hp, fS6 hp, pS1 hp, pS2 hp, pS3 hp, pS4 hp, eS1 hp, eS2 hp, iS1 hp, iS2 hp, c_3, f_3_0, p_3_0, f_3_1, p_3_1, f_3_2, p_3_2, f_3_3, p_3_3, f_3_4, p_3_4, f_3_5, p_3_5, f_3_6, p_3_6, f_3_7, p_3_7, f_3_8, p_3_8, f_3_9, f_3_10, f_3_11, f_3_12, f_3_13, e_5, i_5, Option.some.injEq, exists_eq_left', exists_eq_left, Option.toList_some, Option.toList_none, List.cons_append, List.nil_append, true_and, and_true, Option.map_some, Option.map_none, nI_pos (show n < 2 ^ 31 by omega), if_false, hm, ho, bit_1 (show lo A.1 n < 32 by omega), hb, nI_dn]
      rw [lastN]
      by_cases hi : tIs T j (lo A.1 n) = true
      · simp only [hi, not_true_eq_false, if_false, if_true, optI]
        exact eq_comm
      · simp only [hi, not_false_eq_true, if_true, if_false, Bool.false_eq_true]
        exact ih (by omega)
  simp only [w_State_lastOf_0, w_State_lastOf_4, w_State_lastOf_11, w_State_lastOf_15, w_State_lastOf_18, w_State_lastOf_20, w_State_lastOf_24, w_State_lastOf_26, w_State_lastOf_33, w_State_lastOf_37, w_State_lastOf_39, w_State_lastOf_40, w_State_lastOf_46, cS hp, fS0 hp, fS1 hp, fS2 hp, fS3 hp, fS4 hp, fS5 hp, fS6 hp, pS1 hp, pS2 hp, pS3 hp, pS4 hp, eS1 hp, eS2 hp, iS1 hp, iS2 hp, Option.some.injEq, exists_eq_left', exists_eq_left, Option.toList_some, Option.toList_none, List.cons_append, List.nil_append, true_and, and_true, Option.map_some, Option.map_none, a4]
  exact key A.1.length (Nat.le_refl _)
set_option maxHeartbeats 4000000 in
theorem s_whyNot (hd : 2 ≤ d) (hp : p ∈ g_SP) (hT : clsT s 3 T) (hW : tWf T) (hA : clsS s p T A) (hAw : aWf T A) {j : Nat} (hj : j < tP T) : x_ev g_M P d 72 [.ref p, .int (nI j)] (mkH xs s) q ↔ q = (some (.int (aWhy T A j)), mkH xs s) := by
  have hT0 := hT
  have hW0 := hW
  have hA0 := hA
  obtain ⟨⟨t0, t1, t2, t3, t4, t5⟩, t6, t7, t8, t9, t10, t11, t12, t13⟩ := hT
  obtain ⟨w1, w2, w3, w4⟩ := hW
  obtain ⟨a1, a2, a3, a4, a5, a6⟩ := hA
  obtain ⟨d, rfl⟩ := x_1 (d := d) (by omega)
  rw [x_ev_in rfl (Nat.le_of_ble_eq_true rfl)]
  rw [show x_ent (x_nL g_M 72) [.ref p, .int (nI j)] = [some (.ref p), some (.int (nI j)), none, none, none] from rfl]
  simp only [w_State_whyNot_0, w_State_whyNot_5, w_State_whyNot_10, cS hp, fS0 hp, fS1 hp, fS2 hp, fS3 hp, fS4 hp, fS5 hp, fS6 hp, pS1 hp, pS2 hp, pS3 hp, pS4 hp, eS1 hp, eS2 hp, iS1 hp, iS2 hp, Option.some.injEq, exists_eq_left', exists_eq_left, Option.toList_some, Option.toList_none, List.cons_append, List.nil_append, true_and, and_true, Option.map_some, Option.map_none, s_lastOf (d := d) (by omega) hp hT0 hW0 hA0 hAw hj]
  unfold aWhy
  cases hl : aLast T A j with
  | none =>
    simp only [optI, show ¬ (0 : Int32) ≤ -1 by decide, if_false]
    exact eq_comm
  | some m =>
    obtain ⟨hmL, hmI⟩ := lastN_in (Nat.le_refl _) hl
    have hm : m < tM T := hAw.1 m hmL
    have hc : x_rd (s.1 (p + 2)) 6 (nI j) = some (A.2.2.2 j) := by rw [x_rd_nI (by omega) (by omega), a6 j hj]
    have ho : tOth T j m < tP T := by
      have := w3 m hm
      unfold tOth
      split <;> omega
    simp only [optI, nI_pos' (show m < 2 ^ 31 by omega), if_true, w_State_whyNot_12, w_State_whyNot_16, w_State_whyNot_19, w_State_whyNot_23, w_State_whyNot_27, w_State_whyNot_29, w_State_whyNot_33, w_State_whyNot_37, w_State_whyNot_41, w_State_whyNot_43, w_State_whyNot_47, w_State_whyNot_49, w_State_whyNot_53, w_State_whyNot_55, w_State_whyNot_59, w_State_whyNot_63, w_State_whyNot_65, w_State_whyNot_69, w_State_whyNot_74, w_State_whyNot_79, w_State_whyNot_84, w_State_whyNot_88, w_State_whyNot_92, w_State_whyNot_95, w_State_whyNot_102, w_State_whyNot_109, w_State_whyNot_112, w_State_whyNot_116, w_State_whyNot_118, cS hp, fS0 hp, fS1 hp, fS2 hp, fS3 hp, fS4 hp, fS5 hp, fS6 hp, pS1 hp, pS2 hp, pS3 hp, pS4 hp, eS1 hp, eS2 hp, iS1 hp, iS2 hp, c_3, f_3_0, p_3_0, f_3_1, p_3_1, f_3_2, p_3_2, f_3_3, p_3_3, f_3_4, p_3_4, f_3_5, p_3_5, f_3_6, p_3_6, f_3_7, p_3_7, f_3_8, p_3_8, f_3_9, f_3_10, f_3_11, f_3_12, f_3_13, Option.some.injEq, exists_eq_left', exists_eq_left, Option.toList_some, Option.toList_none, List.cons_append, List.nil_append, true_and, and_true, Option.map_some, Option.map_none, t_bitOf (d := d) (by omega), bit_1 (show m < 32 by omega), t7 m hm, a1, a2, a3, hc, t_otherParty (d := d) (by omega) hT0 hW0 hm hj, show (if tPa T m 0 = j then tPa T m 1 else tPa T m 0) = tOth T j m from rfl, t_fallIn (d := d) (by omega) hT0 hW0 hm, t_sumOf (d := d) (by omega) hT0 hW0 ho, t_agrees (d := d) (by omega) hT0 hW0 ho hm]
    by_cases h1 : tDry T m = true
    · simp only [h1, not_true_eq_false, if_false, if_true]
      exact eq_comm
    by_cases h2 : bt A.2.1 m = true
    · simp only [h1, h2, not_true_eq_false, not_false_eq_true, if_false, if_true, Bool.false_eq_true]
      exact eq_comm
    by_cases h3 : A.2.2.2 j < 1
    · have h3' : ¬ (1 : Int32) ≤ A.2.2.2 j := Int32.not_le.mpr h3
      simp only [h1, h2, h3, h3', not_true_eq_false, not_false_eq_true, if_false, if_true, Bool.false_eq_true]
      exact eq_comm
    have h3' : (1 : Int32) ≤ A.2.2.2 j := Int32.not_lt.mp h3
    by_cases h4 : A.2.2.1 < 1
    · have h4' : ¬ (1 : Int32) ≤ A.2.2.1 := Int32.not_le.mpr h4
      simp only [h1, h2, h3, h3', h4, h4', not_true_eq_false, not_false_eq_true, if_false, if_true, Bool.false_eq_true]
      exact eq_comm
    have h4' : (1 : Int32) ≤ A.2.2.1 := Int32.not_lt.mp h4
    by_cases h5 : tAgr T (tOth T j m) m (-tSum T (tOth T j m) (tFall T (msk A.1) m)) = true
    · simp only [h1, h2, h3, h3', h4, h4', h5, not_true_eq_false, not_false_eq_true, if_false, if_true, Bool.false_eq_true, show ¬ ((1 : Int32) = 0) by decide]
      exact eq_comm
    · simp only [h1, h2, h3, h3', h4, h4', h5, not_true_eq_false, not_false_eq_true, if_false, if_true, Bool.false_eq_true]
      exact eq_comm
set_option maxHeartbeats 4000000 in
theorem s_isWilling (hd : 3 ≤ d) (hp : p ∈ g_SP) (hT : clsT s 3 T) (hW : tWf T) (hA : clsS s p T A) (hAw : aWf T A) {j : Nat} (hj : j < tP T) : x_ev g_M P d 73 [.ref p, .int (nI j)] (mkH xs s) q ↔ q = (some (.int (if aWil T A j = true then 1 else 0)), mkH xs s) := by
  have a1 := hA.1
  obtain ⟨d, rfl⟩ := x_1 (d := d) (by omega)
  rw [x_ev_in rfl (Nat.le_of_ble_eq_true rfl)]
  rw [show x_ent (x_nL g_M 73) [.ref p, .int (nI j)] = [some (.ref p), some (.int (nI j))] from rfl]
  simp only [w_State_isWilling_0, w_State_isWilling_5, cS hp, fS0 hp, fS1 hp, fS2 hp, fS3 hp, fS4 hp, fS5 hp, fS6 hp, pS1 hp, pS2 hp, pS3 hp, pS4 hp, eS1 hp, eS2 hp, iS1 hp, iS2 hp, Option.some.injEq, exists_eq_left', exists_eq_left, Option.toList_some, Option.toList_none, List.cons_append, List.nil_append, true_and, and_true, Option.map_some, Option.map_none, s_whyNot (d := d) (by omega) hp hT hW hA hAw hj]
  unfold aWil
  by_cases h0 : aWhy T A j = 0
  · obtain ⟨m, hl⟩ := aWhy_last h0
    obtain ⟨hmL, hmI⟩ := lastN_in (Nat.le_refl _) hl
    have hm : m < tM T := hAw.1 m hmL
    simp only [h0, not_true_eq_false, if_false, w_State_isWilling_8, w_State_isWilling_12, w_State_isWilling_17, w_State_isWilling_21, w_State_isWilling_26, w_State_isWilling_29, w_State_isWilling_32, w_State_isWilling_35, w_State_isWilling_39, w_State_isWilling_40, cS hp, fS0 hp, fS1 hp, fS2 hp, fS3 hp, fS4 hp, fS5 hp, fS6 hp, pS1 hp, pS2 hp, pS3 hp, pS4 hp, eS1 hp, eS2 hp, iS1 hp, iS2 hp, c_3, f_3_0, p_3_0, f_3_1, p_3_1, f_3_2, p_3_2, f_3_3, p_3_3, f_3_4, p_3_4, f_3_5, p_3_5, f_3_6, p_3_6, f_3_7, p_3_7, f_3_8, p_3_8, f_3_9, f_3_10, f_3_11, f_3_12, f_3_13, Option.some.injEq, exists_eq_left', exists_eq_left, Option.toList_some, Option.toList_none, List.cons_append, List.nil_append, true_and, and_true, Option.map_some, Option.map_none, x_nb0, x_nb1, s_lastOf (d := d) (by omega) hp hT hW hA hAw hj, hl, optI, a1, t_fallIn (d := d) (by omega) hT hW hm, t_swingOf (d := d) (by omega) hT hW hj, decide_true, Bool.true_and, decide_eq_true_eq]
    by_cases h1 : 0 < -tSum T j (tFall T (msk A.1) m)
    · have h1' : ¬ -tSum T j (tFall T (msk A.1) m) ≤ 0 := Int32.not_le.mpr h1
      simp only [h1, h1', if_true, if_false]
      exact eq_comm
    · have h1' : -tSum T j (tFall T (msk A.1) m) ≤ 0 := Int32.not_lt.mp h1
      simp only [h1, h1', if_true, if_false]
      exact eq_comm
  · simp only [h0, not_false_eq_true, if_true, w_State_isWilling_8, w_State_isWilling_12, w_State_isWilling_17, w_State_isWilling_21, w_State_isWilling_26, w_State_isWilling_29, w_State_isWilling_32, w_State_isWilling_35, w_State_isWilling_39, w_State_isWilling_40, x_nb0, Option.some.injEq, exists_eq_left', exists_eq_left, Option.toList_some, Option.toList_none, List.cons_append, List.nil_append, true_and, and_true, Option.map_some, Option.map_none]
    cases aLast T A j <;> simp [eq_comm (a := q)]
set_option maxHeartbeats 4000000 in
theorem s_wishers (hd : 4 ≤ d) (hp : p ∈ g_SP) (hT : clsT s 3 T) (hW : tWf T) (hA : clsS s p T A) (hAw : aWf T A) : x_ev g_M P d 74 [.ref p] (mkH xs s) q ↔ q = (some (.int (mkM (fun j => aWil T A j) (tP T))), mkH xs s) := by
  have t4 := hT.1.2.2.2.2.1
  have w1 := hW.1
  obtain ⟨d, rfl⟩ := x_1 (d := d) (by omega)
  rw [x_ev_in rfl (Nat.le_of_ble_eq_true rfl)]
  rw [show x_ent (x_nL g_M 74) [.ref p] = [some (.ref p), none, none] from rfl]
  rw [w_State_wishers_0]
  have key := x_up (C := x_ev g_M P d) (k := 74) (r := q) (N := tP T) (F := fun m => (4, [some (.ref p), some (.int (mkM (fun j => aWil T A j) m)), some (.int (nI m))], [], mkH xs s)) (fun m hm => by
    have hc : ¬ nI (tP T) ≤ nI m := nI_ge hm (by omega)
    simp only [w_State_wishers_0, w_State_wishers_9, w_State_wishers_12, w_State_wishers_15, w_State_wishers_20, w_State_wishers_23, w_State_wishers_29, w_State_wishers_35, w_State_wishers_4 (l2 := nI m), cS hp, fS0 hp, fS1 hp, fS2 hp, fS3 hp, fS4 hp, fS5 hp, fS6 hp, pS1 hp, pS2 hp, pS3 hp, pS4 hp, eS1 hp, eS2 hp, iS1 hp, iS2 hp, c_3, f_3_0, p_3_0, f_3_1, p_3_1, f_3_2, p_3_2, f_3_3, p_3_3, f_3_4, p_3_4, f_3_5, p_3_5, f_3_6, p_3_6, f_3_7, p_3_7, f_3_8, p_3_8, f_3_9, f_3_10, f_3_11, f_3_12, f_3_13, Option.some.injEq, exists_eq_left', exists_eq_left, Option.toList_some, Option.toList_none, List.cons_append, List.nil_append, true_and, and_true, Option.map_some, Option.map_none, t4, hc, if_false, s_isWilling (d := d) (by omega) hp hT hW hA hAw hm, nI_1, mkM]
    by_cases hb : aWil T A m = true
    · simp only [hb, if_true, show ¬ ((1 : Int32) = 0) by decide, if_false]
      rfl
    · simp only [hb, if_true, if_false, Bool.false_eq_true]) 0 (Nat.zero_le _)
  refine key.trans ?_
  simp only [w_State_wishers_0, w_State_wishers_9, w_State_wishers_12, w_State_wishers_15, w_State_wishers_20, w_State_wishers_23, w_State_wishers_29, w_State_wishers_35, w_State_wishers_4 (l2 := nI (tP T)), cS hp, fS0 hp, fS1 hp, fS2 hp, fS3 hp, fS4 hp, fS5 hp, fS6 hp, pS1 hp, pS2 hp, pS3 hp, pS4 hp, eS1 hp, eS2 hp, iS1 hp, iS2 hp, c_3, f_3_0, p_3_0, f_3_1, p_3_1, f_3_2, p_3_2, f_3_3, p_3_3, f_3_4, p_3_4, f_3_5, p_3_5, f_3_6, p_3_6, f_3_7, p_3_7, f_3_8, p_3_8, f_3_9, f_3_10, f_3_11, f_3_12, f_3_13, Option.some.injEq, exists_eq_left', exists_eq_left, Option.toList_some, Option.toList_none, List.cons_append, List.nil_append, true_and, and_true, Option.map_some, Option.map_none, t4, show nI (tP T) ≤ nI (tP T) from Int32.le_refl _, if_true]
  exact eq_comm
set_option maxHeartbeats 4000000 in
theorem s_allCups (hd : 1 ≤ d) (hp : p ∈ g_SP) (hT : clsT s 3 T) (hW : tWf T) (hA : clsS s p T A) : x_ev g_M P d 75 [.ref p] (mkH xs s) q ↔ q = (some (.int (sm A.2.2.2 (tP T))), mkH xs s) := by
  have t4 := hT.1.2.2.2.2.1
  have w1 := hW.1
  have a6 := hA.2.2.2.2.2
  obtain ⟨d, rfl⟩ := x_1 (d := d) (by omega)
  rw [x_ev_in rfl (Nat.le_of_ble_eq_true rfl)]
  rw [show x_ent (x_nL g_M 75) [.ref p] = [some (.ref p), none, none] from rfl]
  rw [w_State_allCups_0]
  have key := x_up (C := x_ev g_M P d) (k := 75) (r := q) (N := tP T) (F := fun m => (4, [some (.ref p), some (.int (sm A.2.2.2 m)), some (.int (nI m))], [], mkH xs s)) (fun m hm => by
    have hc : ¬ nI (tP T) ≤ nI m := nI_ge hm (by omega)
    have hx : x_rd (s.1 (p + 2)) 6 (nI m) = some (A.2.2.2 m) := by rw [x_rd_nI (by omega) (by omega), a6 m hm]
    simp only [w_State_allCups_0, w_State_allCups_9, w_State_allCups_12, w_State_allCups_15, w_State_allCups_20, w_State_allCups_22, w_State_allCups_30, w_State_allCups_4 (l2 := nI m), cS hp, fS0 hp, fS1 hp, fS2 hp, fS3 hp, fS4 hp, fS5 hp, fS6 hp, pS1 hp, pS2 hp, pS3 hp, pS4 hp, eS1 hp, eS2 hp, iS1 hp, iS2 hp, c_3, f_3_0, p_3_0, f_3_1, p_3_1, f_3_2, p_3_2, f_3_3, p_3_3, f_3_4, p_3_4, f_3_5, p_3_5, f_3_6, p_3_6, f_3_7, p_3_7, f_3_8, p_3_8, f_3_9, f_3_10, f_3_11, f_3_12, f_3_13, Option.some.injEq, exists_eq_left', exists_eq_left, Option.toList_some, Option.toList_none, List.cons_append, List.nil_append, true_and, and_true, Option.map_some, Option.map_none, t4, hc, if_false, hx, nI_1, sm]) 0 (Nat.zero_le _)
  refine key.trans ?_
  simp only [w_State_allCups_0, w_State_allCups_9, w_State_allCups_12, w_State_allCups_15, w_State_allCups_20, w_State_allCups_22, w_State_allCups_30, w_State_allCups_4 (l2 := nI (tP T)), cS hp, fS0 hp, fS1 hp, fS2 hp, fS3 hp, fS4 hp, fS5 hp, fS6 hp, pS1 hp, pS2 hp, pS3 hp, pS4 hp, eS1 hp, eS2 hp, iS1 hp, iS2 hp, c_3, f_3_0, p_3_0, f_3_1, p_3_1, f_3_2, p_3_2, f_3_3, p_3_3, f_3_4, p_3_4, f_3_5, p_3_5, f_3_6, p_3_6, f_3_7, p_3_7, f_3_8, p_3_8, f_3_9, f_3_10, f_3_11, f_3_12, f_3_13, Option.some.injEq, exists_eq_left', exists_eq_left, Option.toList_some, Option.toList_none, List.cons_append, List.nil_append, true_and, and_true, Option.map_some, Option.map_none, t4, show nI (tP T) ≤ nI (tP T) from Int32.le_refl _, if_true]
  exact eq_comm
end STATE
