/-! ACTS: what the class's State does with them (own work) -/
theorem nd_len : ∀ (n : Nat) (L : List Nat), L.Nodup → (∀ m ∈ L, m < n) → L.length ≤ n := by
  intro n
  induction n with
  | zero =>
    intro L _ h
    cases L with
    | nil => exact Nat.le_refl _
    | cons a L => exact absurd (h a List.mem_cons_self) (by omega)
  | succ n ih =>
    intro L hn h
    by_cases hm : n ∈ L
    · have h1 := ih (L.erase n) (hn.erase n) (fun m hm2 => by
        have h3 := h m (List.mem_of_mem_erase hm2)
        have h4 : m ≠ n := by
          rintro rfl
          exact hn.not_mem_erase hm2
        omega)
      rw [List.length_erase_of_mem hm] at h1
      omega
    · have h1 := ih L hn (fun m hm2 => by
        have h3 := h m hm2
        have h4 : m ≠ n := by
          rintro rfl
          exact hm hm2
        omega)
      omega
/-- only the cells of the State at p differ -/
def off3 (s s' : xS) (p : Nat) : Prop := (∀ q, q ≠ p → q ≠ p + 1 → q ≠ p + 2 → s'.1 q = s.1 q) ∧ s'.2 = s.2
theorem off3.rf {s : xS} {p : Nat} : off3 s s p := ⟨fun _ _ _ _ => rfl, rfl⟩
theorem off3.tr {s s' s'' : xS} {p : Nat} (h : off3 s s' p) (h2 : off3 s' s'' p) : off3 s s'' p := ⟨fun q a b c => (h2.1 q a b c).trans (h.1 q a b c), h2.2.trans h.2⟩
theorem sp_lo : ∀ p ∈ g_SP, 9 ≤ p ∧ p + 2 < 131 := by decide
theorem sp_ap : ∀ p ∈ g_SP, ∀ p' ∈ g_SP, p ≠ p' → p + 2 < p' ∨ p' + 2 < p := by decide
theorem clsT_off {s s' : xS} {T : Tw} (h : ∀ q, 3 ≤ q → q ≤ 8 → s'.1 q = s.1 q) (hT : clsT s 3 T) : clsT s' 3 T := by
  unfold clsT at *
  rw [h 3 (by omega) (by omega), h (3 + 1) (by omega) (by omega), h (3 + 2) (by omega) (by omega), h (3 + 3) (by omega) (by omega), h (3 + 4) (by omega) (by omega), h (3 + 5) (by omega) (by omega)]
  exact hT
theorem off3.T {s s' : xS} {T : Tw} {p : Nat} (hp : p ∈ g_SP) (h : off3 s s' p) (hT : clsT s 3 T) : clsT s' 3 T := clsT_off (fun q h1 h2 => h.1 q (by have := sp_lo p hp; omega) (by have := sp_lo p hp; omega) (by have := sp_lo p hp; omega)) hT
theorem off3.S {s s' : xS} {T : Tw} {A : As} {p p' : Nat} (hp : p ∈ g_SP) (hp' : p' ∈ g_SP) (hne : p ≠ p') (h : off3 s s' p) (hA : clsS s p' T A) : clsS s' p' T A := by
  have ha := sp_ap p hp p' hp' hne
  unfold clsS at *
  rw [h.1 p' (by omega) (by omega) (by omega), h.1 (p' + 1) (by omega) (by omega) (by omega), h.1 (p' + 2) (by omega) (by omega) (by omega)]
  exact hA
def aSettle (A : As) (m : Nat) : As := (A.1 ++ [m], A.2)
def aFell (T : Tw) (A : As) (m : Nat) : As := (A.1.filter (fun x => !bt (tFall T (msk A.1) m) x), A.2.1 ||| on1 m, A.2.2.1 - 1, A.2.2.2)
def aDrink (T : Tw) (A : As) (j m : Nat) : As := (A.1.filter (fun x => !bt (tFall T (msk A.1) m) x), A.2.1 ||| on1 m, A.2.2.1 - 1, fun i => if i = j then A.2.2.2 j - 1 else A.2.2.2 i)
def aDay (T : Tw) (A : As) : As := (A.1, A.2.1, (if A.2.2.1 + tSp T < 99 then A.2.2.1 + tSp T else 99), A.2.2.2)
def aBegin (T : Tw) : As := ([], 0, tLe T, tCu T)
theorem lo_app (L : List Nat) (m : Nat) {i : Nat} (h : i < (L ++ [m]).length) : lo (L ++ [m]) i = if i < L.length then lo L i else m := by
  unfold lo
  simp only [List.getD_eq_getElem?_getD]
  by_cases hi : i < L.length
  · rw [if_pos hi, List.getElem?_append_left hi]
  · rw [if_neg hi, List.getElem?_append_right (by omega)]
    rw [List.length_append] at h
    have : i - L.length = 0 := by simp at h; omega
    rw [this]
    rfl
theorem msk_app (L : List Nat) (m : Nat) (hL : ∀ x ∈ L, x < 32) (hm : m < 32) : msk (L ++ [m]) = msk L ||| on1 m := by
  apply b_ext
  intro i hi
  rw [b_or, b_msk hi hL, b_on hm hi, b_msk hi (fun x hx => by rcases List.mem_append.mp hx with h | h; exact hL x h; rw [List.mem_singleton.mp h]; exact hm)]
  simp
theorem tOpen_out {T : Tw} {A : As} {m : Nat} (hW : tWf T) (hAw : aWf T A) (hm : m < tM T) (h : tOpen T (msk A.1) m = true) : m ∉ A.1 ∧ A.1.length < 8 := by
  have w2 := hW.2.1
  have h1 : m ∉ A.1 := by
    intro hz
    unfold tOpen at h
    rw [b_msk (show m < 32 by omega) (fun x hx => by have := hAw.1 x hx; omega)] at h
    simp [hz] at h
  refine ⟨h1, ?_⟩
  have h2 := nd_len (tM T) (m :: A.1) (List.nodup_cons.mpr ⟨h1, hAw.2.1⟩) (fun x hx => by rcases List.mem_cons.mp hx with h | h; omega; exact hAw.1 x h)
  rw [List.length_cons] at h2
  omega
theorem aWf_settle {T : Tw} {A : As} {m : Nat} (hW : tWf T) (hAw : aWf T A) (hm : m < tM T) (h : tOpen T (msk A.1) m = true) : aWf T (aSettle A m) := by
  obtain ⟨h1, h2⟩ := tOpen_out hW hAw hm h
  refine ⟨fun x hx => ?_, ?_, ?_⟩
  · rcases List.mem_append.mp hx with h | h
    · exact hAw.1 x h
    · rw [List.mem_singleton.mp h]; exact hm
  · show (A.1 ++ [m]).Nodup
    rw [List.nodup_append]
    refine ⟨hAw.2.1, by simp, fun a ha b hb => ?_⟩
    rw [List.mem_singleton.mp hb]
    rintro rfl
    exact h1 ha
  · show (A.1 ++ [m]).length ≤ 8
    simp
    omega
section TAKE
variable {P : Nat → List Value → Option Value} {d : Nat} {xs : List Int32} {s : xS} {T : Tw} {A : As} {p : Nat}
set_option maxHeartbeats 4000000 in
theorem s_takeSettle (hd : 3 ≤ d) (hp : p ∈ g_SP) (hT : clsT s 3 T) (hW : tWf T) (hA : clsS s p T A) (hAw : aWf T A) {m : Nat} (hm : m < tM T) : ∃ s', x_ev g_M P d 78 [.ref p, .int (nI m)] (mkH xs s) (some (.int (if tOpen T (msk A.1) m = true then 1 else 0)), mkH xs s') ∧ off3 s s' p ∧ clsS s' p T (if tOpen T (msk A.1) m = true then aSettle A m else A) := by
  have w2 := hW.2.1
  by_cases ho : tOpen T (msk A.1) m = true
  · obtain ⟨h1, h2⟩ := tOpen_out hW hAw hm ho
    have hA0 := hA
    obtain ⟨a1, a2, a3, a4, a5, a6⟩ := hA
    refine ⟨s_p (s_p (s_p s (p + 1) A.1.length (nI m)) p 4 (nI (A.1.length + 1))) p 1 (msk A.1 ||| on1 m), ?_, ⟨fun q h1 h2 h3 => ?_, rfl⟩, ?_⟩
    · obtain ⟨d, rfl⟩ := x_1 (d := d) (by omega)
      rw [x_ev_in rfl (Nat.le_of_ble_eq_true rfl)]
      rw [show x_ent (x_nL g_M 78) [.ref p, .int (nI m)] = [some (.ref p), some (.int (nI m))] from rfl]
      have hx : x_rd (s.1 (p + 1)) 8 (nI A.1.length) = some (s.1 (p + 1) A.1.length) := x_rd_nI (by omega) (by omega)
      have hl : nI A.1.length < 8 := nI_lt (b := 8) h2 (by omega)
      have e4 : ∀ v, (s_p s (p + 1) A.1.length v).1 p 4 = nI A.1.length := fun v => by simp [s_p, a4]
      have e1 : ∀ v w, (s_p (s_p s (p + 1) A.1.length v) p 4 w).1 p 1 = msk A.1 := fun v w => by simp [s_p, a1]
      simp only [w_State_takeSettle_0, w_State_takeSettle_5, w_State_takeSettle_8, w_State_takeSettle_12, w_State_takeSettle_17, w_State_takeSettle_19, w_State_takeSettle_23, w_State_takeSettle_27, w_State_takeSettle_29, w_State_takeSettle_34, w_State_takeSettle_39, w_State_takeSettle_44, w_State_takeSettle_51, cS hp, fS0 hp, fS1 hp, fS2 hp, fS3 hp, fS4 hp, fS5 hp, fS6 hp, pS1 hp, pS2 hp, pS3 hp, pS4 hp, eS1 hp, eS2 hp, iS1 hp, iS2 hp, Option.some.injEq, exists_eq_left', exists_eq_left, Option.toList_some, Option.toList_none, List.cons_append, List.nil_append, true_and, and_true, Option.map_some, Option.map_none, s_isOpen (d := d) (by omega) hp hT hW hA0 hm, ho, if_true, show ¬ ((1 : Int32) = 0) by decide, if_false, a4, hl, hx, nI_clamp (show A.1.length < 2 ^ 31 by omega), x_nb1, e4, e1, nI_1]
      rfl
    · funext k
      simp [s_p, h1, h2]
    · rw [if_pos ho]
      refine ⟨?_, ?_, ?_, ?_, fun i hi => ?_, fun j hj => ?_⟩
      · show _ = msk (A.1 ++ [m])
        rw [msk_app A.1 m (fun x hx => by have := hAw.1 x hx; omega) (by omega)]
        simp [s_p]
      · simp [s_p, a2, aSettle]
      · simp [s_p, a3, aSettle]
      · simp [s_p, aSettle]
      · show _ = nI (lo (A.1 ++ [m]) i)
        rw [lo_app A.1 m hi]
        by_cases hi2 : i < A.1.length
        · have : ¬ i = A.1.length := by omega
          simp [s_p, hi2, this, a5 i hi2]
        · have hi' : i < (A.1 ++ [m]).length := hi
          have : i = A.1.length := by simp at hi'; omega
          simp [s_p, this]
      · simp [s_p, a6 j hj, aSettle]
  · refine ⟨s, ?_, off3.rf, by rw [if_neg ho]; exact hA⟩
    obtain ⟨d, rfl⟩ := x_1 (d := d) (by omega)
    rw [x_ev_in rfl (Nat.le_of_ble_eq_true rfl)]
    rw [show x_ent (x_nL g_M 78) [.ref p, .int (nI m)] = [some (.ref p), some (.int (nI m))] from rfl]
    simp only [w_State_takeSettle_0, w_State_takeSettle_5, w_State_takeSettle_8, w_State_takeSettle_12, w_State_takeSettle_17, w_State_takeSettle_19, w_State_takeSettle_23, w_State_takeSettle_27, w_State_takeSettle_29, w_State_takeSettle_34, w_State_takeSettle_39, w_State_takeSettle_44, w_State_takeSettle_51, cS hp, fS0 hp, fS1 hp, fS2 hp, fS3 hp, fS4 hp, fS5 hp, fS6 hp, pS1 hp, pS2 hp, pS3 hp, pS4 hp, eS1 hp, eS2 hp, iS1 hp, iS2 hp, Option.some.injEq, exists_eq_left', exists_eq_left, Option.toList_some, Option.toList_none, List.cons_append, List.nil_append, true_and, and_true, Option.map_some, Option.map_none, s_isOpen (d := d) (by omega) hp hT hW hA hm, ho, if_true, if_false, x_nb0, Bool.false_eq_true]
theorem cellS1 (hp : p ∈ g_SP) : ∀ s : xS, g_cell (p + 1) s = xI 0 ((List.range 8).map (s.1 (p + 1))) := by
  intro s
  simp only [g_SP, List.mem_cons, List.not_mem_nil, or_false] at hp
  rcases hp with rfl | rfl | rfl | rfl | rfl | rfl | rfl | rfl | rfl | rfl | rfl | rfl | rfl | rfl | rfl | rfl <;> rfl
theorem cellS2 (hp : p ∈ g_SP) : ∀ s : xS, g_cell (p + 2) s = xI 0 ((List.range 6).map (s.1 (p + 2))) := by
  intro s
  simp only [g_SP, List.mem_cons, List.not_mem_nil, or_false] at hp
  rcases hp with rfl | rfl | rfl | rfl | rfl | rfl | rfl | rfl | rfl | rfl | rfl | rfl | rfl | rfl | rfl | rfl <;> rfl
theorem cpS2 (hp : p ∈ g_SP) : x_cp (mkH xs s) 4 0 (p + 2) 0 6 = some (mkH xs (s_c s 4 0 (p + 2) 0 6)) := by
  have h1 := sp_lo p hp
  have := mk_cp (xs := xs) (s := s) (f := 4) (d := p + 2) (nf := 6) (nd := 6) (by decide) (by decide) (by omega) (by omega) (fun _ => rfl) (cellS2 hp) (sp := 0) (dp := 0) (n := 6) (by decide) (by decide) (by decide) (by decide) (by decide)
  exact this
theorem cpS1 {p' : Nat} (hp : p ∈ g_SP) (hp' : p' ∈ g_SP) : x_cp (mkH xs s) (p' + 1) 0 (p + 1) 0 8 = some (mkH xs (s_c s (p' + 1) 0 (p + 1) 0 8)) := by
  have h1 := sp_lo p hp
  have h2 := sp_lo p' hp'
  have := mk_cp (xs := xs) (s := s) (f := p' + 1) (d := p + 1) (nf := 8) (nd := 8) (by omega) (by omega) (by omega) (by omega) (cellS1 hp') (cellS1 hp) (sp := 0) (dp := 0) (n := 8) (by decide) (by decide) (by decide) (by decide) (by decide)
  exact this
theorem cpS22 {p' : Nat} (hp : p ∈ g_SP) (hp' : p' ∈ g_SP) : x_cp (mkH xs s) (p' + 2) 0 (p + 2) 0 6 = some (mkH xs (s_c s (p' + 2) 0 (p + 2) 0 6)) := by
  have h1 := sp_lo p hp
  have h2 := sp_lo p' hp'
  have := mk_cp (xs := xs) (s := s) (f := p' + 2) (d := p + 2) (nf := 6) (nd := 6) (by omega) (by omega) (by omega) (by omega) (cellS2 hp') (cellS2 hp) (sp := 0) (dp := 0) (n := 6) (by decide) (by decide) (by decide) (by decide) (by decide)
  exact this
set_option maxHeartbeats 4000000 in
theorem s_begin (hd : 1 ≤ d) (hp : p ∈ g_SP) (hT : clsT s 3 T) (hW : tWf T) : ∃ s', x_ev g_M P d 67 [.ref p] (mkH xs s) (none, mkH xs s') ∧ off3 s s' p ∧ clsS s' p T (aBegin T) := by
  have w1 := hW.1
  have h9 := sp_lo p hp
  obtain ⟨⟨t0, t1, t2, t3, t4, t5⟩, t6, t7, t8, t9, -⟩ := hT
  refine ⟨s_c (s_p (s_p (s_p (s_p s p 1 0) p 2 0) p 3 (tLe T)) p 4 0) 4 0 (p + 2) 0 6, ?_, ⟨fun q h1 h2 h3 => ?_, rfl⟩, ?_⟩
  · obtain ⟨d, rfl⟩ := x_1 (d := d) (by omega)
    rw [x_ev_in rfl (Nat.le_of_ble_eq_true rfl)]
    rw [show x_ent (x_nL g_M 67) [.ref p] = [some (.ref p)] from rfl]
    have e1 : (s_p (s_p s p 1 0) p 2 0).1 3 1 = tLe T := by
      have : ¬ 3 = p := by omega
      simp [s_p, this, t1]
    simp only [w_State_begin_0, w_State_begin_5, w_State_begin_10, w_State_begin_15, w_State_begin_18, w_State_begin_21, w_State_begin_26, w_State_begin_30, w_State_begin_33, w_State_begin_38, w_State_begin_44, cS hp, fS0 hp, fS1 hp, fS2 hp, fS3 hp, fS4 hp, fS5 hp, fS6 hp, pS1 hp, pS2 hp, pS3 hp, pS4 hp, eS1 hp, eS2 hp, iS1 hp, iS2 hp, c_3, f_3_0, p_3_0, f_3_1, p_3_1, f_3_2, p_3_2, f_3_3, p_3_3, f_3_4, p_3_4, f_3_5, p_3_5, f_3_6, p_3_6, f_3_7, p_3_7, f_3_8, p_3_8, f_3_9, f_3_10, f_3_11, f_3_12, f_3_13, Option.some.injEq, exists_eq_left', exists_eq_left, Option.toList_some, Option.toList_none, List.cons_append, List.nil_append, true_and, and_true, Option.map_some, Option.map_none, e1, cpS2 hp]
  · funext k
    simp [s_c, s_p, h1, h2, h3]
  · refine ⟨?_, ?_, ?_, ?_, fun i hi => absurd hi (by simp [aBegin]), fun j hj => ?_⟩
    · simp [s_c, s_p, aBegin, msk]
    · simp [s_c, s_p, aBegin]
    · simp [s_c, s_p, aBegin]
    · simp [s_c, s_p, aBegin]
      rfl
    · have h4 : ¬ 4 = p := by omega
      have hj6 : j < 6 := by omega
      simp [s_c, s_p, aBegin, hj6, h4]
      exact t9 j hj
set_option maxHeartbeats 4000000 in
theorem s_copyFrom {p' : Nat} (hd : 1 ≤ d) (hp : p ∈ g_SP) (hp' : p' ∈ g_SP) (hne : p ≠ p') (hW : tWf T) (hA : clsS s p' T A) (hAw : aWf T A) : ∃ s', x_ev g_M P d 68 [.ref p, .ref p'] (mkH xs s) (none, mkH xs s') ∧ off3 s s' p ∧ clsS s' p T A := by
  have w1 := hW.1
  have h9 := sp_lo p hp
  have hap := sp_ap p hp p' hp' hne
  have h8 := hAw.2.2
  obtain ⟨a1, a2, a3, a4, a5, a6⟩ := hA
  have n1 : ¬ p' = p := fun z => hne z.symm
  have n2 : ¬ p' + 1 = p := by omega
  have n3 : ¬ p' + 2 = p := by omega
  have n4 : ¬ p' + 2 = p + 1 := by omega
  refine ⟨s_c (s_c (s_p (s_p (s_p (s_p s p 1 (msk A.1)) p 2 A.2.1) p 3 A.2.2.1) p 4 (nI A.1.length)) (p' + 1) 0 (p + 1) 0 8) (p' + 2) 0 (p + 2) 0 6, ?_, ⟨fun q h1 h2 h3 => ?_, rfl⟩, ?_⟩
  · obtain ⟨d, rfl⟩ := x_1 (d := d) (by omega)
    rw [x_ev_in rfl (Nat.le_of_ble_eq_true rfl)]
    rw [show x_ent (x_nL g_M 68) [.ref p, .ref p'] = [some (.ref p), some (.ref p')] from rfl]
    have e2 : ∀ v, (s_p s p 1 v).1 p' 2 = A.2.1 := fun v => by simp [s_p, n1, a2]
    have e3 : ∀ v w, (s_p (s_p s p 1 v) p 2 w).1 p' 3 = A.2.2.1 := fun v w => by simp [s_p, n1, a3]
    have e4 : ∀ v w u, (s_p (s_p (s_p s p 1 v) p 2 w) p 3 u).1 p' 4 = nI A.1.length := fun v w u => by simp [s_p, n1, a4]
    simp only [w_State_copyFrom_0, w_State_copyFrom_5, w_State_copyFrom_8, w_State_copyFrom_13, w_State_copyFrom_16, w_State_copyFrom_21, w_State_copyFrom_24, w_State_copyFrom_29, w_State_copyFrom_32, w_State_copyFrom_36, w_State_copyFrom_41, w_State_copyFrom_47, w_State_copyFrom_51, w_State_copyFrom_56, w_State_copyFrom_62, cS hp, fS0 hp, fS1 hp, fS2 hp, fS3 hp, fS4 hp, fS5 hp, fS6 hp, pS1 hp, pS2 hp, pS3 hp, pS4 hp, eS1 hp, eS2 hp, iS1 hp, iS2 hp, fS1 hp', fS2 hp', fS3 hp', fS4 hp', fS5 hp', fS6 hp', Option.some.injEq, exists_eq_left', exists_eq_left, Option.toList_some, Option.toList_none, List.cons_append, List.nil_append, true_and, and_true, Option.map_some, Option.map_none, a1, e2, e3, e4, cpS1 hp hp', cpS22 hp hp']
  · funext k
    simp [s_c, s_p, h1, h2, h3]
  · refine ⟨?_, ?_, ?_, ?_, fun i hi => ?_, fun j hj => ?_⟩
    · simp [s_c, s_p]
    · simp [s_c, s_p]
    · simp [s_c, s_p]
    · simp [s_c, s_p]
    · have hi8 : i < 8 := by omega
      simp [s_c, s_p, hi8, n2]
      exact a5 i hi
    · have hj6 : j < 6 := by omega
      simp [s_c, s_p, hj6, n3, n4]
      exact a6 j hj
end TAKE
