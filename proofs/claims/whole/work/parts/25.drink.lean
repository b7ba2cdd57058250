/-! DRINKING, and any ACT (own work) -/
theorem msk_flt (L : List Nat) (f : Int32) (hL : ∀ x ∈ L, x < 32) : msk (L.filter (fun x => !bt f x)) = msk L &&& (f ^^^ (-1)) := by
  apply b_ext
  intro i hi
  rw [b_and, b_not hi, b_msk hi hL, b_msk hi (fun x hx => hL x (List.mem_filter.mp hx).1)]
  by_cases h1 : i ∈ L <;> cases h2 : bt f i <;> simp [h1, h2]
theorem take_snoc (L : List Nat) {i : Nat} (hi : i < L.length) : L.take (i + 1) = L.take i ++ [lo L i] := by
  rw [List.take_add_one, List.getElem?_eq_getElem hi]
  unfold lo
  rw [List.getD_eq_getElem?_getD, List.getElem?_eq_getElem hi]
  rfl
theorem aWf_drink {T : Tw} {A : As} {j m : Nat} (hAw : aWf T A) : aWf T (aDrink T A j m) := by
  refine ⟨fun x hx => hAw.1 x (List.mem_filter.mp hx).1, hAw.2.1.filter _, ?_⟩
  exact Nat.le_trans (List.length_filter_le _ _) hAw.2.2
theorem aWf_day {T : Tw} {A : As} (hAw : aWf T A) : aWf T (aDay T A) := hAw
theorem aWf_begin {T : Tw} : aWf T (aBegin T) := by
  refine ⟨fun x hx => ?_, List.nodup_nil, Nat.zero_le _⟩
  simp [aBegin] at hx
section DRINK
variable {P : Nat → List Value → Option Value} {d : Nat} {xs : List Int32} {s : xS} {T : Tw} {A : As} {p : Nat}
set_option maxHeartbeats 8000000 in
theorem s_drinkLoop (hd : 1 ≤ d) (hp : p ∈ g_SP) (hW : tWf T) (hA : clsS s p T A) (hAw : aWf T A) {a m : Nat} (ha : a < tP T) (hm : m < tM T) :
    ∀ (n i : Nat) (si : xS), i + n = A.1.length → (∀ q, q ≠ p + 1 → si.1 q = s.1 q) → si.2 = s.2 →
      (∀ j, j < ((A.1.take i).filter (fun x => !bt (tFall T (msk A.1) m) x)).length → si.1 (p + 1) j = nI (lo ((A.1.take i).filter (fun x => !bt (tFall T (msk A.1) m) x)) j)) → (∀ j, i ≤ j → j < A.1.length → si.1 (p + 1) j = nI (lo A.1 j)) →
      ∃ s', x_R (x_ev g_M P d) 79 (35, [some (.ref p), some (.int (nI a)), some (.int (nI m)), some (.int (tFall T (msk A.1) m)), some (.int (nI ((A.1.take i).filter (fun x => !bt (tFall T (msk A.1) m) x)).length)), some (.int (nI i))], [], mkH xs si) (some (.int 1), mkH xs s') ∧ off3 s s' p ∧ clsS s' p T (aDrink T A a m) := by
  have w1 := hW.1
  have w2 := hW.2.1
  have h8 := hAw.2.2
  have h9 := sp_lo p hp
  obtain ⟨a1, a2, a3, a4, a5, a6⟩ := hA
  generalize hf : tFall T (msk A.1) m = f
  intro n
  induction n with
  | zero =>
    intro i si hin ho hl h1 h2
    have hi : i = A.1.length := by omega
    subst hi
    rw [List.take_length] at *
    generalize hL' : A.1.filter (fun x => !bt f x) = L' at *
    have hlen : L'.length ≤ 8 := by rw [← hL']; exact Nat.le_trans (List.length_filter_le _ _) h8
    have op := ho p (by omega)
    have op2 := ho (p + 2) (by omega)
    refine ⟨s_p (s_p (s_p (s_p (s_p si p 4 (nI L'.length)) p 1 (msk A.1 &&& (f ^^^ (-1)))) p 2 (A.2.1 ||| on1 m)) (p + 2) a (A.2.2.2 a - 1)) p 3 (A.2.2.1 - 1), ?_, ⟨fun q g1 g2 g3 => ?_, hl⟩, ?_⟩
    · have e0 : si.1 p 4 = nI A.1.length := by rw [op]; exact a4
      have e1 : ∀ v, (s_p si p 4 v).1 p 1 = msk A.1 := fun v => by simp [s_p, op, a1]
      have e2 : ∀ v w, (s_p (s_p si p 4 v) p 1 w).1 p 2 = A.2.1 := fun v w => by simp [s_p, op, a2]
      have e3 : ∀ v w u, x_rd ((s_p (s_p (s_p si p 4 v) p 1 w) p 2 u).1 (p + 2)) 6 (nI a) = some (A.2.2.2 a) := fun v w u => by
        rw [x_rd_nI (by omega) (by omega)]
        simp [s_p, op2, a6 a ha]
      have e4 : ∀ v w u x, (s_p (s_p (s_p (s_p si p 4 v) p 1 w) p 2 u) (p + 2) a x).1 p 3 = A.2.2.1 := fun v w u x => by simp [s_p, op, a3]
      simp only [w_State_takeDrink_0, w_State_takeDrink_5, w_State_takeDrink_8, w_State_takeDrink_10, w_State_takeDrink_15, w_State_takeDrink_20, w_State_takeDrink_24, w_State_takeDrink_28, w_State_takeDrink_41, w_State_takeDrink_44, w_State_takeDrink_49, w_State_takeDrink_52, w_State_takeDrink_55, w_State_takeDrink_58, w_State_takeDrink_62, w_State_takeDrink_68, w_State_takeDrink_71, w_State_takeDrink_72, w_State_takeDrink_75, w_State_takeDrink_81, w_State_takeDrink_87, w_State_takeDrink_92, w_State_takeDrink_99, w_State_takeDrink_104, w_State_takeDrink_111, w_State_takeDrink_115, w_State_takeDrink_118, w_State_takeDrink_121, w_State_takeDrink_126, w_State_takeDrink_131, w_State_takeDrink_35 (l5 := nI A.1.length), cS hp, fS0 hp, fS1 hp, fS2 hp, fS3 hp, fS4 hp, fS5 hp, fS6 hp, pS1 hp, pS2 hp, pS3 hp, pS4 hp, eS1 hp, eS2 hp, iS1 hp, iS2 hp, Option.some.injEq, exists_eq_left', exists_eq_left, Option.toList_some, Option.toList_none, List.cons_append, List.nil_append, true_and, and_true, Option.map_some, Option.map_none, e0, show nI A.1.length ≤ nI A.1.length from Int32.le_refl _, if_true, e1, e2, e3, nI_clamp (show a < 2 ^ 31 by omega), e4, x_nb1]
      rfl
    · funext k
      simp [s_p, g1, g2, g3, ho q g2]
    · refine ⟨?_, ?_, ?_, ?_, fun j hj => ?_, fun j hj => ?_⟩
      · show _ = msk (A.1.filter (fun x => !bt (tFall T (msk A.1) m) x))
        rw [hf, msk_flt A.1 f (fun x hx => by have := hAw.1 x hx; omega)]
        simp [s_p]
      · simp [s_p, aDrink]
      · simp [s_p, aDrink]
      · simp [s_p, aDrink, hf, hL']
      · have hj' : j < L'.length := by
          have : (aDrink T A a m).1 = L' := by simp [aDrink, hf, hL']
          rw [this] at hj
          exact hj
        simp [s_p, aDrink, hf, hL', h1 j hj']
      · by_cases hja : j = a
        · subst hja
          simp [s_p, aDrink]
        · simp [s_p, aDrink, hja, op2, a6 j hj]
  | succ n ih =>
    intro i si hin ho hl h1 h2
    have hi : i < A.1.length := by omega
    have hlt : lo A.1 i < tM T := lo_lt hAw hi
    have op := ho p (by omega)
    have e0 : si.1 p 4 = nI A.1.length := by rw [op]; exact a4
    have hc : ¬ nI A.1.length ≤ nI i := nI_ge hi (by omega)
    have e1 : x_rd (si.1 (p + 1)) 8 (nI i) = some (nI (lo A.1 i)) := by rw [x_rd_nI (by omega) (by omega), h2 i (Nat.le_refl _) hi]
    have hle : ((A.1.take i).filter (fun x => !bt f x)).length ≤ i := Nat.le_trans (List.length_filter_le _ _) (by rw [List.length_take]; omega)
    have htk := take_snoc A.1 hi
    by_cases hb : bt f (lo A.1 i) = false
    · have hL2 : (A.1.take (i + 1)).filter (fun x => !bt f x) = (A.1.take i).filter (fun x => !bt f x) ++ [lo A.1 i] := by
        rw [htk, List.filter_append, List.filter_cons, List.filter_nil, hb]
        rfl
      obtain ⟨s', q1, q2, q3⟩ := ih (i + 1) (s_p si (p + 1) ((A.1.take i).filter (fun x => !bt f x)).length (nI (lo A.1 i))) (by omega) (fun q hq => by
          funext k
          simp [s_p, hq, ho q hq]) hl (fun j hj => by
          rw [hL2] at hj ⊢
          rw [lo_app _ _ hj]
          by_cases hj2 : j < ((A.1.take i).filter (fun x => !bt f x)).length
          · have hne : ¬ j = ((A.1.take i).filter (fun x => !bt f x)).length := by omega
            rw [if_pos hj2, ← h1 j hj2]
            simp only [s_p]
            rw [if_neg (fun z => hne z.2)]
          · have hj3 : j = ((A.1.take i).filter (fun x => !bt f x)).length := by
              rw [List.length_append, List.length_singleton] at hj
              omega
            rw [if_neg hj2]
            simp only [s_p]
            rw [if_pos ⟨trivial, hj3⟩]) (fun j hj1 hj2 => by
          have hne : ¬ j = ((A.1.take i).filter (fun x => !bt f x)).length := by omega
          simp only [s_p]
          rw [if_neg (fun z => hne z.2)]
          exact h2 j (by omega) hj2)
      refine ⟨s', ?_, q2, q3⟩
      have e2 : x_rd (si.1 (p + 1)) 8 (nI ((A.1.take i).filter (fun x => !bt f x)).length) = some (si.1 (p + 1) ((A.1.take i).filter (fun x => !bt f x)).length) := x_rd_nI (by omega) (by omega)
      simp only [w_State_takeDrink_0, w_State_takeDrink_5, w_State_takeDrink_8, w_State_takeDrink_10, w_State_takeDrink_15, w_State_takeDrink_20, w_State_takeDrink_24, w_State_takeDrink_28, w_State_takeDrink_41, w_State_takeDrink_44, w_State_takeDrink_49, w_State_takeDrink_52, w_State_takeDrink_55, w_State_takeDrink_58, w_State_takeDrink_62, w_State_takeDrink_68, w_State_takeDrink_71, w_State_takeDrink_72, w_State_takeDrink_75, w_State_takeDrink_81, w_State_takeDrink_87, w_State_takeDrink_92, w_State_takeDrink_99, w_State_takeDrink_104, w_State_takeDrink_111, w_State_takeDrink_115, w_State_takeDrink_118, w_State_takeDrink_121, w_State_takeDrink_126, w_State_takeDrink_131, w_State_takeDrink_35 (l5 := nI i), cS hp, fS0 hp, fS1 hp, fS2 hp, fS3 hp, fS4 hp, fS5 hp, fS6 hp, pS1 hp, pS2 hp, pS3 hp, pS4 hp, eS1 hp, eS2 hp, iS1 hp, iS2 hp, Option.some.injEq, exists_eq_left', exists_eq_left, Option.toList_some, Option.toList_none, List.cons_append, List.nil_append, true_and, and_true, Option.map_some, Option.map_none, e0, hc, if_false, e1, t_bitOf (d := d) hd, bit_0 (show lo A.1 i < 32 by omega), hb, not_true_eq_false, e2, nI_clamp (show ((A.1.take i).filter (fun x => !bt f x)).length < 2 ^ 31 by omega), nI_1]
      rw [hL2, List.length_append, List.length_singleton] at q1
      exact q1
    · have hL2 : (A.1.take (i + 1)).filter (fun x => !bt f x) = (A.1.take i).filter (fun x => !bt f x) := by
        have hbt : bt f (lo A.1 i) = true := by simpa using hb
        rw [htk, List.filter_append, List.filter_cons, List.filter_nil, hbt]
        simp
      obtain ⟨s', q1, q2, q3⟩ := ih (i + 1) si (by omega) ho hl (fun j hj => by rw [hL2] at hj ⊢; exact h1 j hj) (fun j hj1 hj2 => h2 j (by omega) hj2)
      refine ⟨s', ?_, q2, q3⟩
      simp only [w_State_takeDrink_0, w_State_takeDrink_5, w_State_takeDrink_8, w_State_takeDrink_10, w_State_takeDrink_15, w_State_takeDrink_20, w_State_takeDrink_24, w_State_takeDrink_28, w_State_takeDrink_41, w_State_takeDrink_44, w_State_takeDrink_49, w_State_takeDrink_52, w_State_takeDrink_55, w_State_takeDrink_58, w_State_takeDrink_62, w_State_takeDrink_68, w_State_takeDrink_71, w_State_takeDrink_72, w_State_takeDrink_75, w_State_takeDrink_81, w_State_takeDrink_87, w_State_takeDrink_92, w_State_takeDrink_99, w_State_takeDrink_104, w_State_takeDrink_111, w_State_takeDrink_115, w_State_takeDrink_118, w_State_takeDrink_121, w_State_takeDrink_126, w_State_takeDrink_131, w_State_takeDrink_35 (l5 := nI i), cS hp, fS0 hp, fS1 hp, fS2 hp, fS3 hp, fS4 hp, fS5 hp, fS6 hp, pS1 hp, pS2 hp, pS3 hp, pS4 hp, eS1 hp, eS2 hp, iS1 hp, iS2 hp, Option.some.injEq, exists_eq_left', exists_eq_left, Option.toList_some, Option.toList_none, List.cons_append, List.nil_append, true_and, and_true, Option.map_some, Option.map_none, e0, hc, if_false, e1, t_bitOf (d := d) hd, bit_0 (show lo A.1 i < 32 by omega), hb, not_false_eq_true, if_true, nI_1]
      rw [hL2] at q1
      exact q1
set_option maxHeartbeats 4000000 in
theorem s_takeDrink (hd : 3 ≤ d) (hp : p ∈ g_SP) (hT : clsT s 3 T) (hW : tWf T) (hA : clsS s p T A) (hAw : aWf T A) {a : Nat} (ha : a < tP T) : ∃ s', x_ev g_M P d 79 [.ref p, .int (nI a)] (mkH xs s) (some (.int (if aWhy T A a = 0 then 1 else 0)), mkH xs s') ∧ off3 s s' p ∧ clsS s' p T (if aWhy T A a = 0 then aDrink T A a ((aLast T A a).getD 0) else A) := by
  by_cases h0 : aWhy T A a = 0
  · obtain ⟨m, hl⟩ := aWhy_last h0
    obtain ⟨hmL, hmI⟩ := lastN_in (Nat.le_refl _) hl
    have hm : m < tM T := hAw.1 m hmL
    obtain ⟨d, rfl⟩ := x_1 (d := d) (by omega)
    obtain ⟨s', q1, q2, q3⟩ := s_drinkLoop (P := P) (d := d) (xs := xs) (by omega) hp hW hA hAw ha hm A.1.length 0 s (by omega) (fun _ _ => rfl) rfl (fun j hj => by simp at hj) (fun j _ hj => hA.2.2.2.2.1 j hj)
    refine ⟨s', ?_, q2, ?_⟩
    · rw [x_ev_in rfl (Nat.le_of_ble_eq_true rfl)]
      rw [show x_ent (x_nL g_M 79) [.ref p, .int (nI a)] = [some (.ref p), some (.int (nI a)), none, none, none, none] from rfl]
      simp only [w_State_takeDrink_0, w_State_takeDrink_5, w_State_takeDrink_8, w_State_takeDrink_10, w_State_takeDrink_15, w_State_takeDrink_20, w_State_takeDrink_24, w_State_takeDrink_28, w_State_takeDrink_41, w_State_takeDrink_44, w_State_takeDrink_49, w_State_takeDrink_52, w_State_takeDrink_55, w_State_takeDrink_58, w_State_takeDrink_62, w_State_takeDrink_68, w_State_takeDrink_71, w_State_takeDrink_72, w_State_takeDrink_75, w_State_takeDrink_81, w_State_takeDrink_87, w_State_takeDrink_92, w_State_takeDrink_99, w_State_takeDrink_104, w_State_takeDrink_111, w_State_takeDrink_115, w_State_takeDrink_118, w_State_takeDrink_121, w_State_takeDrink_126, w_State_takeDrink_131, cS hp, fS0 hp, fS1 hp, fS2 hp, fS3 hp, fS4 hp, fS5 hp, fS6 hp, pS1 hp, pS2 hp, pS3 hp, pS4 hp, eS1 hp, eS2 hp, iS1 hp, iS2 hp, c_3, f_3_0, p_3_0, f_3_1, p_3_1, f_3_2, p_3_2, f_3_3, p_3_3, f_3_4, p_3_4, f_3_5, p_3_5, f_3_6, p_3_6, f_3_7, p_3_7, f_3_8, p_3_8, f_3_9, f_3_10, f_3_11, f_3_12, f_3_13, Option.some.injEq, exists_eq_left', exists_eq_left, Option.toList_some, Option.toList_none, List.cons_append, List.nil_append, true_and, and_true, Option.map_some, Option.map_none, s_whyNot (d := d) (by omega) hp hT hW hA hAw ha, h0, if_true, s_lastOf (d := d) (by omega) hp hT hW hA hAw ha, hl, optI, hA.1, t_fallIn (d := d) (by omega) hT hW hm]
      exact q1
    · rw [if_pos h0, hl]
      exact q3
  · refine ⟨s, ?_, off3.rf, by rw [if_neg h0]; exact hA⟩
    obtain ⟨d, rfl⟩ := x_1 (d := d) (by omega)
    rw [x_ev_in rfl (Nat.le_of_ble_eq_true rfl)]
    rw [show x_ent (x_nL g_M 79) [.ref p, .int (nI a)] = [some (.ref p), some (.int (nI a)), none, none, none, none] from rfl]
    simp only [w_State_takeDrink_0, w_State_takeDrink_5, w_State_takeDrink_8, w_State_takeDrink_10, w_State_takeDrink_15, w_State_takeDrink_20, w_State_takeDrink_24, w_State_takeDrink_28, w_State_takeDrink_41, w_State_takeDrink_44, w_State_takeDrink_49, w_State_takeDrink_52, w_State_takeDrink_55, w_State_takeDrink_58, w_State_takeDrink_62, w_State_takeDrink_68, w_State_takeDrink_71, w_State_takeDrink_72, w_State_takeDrink_75, w_State_takeDrink_81, w_State_takeDrink_87, w_State_takeDrink_92, w_State_takeDrink_99, w_State_takeDrink_104, w_State_takeDrink_111, w_State_takeDrink_115, w_State_takeDrink_118, w_State_takeDrink_121, w_State_takeDrink_126, w_State_takeDrink_131, cS hp, fS0 hp, fS1 hp, fS2 hp, fS3 hp, fS4 hp, fS5 hp, fS6 hp, pS1 hp, pS2 hp, pS3 hp, pS4 hp, eS1 hp, eS2 hp, iS1 hp, iS2 hp, Option.some.injEq, exists_eq_left', exists_eq_left, Option.toList_some, Option.toList_none, List.cons_append, List.nil_append, true_and, and_true, Option.map_some, Option.map_none, s_whyNot (d := d) (by omega) hp hT hW hA hAw ha, h0, if_false, x_nb0]
end DRINK
/-- an ACT: what becomes of it; none: it can't be -/
def aTake (T : Tw) (A : As) (act : Int32) : Option As :=
  if ¬ act < 0 ∧ ¬ nI (tM T) ≤ act then (if tOpen T (msk A.1) act.toNatClampNeg = true then some (aSettle A act.toNatClampNeg) else none)
  else if ¬ act - 10 < 0 ∧ ¬ nI (tP T) ≤ act - 10 then (if aWhy T A (act - 10).toNatClampNeg = 0 then some (aDrink T A (act - 10).toNatClampNeg ((aLast T A (act - 10).toNatClampNeg).getD 0)) else none)
  else if act = 20 then some (aDay T A) else none
theorem aWf_take {T : Tw} {A A' : As} {act : Int32} (hW : tWf T) (hAw : aWf T A) (h : aTake T A act = some A') : aWf T A' := by
  have w1 := hW.1
  have w2 := hW.2.1
  unfold aTake at h
  split at h
  · rename_i hc
    obtain ⟨m, hm, rfl⟩ := x_has (by omega) hc.1 hc.2
    rw [nI_clamp (by omega)] at h
    split at h
    · rename_i ho
      cases h
      exact aWf_settle hW hAw hm ho
    · cases h
  · split at h
    · split at h
      · cases h
        exact aWf_drink hAw
      · cases h
    · split at h
      · cases h
        exact aWf_day hAw
      · cases h
section TAKE2
variable {P : Nat → List Value → Option Value} {d : Nat} {xs : List Int32} {s : xS} {T : Tw} {A : As} {p : Nat}
set_option maxHeartbeats 4000000 in
theorem s_take (hd : 4 ≤ d) (hp : p ∈ g_SP) (hT : clsT s 3 T) (hW : tWf T) (hA : clsS s p T A) (hAw : aWf T A) (act : Int32) : ∃ s', x_ev g_M P d 77 [.ref p, .int act] (mkH xs s) (some (.int (if (aTake T A act).isSome = true then 1 else 0)), mkH xs s') ∧ off3 s s' p ∧ clsS s' p T ((aTake T A act).getD A) := by
  have w1 := hW.1
  have w2 := hW.2.1
  have h9 := sp_lo p hp
  obtain ⟨d, rfl⟩ := x_1 (d := d) (by omega)
  unfold aTake
  by_cases hc : ¬ act < 0 ∧ ¬ nI (tM T) ≤ act
  · obtain ⟨m, hm, rfl⟩ := x_has (by omega) hc.1 hc.2
    obtain ⟨s', q1, q2, q3⟩ := s_takeSettle (P := P) (d := d) (xs := xs) (by omega) hp hT hW hA hAw hm
    refine ⟨s', ?_, q2, ?_⟩
    · rw [x_ev_in rfl (Nat.le_of_ble_eq_true rfl)]
      rw [show x_ent (x_nL g_M 77) [.ref p, .int (nI m)] = [some (.ref p), some (.int (nI m))] from rfl]
      simp only [w_State_take_0, w_State_take_4, w_State_take_8, w_State_take_11, w_State_take_16, w_State_take_17, w_State_take_21, w_State_take_28, w_State_take_31, w_State_take_39, w_State_take_40, w_State_take_46, w_State_take_53, w_State_take_57, w_State_take_60, w_State_take_67, w_State_take_69, cS hp, fS0 hp, fS1 hp, fS2 hp, fS3 hp, fS4 hp, fS5 hp, fS6 hp, pS1 hp, pS2 hp, pS3 hp, pS4 hp, eS1 hp, eS2 hp, iS1 hp, iS2 hp, c_3, f_3_0, p_3_0, f_3_1, p_3_1, f_3_2, p_3_2, f_3_3, p_3_3, f_3_4, p_3_4, f_3_5, p_3_5, f_3_6, p_3_6, f_3_7, p_3_7, f_3_8, p_3_8, f_3_9, f_3_10, f_3_11, f_3_12, f_3_13, Option.some.injEq, exists_eq_left', exists_eq_left, Option.toList_some, Option.toList_none, List.cons_append, List.nil_append, true_and, and_true, Option.map_some, Option.map_none, t_hasMatter (d := d) (by omega) hT, hc.1, hc.2, if_false, show ¬ ((1 : Int32) = 0) by decide, x_ev_iff q1, not_false_eq_true, and_self, if_true, nI_clamp (show m < 2 ^ 31 by omega)]
      by_cases ho : tOpen T (msk A.1) m = true <;> simp [ho, x_nb0, x_nb1]
    · rw [if_pos hc, nI_clamp (by omega)]
      by_cases ho : tOpen T (msk A.1) m = true
      · rw [if_pos ho] at q3 ⊢; exact q3
      · rw [if_neg ho] at q3 ⊢; exact q3
  · have hz : (if act < 0 then (0 : Int32) else if nI (tM T) ≤ act then 0 else 1) = 0 := by
      by_cases g1 : act < 0
      · rw [if_pos g1]
      · by_cases g2 : nI (tM T) ≤ act
        · rw [if_neg g1, if_pos g2]
        · exact absurd ⟨g1, g2⟩ hc
    by_cases hc2 : ¬ act - 10 < 0 ∧ ¬ nI (tP T) ≤ act - 10
    · obtain ⟨a, ha, he⟩ := x_has (by omega) hc2.1 hc2.2
      obtain ⟨s', q1, q2, q3⟩ := s_takeDrink (P := P) (d := d) (xs := xs) (by omega) hp hT hW hA hAw ha
      refine ⟨s', ?_, q2, ?_⟩
      · rw [x_ev_in rfl (Nat.le_of_ble_eq_true rfl)]
        rw [show x_ent (x_nL g_M 77) [.ref p, .int act] = [some (.ref p), some (.int act)] from rfl]
        rw [he] at hc2
        simp only [w_State_take_0, w_State_take_4, w_State_take_8, w_State_take_11, w_State_take_16, w_State_take_17, w_State_take_21, w_State_take_28, w_State_take_31, w_State_take_39, w_State_take_40, w_State_take_46, w_State_take_53, w_State_take_57, w_State_take_60, w_State_take_67, w_State_take_69, cS hp, fS0 hp, fS1 hp, fS2 hp, fS3 hp, fS4 hp, fS5 hp, fS6 hp, pS1 hp, pS2 hp, pS3 hp, pS4 hp, eS1 hp, eS2 hp, iS1 hp, iS2 hp, c_3, f_3_0, p_3_0, f_3_1, p_3_1, f_3_2, p_3_2, f_3_3, p_3_3, f_3_4, p_3_4, f_3_5, p_3_5, f_3_6, p_3_6, f_3_7, p_3_7, f_3_8, p_3_8, f_3_9, f_3_10, f_3_11, f_3_12, f_3_13, Option.some.injEq, exists_eq_left', exists_eq_left, Option.toList_some, Option.toList_none, List.cons_append, List.nil_append, true_and, and_true, Option.map_some, Option.map_none, t_hasMatter (d := d) (by omega) hT, t_hasPerson (d := d) (by omega) hT, hz, if_true, he, hc2.1, hc2.2, if_false, show ¬ ((1 : Int32) = 0) by decide, x_ev_iff q1, hc, not_false_eq_true, and_self, nI_clamp (show a < 2 ^ 31 by omega)]
        by_cases ho : aWhy T A a = 0 <;> simp [ho, x_nb0, x_nb1]
      · rw [if_neg hc, if_pos hc2, he, nI_clamp (by omega)]
        by_cases ho : aWhy T A a = 0
        · rw [if_pos ho] at q3 ⊢; exact q3
        · rw [if_neg ho] at q3 ⊢; exact q3
    · have hz2 : (if act - 10 < 0 then (0 : Int32) else if nI (tP T) ≤ act - 10 then 0 else 1) = 0 := by
        by_cases g1 : act - 10 < 0
        · rw [if_pos g1]
        · by_cases g2 : nI (tP T) ≤ act - 10
          · rw [if_neg g1, if_pos g2]
          · exact absurd ⟨g1, g2⟩ hc2
      rw [if_neg hc, if_neg hc2]
      have t2 := hT.1.2.2.1
      by_cases h20 : act = 20
      · rw [if_pos h20]
        subst h20
        have hA2 := hA
        obtain ⟨a1, a2, a3, a4, a5, a6⟩ := hA
        refine ⟨s_p s p 3 (if A.2.2.1 + tSp T < 99 then A.2.2.1 + tSp T else 99), ?_, ⟨fun q g1 g2 g3 => ?_, rfl⟩, ?_⟩
        · rw [x_ev_in rfl (Nat.le_of_ble_eq_true rfl)]
          rw [show x_ent (x_nL g_M 77) [.ref p, .int 20] = [some (.ref p), some (.int 20)] from rfl]
          simp only [w_State_take_0, w_State_take_4, w_State_take_8, w_State_take_11, w_State_take_16, w_State_take_17, w_State_take_21, w_State_take_28, w_State_take_31, w_State_take_39, w_State_take_40, w_State_take_46, w_State_take_53, w_State_take_57, w_State_take_60, w_State_take_67, w_State_take_69, cS hp, fS0 hp, fS1 hp, fS2 hp, fS3 hp, fS4 hp, fS5 hp, fS6 hp, pS1 hp, pS2 hp, pS3 hp, pS4 hp, eS1 hp, eS2 hp, iS1 hp, iS2 hp, c_3, f_3_0, p_3_0, f_3_1, p_3_1, f_3_2, p_3_2, f_3_3, p_3_3, f_3_4, p_3_4, f_3_5, p_3_5, f_3_6, p_3_6, f_3_7, p_3_7, f_3_8, p_3_8, f_3_9, f_3_10, f_3_11, f_3_12, f_3_13, Option.some.injEq, exists_eq_left', exists_eq_left, Option.toList_some, Option.toList_none, List.cons_append, List.nil_append, true_and, and_true, Option.map_some, Option.map_none, t_hasMatter (d := d) (by omega) hT, t_hasPerson (d := d) (by omega) hT, hz, hz2, if_true, not_true_eq_false, if_false, a3, t2, x_nb1, Option.isSome_some]
        · funext k
          simp [s_p, g1]
        · refine ⟨?_, ?_, ?_, ?_, fun j hj => ?_, fun j hj => ?_⟩
          · simp [s_p, aDay, a1]
          · simp [s_p, aDay, a2]
          · simp [s_p, aDay]
          · simp [s_p, aDay, a4]
          · simp [s_p, aDay]
            exact a5 j hj
          · simp [s_p, aDay, a6 j hj]
      · rw [if_neg h20]
        refine ⟨s, ?_, off3.rf, hA⟩
        rw [x_ev_in rfl (Nat.le_of_ble_eq_true rfl)]
        rw [show x_ent (x_nL g_M 77) [.ref p, .int act] = [some (.ref p), some (.int act)] from rfl]
        simp only [w_State_take_0, w_State_take_4, w_State_take_8, w_State_take_11, w_State_take_16, w_State_take_17, w_State_take_21, w_State_take_28, w_State_take_31, w_State_take_39, w_State_take_40, w_State_take_46, w_State_take_53, w_State_take_57, w_State_take_60, w_State_take_67, w_State_take_69, cS hp, fS0 hp, fS1 hp, fS2 hp, fS3 hp, fS4 hp, fS5 hp, fS6 hp, pS1 hp, pS2 hp, pS3 hp, pS4 hp, eS1 hp, eS2 hp, iS1 hp, iS2 hp, c_3, f_3_0, p_3_0, f_3_1, p_3_1, f_3_2, p_3_2, f_3_3, p_3_3, f_3_4, p_3_4, f_3_5, p_3_5, f_3_6, p_3_6, f_3_7, p_3_7, f_3_8, p_3_8, f_3_9, f_3_10, f_3_11, f_3_12, f_3_13, Option.some.injEq, exists_eq_left', exists_eq_left, Option.toList_some, Option.toList_none, List.cons_append, List.nil_append, true_and, and_true, Option.map_some, Option.map_none, t_hasMatter (d := d) (by omega) hT, t_hasPerson (d := d) (by omega) hT, hz, hz2, if_true, h20, not_false_eq_true, x_nb0, Option.isSome_none, Bool.false_eq_true, if_false]
end TAKE2
