/-! ACTS that both take, keep and take back (own work) -/
def do2 (P : Nat → List Value → Option Value) (kc kr : Nat) (as : List Value) (W : Wd) : Prop := ∃ W' v, wOk W' ∧ cCall P kc as W W' v ∧ rCall P kr as W W' v
theorem ask2.do {P : Nat → List Value → Option Value} {kc kr : Nat} {as : List Value} {W : Wd} (h : wOk W) (a : ask2 P kc kr as W) : do2 P kc kr as W := by
  obtain ⟨v, h1, h2⟩ := a
  exact ⟨W, v, h, h1, h2⟩
def wAct (W : Wd) (l : List Int32) (A : As) : Wd := ((wT W, l, A), W.2)
def acC (s : xS) (l : List Int32) : Prop := s.1 1 6 = nI l.length ∧ ∀ i, i < l.length → s.1 12 i = l.getD i 0
def offA (s s' : xS) : Prop := (∀ q, q ≠ 1 → q ≠ 9 → q ≠ 10 → q ≠ 11 → q ≠ 12 → s'.1 q = s.1 q) ∧ (∀ k, k ≠ 6 → s'.1 1 k = s.1 1 k) ∧ s'.2 = s.2
theorem cW_act {s s' : xS} {W : Wd} {l : List Int32} {A : As} (hC : cW s W) (ho : offA s s') (hA : clsS s' 9 (wT W) A) (hl : acC s' l) : cW s' (wAct W l A) := by
  obtain ⟨⟨c1, c2, c3, c4⟩, ⟨d1, d2, d3, d4⟩, e, f⟩ := hC
  refine ⟨⟨clsT_at (fun q a b => ho.1 q (by omega) (by omega) (by omega) (by omega) (by omega)) c1, hA, hl.1, hl.2⟩, ⟨?_, ?_, ?_, ?_⟩, fun i hi => slC_at (ho.1 _ (by omega) (by omega) (by omega) (by omega) (by omega)) (by rw [ho.2.2]) (e i hi), fun k hk => imC_at (fun q a b => ho.1 q (by omega) (by omega) (by omega) (by omega) (by omega)) (f k hk)⟩
  · rw [ho.2.1 1 (by omega)]; exact d1
  · rw [ho.1 2 (by omega) (by omega) (by omega) (by omega) (by omega)]; exact d2
  · rw [ho.1 13 (by omega) (by omega) (by omega) (by omega) (by omega)]; exact d3
  · rw [ho.1 13 (by omega) (by omega) (by omega) (by omega) (by omega)]; exact d4
/-- only the reference's ACTS and what it reckons on differ -/
def offB (s s' : xS) : Prop := (∀ q, q ≠ 110 → q ≠ 111 → q < 115 ∨ 127 ≤ q → s'.1 q = s.1 q) ∧ (∀ k, k < 16 → s'.1 110 k = s.1 110 k) ∧ ∀ q, q ≠ 110 → q ≠ 130 → s'.2 q = s.2 q
theorem rW_act {s s' : xS} {W : Wd} {l : List Int32} {A : As} (hC : rW s W) (ho : offB s s') (hR : refW s' (wT W) l) : rW s' (wAct W l A) := by
  obtain ⟨c1, ⟨d1, d2, d3, d4⟩, e, f⟩ := hC
  refine ⟨hR, ⟨?_, ?_, ?_, ?_⟩, fun i hi => slR_at (by rw [ho.1 127 (by omega) (by omega) (by omega)]) (by rw [ho.1 128 (by omega) (by omega) (by omega)]) (fun j _ => by rw [ho.2.2 129 (by omega) (by omega)]) (e i hi), fun k hk => imR_at (ho.1 112 (by omega) (by omega) (by omega)) (ho.1 113 (by omega) (by omega) (by omega)) (f k hk)⟩
  · rw [ho.2.1 5 (by omega)]; exact d1
  · rw [ho.1 114 (by omega) (by omega) (by omega)]; exact d2
  · rw [ho.2.1 12 (by omega)]; exact d3
  · rw [ho.2.1 13 (by omega)]; exact d4
theorem wOk_act {W : Wd} {l : List Int32} {A : As} (h : wOk W) (hl : l.length ≤ 60) (hr : aRun (wT W) (aBegin (wT W)) l = some A) : wOk (wAct W l A) := ⟨h.1, hl, hr, h.2.2.2⟩
theorem gd_app (L : List Int32) (m : Int32) {i : Nat} (h : i < (L ++ [m]).length) : (L ++ [m]).getD i 0 = if i < L.length then L.getD i 0 else m := by
  simp only [List.getD_eq_getElem?_getD]
  by_cases hi : i < L.length
  · rw [if_pos hi, List.getElem?_append_left hi]
  · rw [if_neg hi, List.getElem?_append_right (by omega)]
    rw [List.length_append] at h
    have : i - L.length = 0 := by simp at h; omega
    rw [this]
    rfl
theorem aTake_s {T : Tw} {A : As} (hW : tWf T) {m : Nat} (hm : m < tM T) : aTake T A (nI m) = if tOpen T (msk A.1) m = true then some (aSettle A m) else none := by
  have w2 := hW.2.1
  unfold aTake
  rw [if_pos ⟨nI_pos (by omega), nI_ge hm (by omega)⟩, nI_clamp (by omega)]
theorem aTake_d {T : Tw} {A : As} (hW : tWf T) {a : Nat} (ha : a < tP T) : aTake T A (10 + nI a) = if aWhy T A a = 0 then some (aDrink T A a ((aLast T A a).getD 0)) else none := by
  have w1 := hW.1
  have w2 := hW.2.1
  unfold aTake
  have e : (10 : Int32) + nI a = nI (10 + a) := nI_add 10 a
  have e2 : (10 : Int32) + nI a - 10 = nI a := by rw [Int32.add_comm, Int32.add_sub_cancel]
  rw [e2, if_neg, if_pos ⟨nI_pos (by omega), nI_ge ha (by omega)⟩, nI_clamp (by omega)]
  rintro ⟨-, h⟩
  apply h
  rw [e]
  exact nI_le (by omega) (by omega)
theorem aTake_y {T : Tw} {A : As} (hW : tWf T) : aTake T A 20 = some (aDay T A) := by
  have w1 := hW.1
  have w2 := hW.2.1
  unfold aTake
  rw [if_neg, if_neg, if_pos rfl]
  · rintro ⟨-, h⟩
    apply h
    show nI (tP T) ≤ nI 10
    exact nI_le (by omega) (by omega)
  · rintro ⟨-, h⟩
    apply h
    show nI (tM T) ≤ nI 20
    exact nI_le (by omega) (by omega)
theorem sm_cnt (f : Nat → Bool) (n : Nat) : ∀ L : List Nat, L.Nodup → (∀ x ∈ L, x < n) → sm (fun k => if (decide (k ∈ L) && f k) = true then 1 else 0) n = nI (L.filter f).length := by
  intro L
  induction L with
  | nil =>
    intro _ _
    simp only [List.not_mem_nil, decide_false, Bool.false_and, Bool.false_eq_true, if_false, List.filter_nil, List.length_nil]
    rw [sm_0]
    rfl
  | cons a L ih =>
    intro hn hx
    obtain ⟨ha, hL⟩ := List.nodup_cons.mp hn
    have e : ∀ k, (if (decide (k ∈ a :: L) && f k) = true then (1 : Int32) else 0) = (if a = k then (if f a = true then 1 else 0) else 0) + (if (decide (k ∈ L) && f k) = true then 1 else 0) := by
      intro k
      by_cases h1 : a = k
      · subst h1
        simp [ha]
      · have h2 : ¬ k = a := fun z => h1 z.symm
        simp [h1, h2]
    rw [sm_eq (fun k _ => e k), sm_add, sm_one, if_pos (hx a List.mem_cons_self), ih hL (fun x hx2 => hx x (List.mem_cons_of_mem _ hx2)), List.filter_cons]
    by_cases hf : f a = true
    · rw [if_pos hf, if_pos hf, List.length_cons, Int32.add_comm, nI_1]
    · rw [if_neg hf, if_neg hf, Int32.zero_add]
theorem len_flt (f : Nat → Bool) : ∀ L : List Nat, L.length = (L.filter f).length + (L.filter (fun x => !f x)).length := by
  intro L
  induction L with
  | nil => rfl
  | cons a L ih =>
    rw [List.filter_cons, List.filter_cons]
    cases f a <;> simp <;> omega
theorem tFall_sub {T : Tw} {set : Int32} {m i : Nat} (hm : m < 32) (hi : i < 32) : ∀ n, n ≤ 32 → bt (tFallN T set m n) i = true → bt set i = true := by
  intro n
  induction n with
  | zero =>
    intro _ h
    rw [tFallN] at h
    split at h
    · rename_i hb
      rw [b_on hm hi] at h
      have : i = m := by simpa using h
      rw [this]; exact hb
    · rw [b_0] at h; cases h
  | succ n ih =>
    intro hn h
    rw [tFallN] at h
    split at h
    · rename_i hb
      rw [b_or, b_on (by omega) hi, Bool.or_eq_true] at h
      rcases h with h | h
      · exact ih (by omega) h
      · have : i = n := by simpa using h
        rw [this]; exact hb.1
    · exact ih (by omega) h
theorem fellN_eq {T : Tw} {A : As} {j m : Nat} (hW : tWf T) (hAw : aWf T A) (hm : m < tM T) : nI A.1.length - nI (aDrink T A j m).1.length = fellN T A m := by
  have w2 := hW.2.1
  have hx : ∀ x ∈ A.1, x < 8 := fun x hx => by have := hAw.1 x hx; omega
  have h1 := sm_cnt (fun k => bt (tFall T (msk A.1) m) k) 8 A.1 hAw.2.1 hx
  have h2 : fellN T A m = nI (A.1.filter (fun k => bt (tFall T (msk A.1) m) k)).length := by
    rw [← h1]
    unfold fellN
    refine sm_eq (fun k hk => ?_)
    cases hb : bt (tFall T (msk A.1) m) k
    · simp
    · have := tFall_sub (T := T) (set := msk A.1) (m := m) (i := k) (by omega) (by omega) (tM T) (by omega) hb
      rw [b_msk (by omega) (fun x hx2 => by have := hx x hx2; omega)] at this
      simp at this
      simp [this]
  have h3 := len_flt (fun k => bt (tFall T (msk A.1) m) k) A.1
  rw [h2, h3]
  show nI _ - nI (A.1.filter (fun x => !bt (tFall T (msk A.1) m) x)).length = _
  rw [pk_sub (by omega)]
  congr 1
  omega
theorem refT_pl {s s' : xS} {T : Tw} {a a' z z' : Nat} (hW : tWf T) (h : ∀ k, k < 75 → k ≠ 6 → s'.1 a (z + k) = s.1 a' (z' + k)) (hT : refT s a' z' T) : refT s' a z T := by
  have w1 := hW.1
  have w2 := hW.2.1
  obtain ⟨⟨t0, t1, t2, t3, t4, t5⟩, t6, t7⟩ := hT
  refine ⟨⟨?_, ?_, ?_, ?_, ?_, ?_⟩, fun p hp => ⟨?_, ?_⟩, fun m hm w hw => ?_⟩
  · exact (h 0 (by omega) (by omega)).trans t0
  · exact (h 1 (by omega) (by omega)).trans t1
  · exact (h 2 (by omega) (by omega)).trans t2
  · exact (h 3 (by omega) (by omega)).trans t3
  · exact (h 4 (by omega) (by omega)).trans t4
  · exact (h 5 (by omega) (by omega)).trans t5
  · exact (h (7 + 2 * p) (by omega) (by omega)).trans (t6 p hp).1
  · exact (h (8 + 2 * p) (by omega) (by omega)).trans (t6 p hp).2
  · exact (h (19 + 7 * m + w) (by omega) (by omega)).trans (t7 m hm w hw)
section ACTS
variable {P : Nat → List Value → Option Value} {d : Nat} {xs : List Int32} {s : xS} {T : Tw} {A : As} {l : List Int32}
set_option maxHeartbeats 4000000 in
theorem s_takeAct (hd : 5 ≤ d) (hT : clsT s 3 T) (hW : tWf T) (hA : clsS s 9 T A) (hAw : aWf T A) (hl : acC s l) (h60 : l.length ≤ 60) (act : Int32) {o : Option As} (ho : (if l.length < 60 then aTake T A act else none) = o) :
    ∃ s', x_ev g_M P d 130 [.ref 1, .int act] (mkH xs s) (some (.int (if o.isSome = true then 1 else 0)), mkH xs s') ∧ offA s s' ∧ clsS s' 9 T (o.getD A) ∧ acC s' (if o.isSome = true then l ++ [act] else l) := by
  obtain ⟨d, rfl⟩ := x_1 (d := d) (by omega)
  obtain ⟨hl1, hl2⟩ := hl
  have h9 : 9 ∈ g_SP := by decide
  by_cases h6 : l.length < 60
  · rw [if_pos h6] at ho
    subst ho
    have hc : ¬ (60 : Int32) ≤ nI l.length := nI_ge (b := 60) h6 (by omega)
    obtain ⟨s1, q1, q2, q3⟩ := s_take (P := P) (d := d) (xs := xs) (by omega) h9 hT hW hA hAw act
    have e1 : s1.1 1 6 = nI l.length := by rw [q2.1 1 (by omega) (by omega) (by omega)]; exact hl1
    have e2 : s1.1 12 = s.1 12 := q2.1 12 (by omega) (by omega) (by omega)
    cases ht : aTake T A act with
    | none =>
      rw [ht] at q1 q3
      refine ⟨s1, ?_, ⟨fun q a1 a2 a3 a4 a5 => q2.1 q a2 a3 a4, fun k _ => by rw [q2.1 1 (by omega) (by omega) (by omega)], q2.2⟩, q3, ⟨e1, fun i hi => by rw [e2]; exact hl2 i hi⟩⟩
      rw [x_ev_in rfl (Nat.le_of_ble_eq_true rfl)]
      rw [show x_ent (x_nL g_M 130) [.ref 1, .int act] = [some (.ref 1), some (.int act)] from rfl]
      simp only [w_Top_takeAct_0, w_Top_takeAct_4, w_Top_takeAct_9, w_Top_takeAct_13, w_Top_takeAct_17, w_Top_takeAct_20, w_Top_takeAct_22, w_Top_takeAct_26, w_Top_takeAct_30, w_Top_takeAct_32, w_Top_takeAct_37, w_Top_takeAct_42, c_1, f_1_0, f_1_1, p_1_1, f_1_2, f_1_3, f_1_4, f_1_5, f_1_6, p_1_6, f_1_7, f_1_8, f_1_9, f_1_10, f_1_11, f_1_12, f_1_13, f_1_14, c_9, f_9_0, f_9_1, p_9_1, f_9_2, p_9_2, f_9_3, p_9_3, f_9_4, p_9_4, f_9_5, f_9_6, Option.some.injEq, exists_eq_left', exists_eq_left, Option.toList_some, Option.toList_none, List.cons_append, List.nil_append, true_and, and_true, Option.map_some, Option.map_none, hl1, hc, if_false, x_ev_iff q1, Option.isSome_none, Bool.false_eq_true, not_true_eq_false, x_nb0]
    | some B =>
      rw [ht] at q1 q3
      refine ⟨s_p (s_p s1 12 l.length act) 1 6 (nI (l.length + 1)), ?_, ⟨fun q a1 a2 a3 a4 a5 => ?_, fun k hk => ?_, q2.2⟩, ?_, ⟨?_, fun i hi => ?_⟩⟩
      · rw [x_ev_in rfl (Nat.le_of_ble_eq_true rfl)]
        rw [show x_ent (x_nL g_M 130) [.ref 1, .int act] = [some (.ref 1), some (.int act)] from rfl]
        have hx : x_rd (s1.1 12) 60 (nI l.length) = some (s1.1 12 l.length) := x_rd_nI (by omega) (by omega)
        have e3 : (s_p s1 12 l.length act).1 1 6 = nI l.length := by simp [s_p, e1]
        simp only [w_Top_takeAct_0, w_Top_takeAct_4, w_Top_takeAct_9, w_Top_takeAct_13, w_Top_takeAct_17, w_Top_takeAct_20, w_Top_takeAct_22, w_Top_takeAct_26, w_Top_takeAct_30, w_Top_takeAct_32, w_Top_takeAct_37, w_Top_takeAct_42, c_1, f_1_0, f_1_1, p_1_1, f_1_2, f_1_3, f_1_4, f_1_5, f_1_6, p_1_6, f_1_7, f_1_8, f_1_9, f_1_10, f_1_11, f_1_12, f_1_13, f_1_14, c_9, f_9_0, f_9_1, p_9_1, f_9_2, p_9_2, f_9_3, p_9_3, f_9_4, p_9_4, f_9_5, f_9_6, e_12, i_12, Option.some.injEq, exists_eq_left', exists_eq_left, Option.toList_some, Option.toList_none, List.cons_append, List.nil_append, true_and, and_true, Option.map_some, Option.map_none, hl1, hc, if_false, x_ev_iff q1, Option.isSome_some, if_true, show ¬ ((1 : Int32) = 0) by decide, not_false_eq_true, x_nb1, e1, hx, nI_clamp (show l.length < 2 ^ 31 by omega), e3, nI_1]
      · rw [← q2.1 q a2 a3 a4]
        funext k
        simp [s_p, a1, a5]
      · have := congrFun (q2.1 1 (by omega) (by omega) (by omega)) k
        simp [s_p, hk, this]
      · refine clsS_at (fun q a b => ?_) q3
        funext k
        have h1 : ¬ q = 1 := by omega
        have h2 : ¬ q = 12 := by omega
        simp [s_p, h1, h2]
      · simp [s_p]
      · have hi' : i < (l ++ [act]).length := hi
        show _ = (l ++ [act]).getD i 0
        rw [gd_app l act hi']
        by_cases h1 : i < l.length
        · have h2 : ¬ i = l.length := by omega
          rw [if_pos h1, ← hl2 i h1, ← e2]
          simp [s_p, h2]
        · have h2 : i = l.length := by simp at hi'; omega
          rw [if_neg h1]
          simp [s_p, h2]
  · rw [if_neg h6] at ho
    subst ho
    have hc : (60 : Int32) ≤ nI l.length := nI_le (a := 60) (by omega) (by omega)
    refine ⟨s, ?_, ⟨fun q _ _ _ _ _ => rfl, fun _ _ => rfl, rfl⟩, hA, ⟨hl1, hl2⟩⟩
    rw [x_ev_in rfl (Nat.le_of_ble_eq_true rfl)]
    rw [show x_ent (x_nL g_M 130) [.ref 1, .int act] = [some (.ref 1), some (.int act)] from rfl]
    simp only [w_Top_takeAct_0, w_Top_takeAct_4, w_Top_takeAct_9, w_Top_takeAct_13, w_Top_takeAct_17, w_Top_takeAct_20, w_Top_takeAct_22, w_Top_takeAct_26, w_Top_takeAct_30, w_Top_takeAct_32, w_Top_takeAct_37, w_Top_takeAct_42, c_1, f_1_0, f_1_1, p_1_1, f_1_2, f_1_3, f_1_4, f_1_5, f_1_6, p_1_6, f_1_7, f_1_8, f_1_9, f_1_10, f_1_11, f_1_12, f_1_13, f_1_14, c_9, f_9_0, f_9_1, p_9_1, f_9_2, p_9_2, f_9_3, p_9_3, f_9_4, p_9_4, f_9_5, f_9_6, Option.some.injEq, exists_eq_left', exists_eq_left, Option.toList_some, Option.toList_none, List.cons_append, List.nil_append, true_and, and_true, Option.map_some, Option.map_none, hl1, hc, if_true, Option.isSome_none, Bool.false_eq_true, if_false, x_nb0]
theorem s_replayL (hd : 4 ≤ d) (hT : clsT s 3 T) (hK : tOk T) (hl : acC s l) (h60 : l.length ≤ 60) : ∀ (n i : Nat) (si : xS) (Ai : As), i + n = l.length → off3 s si 9 → clsS si 9 T Ai → aWf T Ai → aRun T Ai (l.drop i) = some A →
    ∃ s', x_R (x_ev g_M P d) 133 (9, [some (.ref 1), some (.int (nI i))], [], mkH xs si) (none, mkH xs s') ∧ off3 s s' 9 ∧ clsS s' 9 T A := by
  have h9 : 9 ∈ g_SP := by decide
  intro n
  induction n with
  | zero =>
    intro i si Ai hin ho hS hw hr
    have hi : i = l.length := by omega
    subst hi
    rw [List.drop_length] at hr
    cases hr
    have e6 : si.1 1 6 = nI l.length := by rw [ho.1 1 (by omega) (by omega) (by omega)]; exact hl.1
    refine ⟨si, ?_, ho, hS⟩
    simp only [w_Top_replay_0, w_Top_replay_4, w_Top_replay_7, w_Top_replay_14, w_Top_replay_17, w_Top_replay_21, w_Top_replay_25, w_Top_replay_27, w_Top_replay_30, w_Top_replay_37, w_Top_replay_9 (l1 := nI l.length), c_1, f_1_0, f_1_1, p_1_1, f_1_2, f_1_3, f_1_4, f_1_5, f_1_6, p_1_6, f_1_7, f_1_8, f_1_9, f_1_10, f_1_11, f_1_12, f_1_13, f_1_14, Option.some.injEq, exists_eq_left', exists_eq_left, Option.toList_some, Option.toList_none, List.cons_append, List.nil_append, true_and, and_true, Option.map_some, Option.map_none, e6, show nI l.length ≤ nI l.length from Int32.le_refl _, if_true]
  | succ n ih =>
    intro i si Ai hin ho hS hw hr
    have hi : i < l.length := by omega
    rw [List.drop_eq_getElem_cons hi, aRun] at hr
    have hg : l.getD i 0 = l[i] := by rw [List.getD_eq_getElem?_getD, List.getElem?_eq_getElem hi]; rfl
    cases hB : aTake T Ai l[i] with
    | none => rw [hB] at hr; cases hr
    | some B =>
      rw [hB] at hr
      obtain ⟨s1, q1, q2, q3⟩ := s_take (P := P) (d := d) (xs := xs) (by omega) h9 (ho.T h9 hT) hK.1 hS hw l[i]
      rw [hB] at q1 q3
      obtain ⟨s', z1, z2, z3⟩ := ih (i + 1) s1 B (by omega) (ho.tr q2) q3 (aWf_take hK.1 hw hB) hr
      refine ⟨s', ?_, z2, z3⟩
      have e6 : si.1 1 6 = nI l.length := by rw [ho.1 1 (by omega) (by omega) (by omega)]; exact hl.1
      have e7 : x_rd (si.1 12) 60 (nI i) = some l[i] := by
        rw [x_rd_nI (by omega) (by omega), ho.1 12 (by omega) (by omega) (by omega), hl.2 i hi, hg]
      have hc : ¬ nI l.length ≤ nI i := nI_ge hi (by omega)
      simp only [w_Top_replay_0, w_Top_replay_4, w_Top_replay_7, w_Top_replay_14, w_Top_replay_17, w_Top_replay_21, w_Top_replay_25, w_Top_replay_27, w_Top_replay_30, w_Top_replay_37, w_Top_replay_9 (l1 := nI i), c_1, f_1_0, f_1_1, p_1_1, f_1_2, f_1_3, f_1_4, f_1_5, f_1_6, p_1_6, f_1_7, f_1_8, f_1_9, f_1_10, f_1_11, f_1_12, f_1_13, f_1_14, c_9, f_9_0, f_9_1, p_9_1, f_9_2, p_9_2, f_9_3, p_9_3, f_9_4, p_9_4, f_9_5, f_9_6, e_12, i_12, Option.some.injEq, exists_eq_left', exists_eq_left, Option.toList_some, Option.toList_none, List.cons_append, List.nil_append, true_and, and_true, Option.map_some, Option.map_none, e6, e7, hc, if_false, x_ev_iff q1, nI_1]
      exact z1
theorem s_replay (hd : 5 ≤ d) (hT : clsT s 3 T) (hK : tOk T) (hl : acC s l) (h60 : l.length ≤ 60) (hr : aRun T (aBegin T) l = some A) : ∃ s', x_ev g_M P d 133 [.ref 1] (mkH xs s) (none, mkH xs s') ∧ off3 s s' 9 ∧ clsS s' 9 T A := by
  have h9 : 9 ∈ g_SP := by decide
  obtain ⟨d, rfl⟩ := x_1 (d := d) (by omega)
  obtain ⟨s1, q1, q2, q3⟩ := s_begin (P := P) (d := d) (xs := xs) (by omega) h9 hT hK.1
  obtain ⟨s', z1, z2, z3⟩ := s_replayL (P := P) (d := d) (xs := xs) (by omega) hT hK hl h60 l.length 0 s1 (aBegin T) (by omega) q2 q3 aWf_begin hr
  refine ⟨s', ?_, z2, z3⟩
  rw [x_ev_in rfl (Nat.le_of_ble_eq_true rfl)]
  rw [show x_ent (x_nL g_M 133) [.ref 1] = [some (.ref 1), none] from rfl]
  simp only [w_Top_replay_0, w_Top_replay_4, w_Top_replay_7, w_Top_replay_14, w_Top_replay_17, w_Top_replay_21, w_Top_replay_25, w_Top_replay_27, w_Top_replay_30, w_Top_replay_37, c_1, f_1_0, f_1_1, p_1_1, f_1_2, f_1_3, f_1_4, f_1_5, f_1_6, p_1_6, f_1_7, f_1_8, f_1_9, f_1_10, f_1_11, f_1_12, f_1_13, f_1_14, c_9, f_9_0, f_9_1, p_9_1, f_9_2, p_9_2, f_9_3, p_9_3, f_9_4, p_9_4, f_9_5, f_9_6, Option.some.injEq, exists_eq_left', exists_eq_left, Option.toList_some, Option.toList_none, List.cons_append, List.nil_append, true_and, and_true, Option.map_some, Option.map_none, x_ev_iff q1]
  exact z1
theorem r_keepAct (hd : 1 ≤ d) (hW : tWf T) (hR : refW s T l) (h60 : l.length < 60) (act : Int32) : ∃ s', x_ev g_M P d 253 [.ref 110, .int act] (mkH xs s) (none, mkH xs s') ∧ (∀ q, q ≠ 111 → s'.1 q = s.1 q) ∧ s'.2 = s.2 ∧ refW s' T (l ++ [act]) := by
  obtain ⟨hT, r6, ra, r60⟩ := hR
  have hk : ∀ (s : xS) k v w, k ≠ 6 → k ≠ 75 + l.length → (s_p (s_p s 111 (75 + l.length) v) 111 6 w).1 111 k = s.1 111 k := fun s k v w h1 h2 => by simp [s_p, h1, h2]
  refine ⟨s_p (s_p s 111 (75 + l.length) act) 111 6 (nI (l.length + 1)), ?_, fun q hq => ?_, rfl, ⟨refT_pl hW (fun k h1 h2 => hk s _ _ _ (by omega) (by omega)) hT, ?_, fun i hi => ?_, ?_⟩⟩
  · have e6 : x_rd (s.1 111) 135 6 = some (nI l.length) := by rw [show (6 : Int32) = nI 6 from rfl, x_rd_nI (by omega) (by omega), r6]
    have e7 : x_rd (s.1 111) 135 (75 + nI l.length) = some (s.1 111 (75 + l.length)) := by rw [show (75 : Int32) = nI 75 from rfl, nI_add, x_rd_nI (by omega) (by omega)]
    have ec : ((75 : Int32) + nI l.length).toNatClampNeg = 75 + l.length := by rw [show (75 : Int32) = nI 75 from rfl, nI_add, nI_clamp (by omega)]
    have e8 : x_rd ((s_p s 111 (75 + l.length) act).1 111) 135 6 = some (nI l.length) := by
      rw [show (6 : Int32) = nI 6 from rfl, x_rd_nI (by omega) (by omega)]
      have : ¬ 6 = 75 + l.length := by omega
      simp [s_p, this, r6]
    obtain ⟨d, rfl⟩ := x_1 (d := d) (by omega)
    rw [x_ev_in rfl (Nat.le_of_ble_eq_true rfl)]
    rw [show x_ent (x_nL g_M 253) [.ref 110, .int act] = [some (.ref 110), some (.int act)] from rfl]
    simp only [w_Ref_keepAct_0, w_Ref_keepAct_4, w_Ref_keepAct_10, w_Ref_keepAct_13, w_Ref_keepAct_16, w_Ref_keepAct_20, w_Ref_keepAct_24, w_Ref_keepAct_27, c_110, f_110_0, p_110_0, f_110_1, f_110_2, f_110_3, f_110_4, f_110_5, p_110_5, f_110_6, f_110_7, p_110_7, f_110_8, p_110_8, f_110_9, p_110_9, f_110_10, p_110_10, f_110_11, p_110_11, f_110_12, p_110_12, f_110_13, p_110_13, f_110_14, f_110_15, f_110_16, p_110_16, f_110_17, f_110_18, p_110_18, f_110_19, p_110_19, f_110_20, f_110_21, p_110_21, f_110_22, p_110_22, f_110_23, f_110_24, f_110_25, p_110_25, f_110_26, f_110_27, f_110_28, f_110_29, f_110_30, f_110_31, p_110_31, f_110_32, p_110_32, f_110_33, p_110_33, f_110_34, p_110_34, f_110_35, f_110_36, f_110_37, f_110_38, e_111, i_111, Option.some.injEq, exists_eq_left', exists_eq_left, Option.toList_some, Option.toList_none, List.cons_append, List.nil_append, true_and, and_true, Option.map_some, Option.map_none, e6, e7, ec, e8, show (6 : Int32).toNatClampNeg = 6 by decide, nI_1]
  · funext k
    simp [s_p, hq]
  · rw [List.length_append]
    simp [s_p]
  · rw [gd_app l act hi]
    by_cases h1 : i < l.length
    · rw [if_pos h1, hk _ _ _ _ (by omega) (by omega)]; exact ra i h1
    · have h2 : i = l.length := by rw [List.length_append] at hi; simp at hi; omega
      rw [if_neg h1, h2]
      have : ¬ 75 + l.length = 6 := by omega
      simp [s_p, this]
  · rw [List.length_append]
    simp
    omega
end ACTS
