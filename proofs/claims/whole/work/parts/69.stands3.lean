/-! stands, stood, best: the reference's answers, and the promises (own work) -/
theorem lst_s (m : Nat) (S : Int32) : lst (m + 1) S = if bt S m = true then lst m S ++ [m] else lst m S := by
  unfold lst
  rw [List.range_succ, List.filter_append, List.filter_cons]
  by_cases h : bt S m = true
  · simp [h]
  · simp [h]
theorem lst_len (m : Nat) (S : Int32) : (lst m S).length ≤ m := by
  have := List.length_filter_le (fun i => bt S i) (List.range m)
  rw [List.length_range] at this
  exact this
/-- the orders of a set that stand -/
def stF (T : Tw) (A : As) (n : Nat) : List (List Nat) := (pm (tM T) (lst (tM T) (nI n)).length (nI n)).filter (okR T A)
theorem stF_fc {T : Tw} (hW : tWf T) {A : As} {n : Nat} (hn : n < 2 ^ tM T) : stF T A n = (pm (tM T) (lst (tM T) (nI n)).length (nI n)).filter (fun t => fcX T A (nI n) 0 (nI n) t) := by
  unfold stF
  apply List.filter_congr
  intro t ht
  exact okR_fc hW (fun i hi h => lo8_b (tM T) hW.2.1 n hn i hi h) ht
theorem n256 {T : Tw} (hW : tWf T) {n : Nat} (hn : n < 2 ^ tM T) : n < 256 := Nat.lt_of_lt_of_le hn (p2_le (tM T) (by have := hW.2.1; omega)).1
theorem stF_wy {T : Tw} (hW : tWf T) {A : As} {n : Nat} (hn : n < 2 ^ tM T) : (stF T A n).length = wyN T A n 0 := by
  rw [stF_fc hW hn]
  unfold wyN wyX
  rw [rst_0 n (n256 hW hn)]
  rfl
theorem stF_hd {T : Tw} (hW : tWf T) {A : As} {n : Nat} (hn : n < 2 ^ tM T) : (stF T A n).head? = hdN T A n 0 := by
  rw [stF_fc hW hn]
  unfold hdN hdX
  rw [rst_0 n (n256 hW hn)]
  rfl
theorem stF_clo {T : Tw} (hW : tWf T) {A : As} {n : Nat} (hc : tClo T (nI n) = false) : stF T A n = [] := by
  unfold stF
  rw [List.filter_eq_nil_iff]
  intro t ht hk
  have hm := (pm_mem hW.2.1 _ _ t rfl ht).2.2
  unfold okR at hk
  rw [Bool.and_eq_true] at hk
  have hl := law_clo hW (S := nI n) t 0 hk.1 (fun i hi h => by rw [b_0] at h; cases h) (fun m h => (hm m).mp h)
  unfold tClo at hc
  cases hf : frst (fun m => bt (nI n) m && !decide ((tOn T m &&& (nI n ^^^ (-1))) = 0)) 0 (tM T) with
  | none => rw [hf] at hc; cases hc
  | some m =>
    obtain ⟨-, h2, h3, -⟩ := frst_some hf
    rw [Bool.and_eq_true] at h3
    have := hl m ((hm m).mpr ⟨by omega, h3.1⟩)
    have h4 := h3.2
    rw [decide_eq_true this] at h4
    cases h4
theorem bc_lst {T : Tw} (hW : tWf T) {n : Nat} (hn : n < 2 ^ tM T) : bcE (nI n) = nI (lst (tM T) (nI n)).length := by
  have w2 := hW.2.1
  rw [bcE_sm n (n256 hW hn)]
  have := sm_cnt (fun _ => true) 8 (lst (tM T) (nI n)) ((lst_sorted (tM T) (nI n)).imp (fun h => Nat.ne_of_lt h)) (fun x hx => by have := (mem_lst.mp hx).1; omega)
  rw [show (lst (tM T) (nI n)).filter (fun _ => true) = lst (tM T) (nI n) from List.filter_eq_self.mpr (fun _ _ => rfl)] at this
  rw [← this]
  apply sm_eq
  intro i hi
  by_cases h1 : i < tM T
  · by_cases h2 : bt (nI n) i = true
    · have : i ∈ lst (tM T) (nI n) := mem_lst.mpr ⟨h1, h2⟩
      simp [h2, this]
    · have : ¬ i ∈ lst (tM T) (nI n) := fun z => h2 (mem_lst.mp z).2
      simp [h2, this]
  · have h2 := lo8_b (tM T) w2 n hn i (by omega) (by omega)
    have : ¬ i ∈ lst (tM T) (nI n) := fun z => h1 (mem_lst.mp z).1
    simp [h2, this]
section STANDS3
variable {P : Nat → List Value → Option Value} {d : Nat} {xs : List Int32} {T : Tw} {A : As}
theorem r_standsBy (hd : 9 ≤ d) {s : xS} {acts : List Int32} (hR : refW s T acts) (hK : tOk T) (hr : aRun T (aBegin T) acts = some A) (hO : aOk T A) {n : Nat} (hn : n < 2 ^ tM T) (one : Int32) : ∃ z, keR s z ∧ ((one ≠ 0 ∧ ∃ τ, hdN T A n 0 = some τ ∧ x_ev g_M P d 285 [.ref 110, .int (nI n), .int one] (mkH xs s) (some (.int 1), mkH xs z) ∧ ∀ i, i < τ.length → z.1 121 i = nI (lo τ i)) ∨ ((one ≠ 0 → wyN T A n 0 = 0) ∧ x_ev g_M P d 285 [.ref 110, .int (nI n), .int one] (mkH xs s) (some (.int (nI (wyN T A n 0))), mkH xs z))) := by
  obtain ⟨d, rfl⟩ := x_1 (d := d) (by omega)
  have hW := hK.1
  have w2 := hW.2.1
  obtain ⟨s1, q1, q2, q3⟩ := r_beBare (P := P) (d := d) (xs := xs) (by omega) hR hK hr
  have hT1 : refT s1 111 0 T := refT_ke q2.ke hR.1
  by_cases hc : tClo T (nI n) = true
  · obtain ⟨z, ⟨h1, h2⟩, e⟩ := x_upY (C := x_ev g_M P d) (k := 285) (N := tM T) (β := xS) (R := fun m z => offR s1 z ∧ refS z T (bare A (lst m (nI n)))) (F := fun m z => (16, [some (.ref 110), some (.int (nI n)), some (.int one), some (.int (nI m)), none], [], mkH xs z)) (fun m z hm hz => by
      obtain ⟨hz, hB⟩ := hz
      have hTz : refT z 111 0 T := refT_ke hz.ke hT1
      have hcc : ¬ nI (tM T) ≤ nI m := nI_ge hm (by omega)
      by_cases hb : bt (nI n) m = true
      · have hl := lst_len m (nI n)
        obtain ⟨z1, a1, a2, a3⟩ := r_settle0 (P := P) (d := d) (xs := xs) (by omega) hB (m := m) (show (lst m (nI n)).length < 8 by omega)
        refine ⟨z1, ⟨hz.tr a2, ?_⟩, fun r => ?_⟩
        · rw [lst_s, if_pos hb]; exact a3
        · simp only [w_Ref_standsBy_4, w_Ref_standsBy_9, w_Ref_standsBy_12, w_Ref_standsBy_14, w_Ref_standsBy_21, w_Ref_standsBy_23, w_Ref_standsBy_26, w_Ref_standsBy_31, w_Ref_standsBy_35, w_Ref_standsBy_40, w_Ref_standsBy_46, w_Ref_standsBy_52, w_Ref_standsBy_55, w_Ref_standsBy_59, w_Ref_standsBy_62, w_Ref_standsBy_65, w_Ref_standsBy_69, w_Ref_standsBy_78, w_Ref_standsBy_81, w_Ref_standsBy_85, w_Ref_standsBy_91, w_Ref_standsBy_94, w_Ref_standsBy_95, w_Ref_standsBy_101, w_Ref_standsBy_108, w_Ref_standsBy_110, w_Ref_standsBy_115, w_Ref_standsBy_118, w_Ref_standsBy_121, w_Ref_standsBy_16 (l3 := nI m), c_110, f_110_0, p_110_0, f_110_1, f_110_2, f_110_3, f_110_4, f_110_5, p_110_5, f_110_6, f_110_7, p_110_7, f_110_8, p_110_8, f_110_9, p_110_9, f_110_10, p_110_10, f_110_11, p_110_11, f_110_12, p_110_12, f_110_13, p_110_13, f_110_14, f_110_15, f_110_16, p_110_16, f_110_17, f_110_18, p_110_18, f_110_19, p_110_19, f_110_20, f_110_21, p_110_21, f_110_22, p_110_22, f_110_23, f_110_24, f_110_25, p_110_25, f_110_26, f_110_27, f_110_28, f_110_29, f_110_30, f_110_31, p_110_31, f_110_32, p_110_32, f_110_33, p_110_33, f_110_34, p_110_34, f_110_35, f_110_36, f_110_37, f_110_38, e_111, i_111, Option.some.injEq, exists_eq_left', exists_eq_left, Option.toList_some, Option.toList_none, List.cons_append, List.nil_append, true_and, and_true, Option.map_some, Option.map_none, x_w4 hTz, hcc, if_false, r_bit (d := d) (by omega), bit_1 (show m < 32 by omega), hb, not_true_eq_false, x_ev_iff a1, nI_1]
      · refine ⟨z, ⟨hz, ?_⟩, fun r => ?_⟩
        · rw [lst_s, if_neg hb]; exact hB
        · simp only [w_Ref_standsBy_4, w_Ref_standsBy_9, w_Ref_standsBy_12, w_Ref_standsBy_14, w_Ref_standsBy_21, w_Ref_standsBy_23, w_Ref_standsBy_26, w_Ref_standsBy_31, w_Ref_standsBy_35, w_Ref_standsBy_40, w_Ref_standsBy_46, w_Ref_standsBy_52, w_Ref_standsBy_55, w_Ref_standsBy_59, w_Ref_standsBy_62, w_Ref_standsBy_65, w_Ref_standsBy_69, w_Ref_standsBy_78, w_Ref_standsBy_81, w_Ref_standsBy_85, w_Ref_standsBy_91, w_Ref_standsBy_94, w_Ref_standsBy_95, w_Ref_standsBy_101, w_Ref_standsBy_108, w_Ref_standsBy_110, w_Ref_standsBy_115, w_Ref_standsBy_118, w_Ref_standsBy_121, w_Ref_standsBy_16 (l3 := nI m), c_110, f_110_0, p_110_0, f_110_1, f_110_2, f_110_3, f_110_4, f_110_5, p_110_5, f_110_6, f_110_7, p_110_7, f_110_8, p_110_8, f_110_9, p_110_9, f_110_10, p_110_10, f_110_11, p_110_11, f_110_12, p_110_12, f_110_13, p_110_13, f_110_14, f_110_15, f_110_16, p_110_16, f_110_17, f_110_18, p_110_18, f_110_19, p_110_19, f_110_20, f_110_21, p_110_21, f_110_22, p_110_22, f_110_23, f_110_24, f_110_25, p_110_25, f_110_26, f_110_27, f_110_28, f_110_29, f_110_30, f_110_31, p_110_31, f_110_32, p_110_32, f_110_33, p_110_33, f_110_34, p_110_34, f_110_35, f_110_36, f_110_37, f_110_38, e_111, i_111, Option.some.injEq, exists_eq_left', exists_eq_left, Option.toList_some, Option.toList_none, List.cons_append, List.nil_append, true_and, and_true, Option.map_some, Option.map_none, x_w4 hTz, hcc, if_false, r_bit (d := d) (by omega), bit_1 (show m < 32 by omega), hb, not_false_eq_true, if_true, nI_1, Bool.false_eq_true]) (tM T) 0 s1 (by omega) ⟨offR.rf, by
      have : lst 0 (nI n) = [] := rfl
      rw [this]; exact q3⟩
    have hTz : refT z 111 0 T := refT_ke h1.ke hT1
    have hkz : keR s z := q2.ke.tr h1.ke
    have hl := lst_len (tM T) (nI n)
    have hwf : aWf T (bare A ([] ++ lst (tM T) (nI n))) := ⟨fun m hm => (mem_lst.mp hm).1, (lst_sorted (tM T) (nI n)).imp (fun h => Nat.ne_of_lt h), by show (lst (tM T) (nI n)).length ≤ 8; omega⟩
    have em : ((pm (tM T) (lst (tM T) (nI n)).length (nI n)).map (fun t => [] ++ t)).filter (okR T A) = stF T A n := by
      have : (fun t : List Nat => [] ++ t) = id := by funext t; rfl
      rw [this, List.map_id]
      rfl
    have hb := wyN_b hW A n 0
    have key := r_enum (P := P) (d := d) (xs := xs) (A := A) (set := nI n) (one := one) (by omega) hW hO hR.1 (lst (tM T) (nI n)).length (nI n) [] z 0 none rfl hkz h2 hwf (fun _ => rfl) (by rw [em, stF_wy hW hn]; omega)
    have st : ∀ r, x_ev g_M P (d + 1) 285 [.ref 110, .int (nI n), .int one] (mkH xs s) r ↔ x_R (x_ev g_M P d) 285 (48, stL (nI n) one 0 none, [], mkH xs z) r := fun r => by
      rw [x_ev_in rfl (Nat.le_of_ble_eq_true rfl)]
      rw [show x_ent (x_nL g_M 285) [.ref 110, .int (nI n), .int one] = [some (.ref 110), some (.int (nI n)), some (.int one), none, none] from rfl]
      simp only [w_Ref_standsBy_0, w_Ref_standsBy_4, w_Ref_standsBy_9, w_Ref_standsBy_14, c_110, f_110_0, p_110_0, f_110_1, f_110_2, f_110_3, f_110_4, f_110_5, p_110_5, f_110_6, f_110_7, p_110_7, f_110_8, p_110_8, f_110_9, p_110_9, f_110_10, p_110_10, f_110_11, p_110_11, f_110_12, p_110_12, f_110_13, p_110_13, f_110_14, f_110_15, f_110_16, p_110_16, f_110_17, f_110_18, p_110_18, f_110_19, p_110_19, f_110_20, f_110_21, p_110_21, f_110_22, p_110_22, f_110_23, f_110_24, f_110_25, p_110_25, f_110_26, f_110_27, f_110_28, f_110_29, f_110_30, f_110_31, p_110_31, f_110_32, p_110_32, f_110_33, p_110_33, f_110_34, p_110_34, f_110_35, f_110_36, f_110_37, f_110_38, Option.some.injEq, exists_eq_left', exists_eq_left, Option.toList_some, Option.toList_none, List.cons_append, List.nil_append, true_and, and_true, Option.map_some, Option.map_none, x_ev_iff q1, r_isClosed (d := d) (by omega) hT1 hW, hc, b01, if_true, show ¬ ((1 : Int32) = 0) by decide, not_false_eq_true]
      refine (e r).trans ?_
      simp only [w_Ref_standsBy_16 (l3 := nI (tM T)), w_Ref_standsBy_21, w_Ref_standsBy_23, w_Ref_standsBy_46, c_110, f_110_0, p_110_0, f_110_1, f_110_2, f_110_3, f_110_4, f_110_5, p_110_5, f_110_6, f_110_7, p_110_7, f_110_8, p_110_8, f_110_9, p_110_9, f_110_10, p_110_10, f_110_11, p_110_11, f_110_12, p_110_12, f_110_13, p_110_13, f_110_14, f_110_15, f_110_16, p_110_16, f_110_17, f_110_18, p_110_18, f_110_19, p_110_19, f_110_20, f_110_21, p_110_21, f_110_22, p_110_22, f_110_23, f_110_24, f_110_25, p_110_25, f_110_26, f_110_27, f_110_28, f_110_29, f_110_30, f_110_31, p_110_31, f_110_32, p_110_32, f_110_33, p_110_33, f_110_34, p_110_34, f_110_35, f_110_36, f_110_37, f_110_38, e_111, i_111, Option.some.injEq, exists_eq_left', exists_eq_left, Option.toList_some, Option.toList_none, List.cons_append, List.nil_append, true_and, and_true, Option.map_some, Option.map_none, x_w4 hTz, show nI (tM T) ≤ nI (tM T) from Int32.le_refl _, if_true]
      exact Iff.rfl
    unfold outB at key
    rw [em, stF_wy hW hn, stF_hd hW hn] at key
    rcases key with ⟨g1, τ, z', g2, g3, g4, g5⟩ | ⟨g1, z', o', g2, g3, g4⟩
    · exact ⟨z', g4, Or.inl ⟨g1, τ, g2, (st _).mpr g3, g5⟩⟩
    · refine ⟨z', g2, Or.inr ⟨fun h => by rw [← stF_wy hW hn, g1 h]; rfl, (st _).mpr ((g4 _).mpr ?_)⟩⟩
      have a1 : z'.1 110 16 = nI (lst (tM T) (nI n)).length := by
        have := g3.1
        rw [this]
        show nI ([] ++ (lst (tM T) (nI n)).reverse).length = _
        simp
      have hrow : rowF z' (lst (tM T) (nI n)).length (lo (lst (tM T) (nI n)).reverse) := fun i hi => g3.2.1 i (by show i < ([] ++ (lst (tM T) (nI n)).reverse).length; simpa using hi)
      have hno := r_nxNo (P := P) (d := d) (xs := xs) (by omega) (show (lst (tM T) (nI n)).length ≤ 8 by omega) (fun i hi => by
        rw [lo_rv _ _ hi]
        have hlt : (lst (tM T) (nI n)).length - 1 - i < (lst (tM T) (nI n)).length := by omega
        have hmem : lo (lst (tM T) (nI n)) ((lst (tM T) (nI n)).length - 1 - i) ∈ lst (tM T) (nI n) := by
          unfold lo
          rw [List.getD_eq_getElem?_getD, List.getElem?_eq_getElem hlt]
          exact List.getElem_mem hlt
        have := (mem_lst.mp hmem).1
        omega) hrow (fun i hi => by
        rw [lo_rv _ _ hi, lo_rv _ _ (by omega)]
        exact pw_lo (lst_sorted (tM T) (nI n)) (by omega) (by omega))
      unfold stL
      simp only [w_Ref_standsBy_110, w_Ref_standsBy_115, w_Ref_standsBy_118, w_Ref_standsBy_121, c_110, f_110_0, p_110_0, f_110_1, f_110_2, f_110_3, f_110_4, f_110_5, p_110_5, f_110_6, f_110_7, p_110_7, f_110_8, p_110_8, f_110_9, p_110_9, f_110_10, p_110_10, f_110_11, p_110_11, f_110_12, p_110_12, f_110_13, p_110_13, f_110_14, f_110_15, f_110_16, p_110_16, f_110_17, f_110_18, p_110_18, f_110_19, p_110_19, f_110_20, f_110_21, p_110_21, f_110_22, p_110_22, f_110_23, f_110_24, f_110_25, p_110_25, f_110_26, f_110_27, f_110_28, f_110_29, f_110_30, f_110_31, p_110_31, f_110_32, p_110_32, f_110_33, p_110_33, f_110_34, p_110_34, f_110_35, f_110_36, f_110_37, f_110_38, Option.some.injEq, exists_eq_left', exists_eq_left, Option.toList_some, Option.toList_none, List.cons_append, List.nil_append, true_and, and_true, Option.map_some, Option.map_none, a1, x_ev_iff hno, not_true_eq_false, if_false, Nat.zero_add]
  · have hc' : tClo T (nI n) = false := by simpa using hc
    have h0 : wyN T A n 0 = 0 := by rw [← stF_wy hW hn, stF_clo hW hc']; rfl
    refine ⟨s1, q2.ke, Or.inr ⟨fun _ => h0, ?_⟩⟩
    rw [h0]
    rw [x_ev_in rfl (Nat.le_of_ble_eq_true rfl)]
    rw [show x_ent (x_nL g_M 285) [.ref 110, .int (nI n), .int one] = [some (.ref 110), some (.int (nI n)), some (.int one), none, none] from rfl]
    simp only [w_Ref_standsBy_0, w_Ref_standsBy_4, w_Ref_standsBy_9, w_Ref_standsBy_12, c_110, f_110_0, p_110_0, f_110_1, f_110_2, f_110_3, f_110_4, f_110_5, p_110_5, f_110_6, f_110_7, p_110_7, f_110_8, p_110_8, f_110_9, p_110_9, f_110_10, p_110_10, f_110_11, p_110_11, f_110_12, p_110_12, f_110_13, p_110_13, f_110_14, f_110_15, f_110_16, p_110_16, f_110_17, f_110_18, p_110_18, f_110_19, p_110_19, f_110_20, f_110_21, p_110_21, f_110_22, p_110_22, f_110_23, f_110_24, f_110_25, p_110_25, f_110_26, f_110_27, f_110_28, f_110_29, f_110_30, f_110_31, p_110_31, f_110_32, p_110_32, f_110_33, p_110_33, f_110_34, p_110_34, f_110_35, f_110_36, f_110_37, f_110_38, Option.some.injEq, exists_eq_left', exists_eq_left, Option.toList_some, Option.toList_none, List.cons_append, List.nil_append, true_and, and_true, Option.map_some, Option.map_none, x_ev_iff q1, r_isClosed (d := d) (by omega) hT1 hW, hc', b01, Bool.false_eq_true, if_false, not_true_eq_false]
    rfl
end STANDS3
section STANDS4
variable {P : Nat → List Value → Option Value} {W : Wd}
set_option maxHeartbeats 4000000 in
theorem k_stands (h : wOk W) (x : Int32) : ask2 P 140 286 [.int x] W := by
  obtain ⟨hK, hl60, hr, hrest⟩ := h; have hW := hK.1; have hO := aOk_run hK _ _ _ (aOk_begin hK) hr; have hAw := hO.1; have w1 := hW.1; have w2 := hW.2.1; have h9 : 9 ∈ g_SP := by decide
  rcases set_cs hW x with h0 | ⟨n, hnb, rfl, h1, hli⟩
  · refine ⟨-2, cAsk0 ?_, rAsk0 ?_⟩
    · intro d xs s hd hC; obtain ⟨⟨hT, hA, hn, hacts⟩, -⟩ := hC
      obtain ⟨d, rfl⟩ := x_1 (d := d) (by omega)
      rw [x_ev_in rfl (Nat.le_of_ble_eq_true rfl)]
      rw [show x_ent (x_nL g_M 140) [.ref 1, .int x] = [some (.ref 1), some (.int x)] from rfl]
      simp only [w_Top_stands_0, w_Top_stands_4, w_Top_stands_8, w_Top_stands_11, w_Top_stands_15, w_Top_stands_19, w_Top_stands_22, w_Top_stands_24, c_1, f_1_0, f_1_1, p_1_1, f_1_2, f_1_3, f_1_4, f_1_5, f_1_6, p_1_6, f_1_7, f_1_8, f_1_9, f_1_10, f_1_11, f_1_12, f_1_13, f_1_14, c_3, f_3_0, p_3_0, f_3_1, p_3_1, f_3_2, p_3_2, f_3_3, p_3_3, f_3_4, p_3_4, f_3_5, p_3_5, f_3_6, p_3_6, f_3_7, p_3_7, f_3_8, p_3_8, f_3_9, f_3_10, f_3_11, f_3_12, f_3_13, Option.some.injEq, exists_eq_left', exists_eq_left, Option.toList_some, Option.toList_none, List.cons_append, List.nil_append, true_and, and_true, Option.map_some, Option.map_none, t_isTold (d := d) (by omega) hT, t_hasPerson (d := d) (by omega) hT, t_hasMatter (d := d) (by omega) hT, t_hasSet (d := d) (by omega) hT hW, t_bitOf (d := d) (by omega), t_isClosed (d := d) (by omega) hT hW, t_sumOfAll (d := d) (by omega) hT hW, s_openOnes (d := d) (by omega) h9 hT hW hA, s_wishers (d := d) (by omega) h9 hT hW hA hAw, s_allCups (d := d) (by omega) h9 hT hW hA, h0, if_true]
    · intro d xs s hd hC; obtain ⟨hR, -⟩ := hC; have hT := hR.1
      obtain ⟨d, rfl⟩ := x_1 (d := d) (by omega)
      rw [x_ev_in rfl (Nat.le_of_ble_eq_true rfl)]
      rw [show x_ent (x_nL g_M 286) [.ref 110, .int x] = [some (.ref 110), some (.int x)] from rfl]
      simp only [w_Ref_stands_0, w_Ref_stands_5, w_Ref_stands_8, w_Ref_stands_14, w_Ref_stands_17, w_Ref_stands_19, c_110, f_110_0, p_110_0, f_110_1, f_110_2, f_110_3, f_110_4, f_110_5, p_110_5, f_110_6, f_110_7, p_110_7, f_110_8, p_110_8, f_110_9, p_110_9, f_110_10, p_110_10, f_110_11, p_110_11, f_110_12, p_110_12, f_110_13, p_110_13, f_110_14, f_110_15, f_110_16, p_110_16, f_110_17, f_110_18, p_110_18, f_110_19, p_110_19, f_110_20, f_110_21, p_110_21, f_110_22, p_110_22, f_110_23, f_110_24, f_110_25, p_110_25, f_110_26, f_110_27, f_110_28, f_110_29, f_110_30, f_110_31, p_110_31, f_110_32, p_110_32, f_110_33, p_110_33, f_110_34, p_110_34, f_110_35, f_110_36, f_110_37, f_110_38, Option.some.injEq, exists_eq_left', exists_eq_left, Option.toList_some, Option.toList_none, List.cons_append, List.nil_append, true_and, and_true, Option.map_some, Option.map_none, r_isTown (d := d) (by omega) hT, r_isPerson (d := d) (by omega) hT hW, r_isMatterI (d := d) (by omega) hT hW, r_isSet (d := d) (by omega) hT hW, r_allMatters (d := d) (by omega) hT hW, r_isClosed (d := d) (by omega) hT hW, r_sumOfAll (d := d) (by omega) hT hW, r_restsOf (d := d) (by omega) hT hW, r_in (d := d) (by omega), r_bit (d := d) (by omega), r_bits (d := d) (by omega), h0, if_true]
  · refine ⟨nI (wyN (wT W) (wA W) n 0), cAsk ?_, rAsk ?_⟩
    · intro d xs s hd hC; obtain ⟨⟨hT, hA, hn, hacts⟩, -⟩ := hC
      obtain ⟨d, rfl⟩ := x_1 (d := d) (by omega)
      obtain ⟨s', q1, q2, -, -⟩ := s_ordersOf (P := P) (d := d) (xs := xs) (by omega) hW hT hA hnb
      refine ⟨s', ?_, q2.ke⟩
      rw [x_ev_in rfl (Nat.le_of_ble_eq_true rfl)]
      rw [show x_ent (x_nL g_M 140) [.ref 1, .int (nI n)] = [some (.ref 1), some (.int (nI n))] from rfl]
      simp only [w_Top_stands_0, w_Top_stands_4, w_Top_stands_8, w_Top_stands_11, w_Top_stands_15, w_Top_stands_19, w_Top_stands_22, w_Top_stands_24, c_1, f_1_0, f_1_1, p_1_1, f_1_2, f_1_3, f_1_4, f_1_5, f_1_6, p_1_6, f_1_7, f_1_8, f_1_9, f_1_10, f_1_11, f_1_12, f_1_13, f_1_14, c_3, f_3_0, p_3_0, f_3_1, p_3_1, f_3_2, p_3_2, f_3_3, p_3_3, f_3_4, p_3_4, f_3_5, p_3_5, f_3_6, p_3_6, f_3_7, p_3_7, f_3_8, p_3_8, f_3_9, f_3_10, f_3_11, f_3_12, f_3_13, c_25, f_25_0, f_25_1, f_25_2, f_25_3, f_25_4, f_25_5, f_25_6, f_25_7, p_25_7, Option.some.injEq, exists_eq_left', exists_eq_left, Option.toList_some, Option.toList_none, List.cons_append, List.nil_append, true_and, and_true, Option.map_some, Option.map_none, t_isTold (d := d) (by omega) hT, t_hasPerson (d := d) (by omega) hT, t_hasMatter (d := d) (by omega) hT, t_hasSet (d := d) (by omega) hT hW, t_bitOf (d := d) (by omega), t_isClosed (d := d) (by omega) hT hW, t_sumOfAll (d := d) (by omega) hT hW, s_openOnes (d := d) (by omega) h9 hT hW hA, s_wishers (d := d) (by omega) h9 hT hW hA hAw, s_allCups (d := d) (by omega) h9 hT hW hA, h1, show ¬ ((1 : Int32) = 0) by decide, if_false, x_ev_iff q1]
    · intro d xs s hd hC; obtain ⟨hR, -⟩ := hC; have hT := hR.1
      obtain ⟨d, rfl⟩ := x_1 (d := d) (by omega)
      obtain ⟨z, q1, q2⟩ := r_standsBy (P := P) (d := d) (xs := xs) (by omega) hR hK hr hO hnb 0
      rcases q2 with ⟨h, -⟩ | ⟨-, q2⟩
      · exact absurd rfl h
      · refine ⟨z, ?_, q1⟩
        rw [x_ev_in rfl (Nat.le_of_ble_eq_true rfl)]
        rw [show x_ent (x_nL g_M 286) [.ref 110, .int (nI n)] = [some (.ref 110), some (.int (nI n))] from rfl]
        simp only [w_Ref_stands_0, w_Ref_stands_5, w_Ref_stands_8, w_Ref_stands_14, w_Ref_stands_17, w_Ref_stands_19, c_110, f_110_0, p_110_0, f_110_1, f_110_2, f_110_3, f_110_4, f_110_5, p_110_5, f_110_6, f_110_7, p_110_7, f_110_8, p_110_8, f_110_9, p_110_9, f_110_10, p_110_10, f_110_11, p_110_11, f_110_12, p_110_12, f_110_13, p_110_13, f_110_14, f_110_15, f_110_16, p_110_16, f_110_17, f_110_18, p_110_18, f_110_19, p_110_19, f_110_20, f_110_21, p_110_21, f_110_22, p_110_22, f_110_23, f_110_24, f_110_25, p_110_25, f_110_26, f_110_27, f_110_28, f_110_29, f_110_30, f_110_31, p_110_31, f_110_32, p_110_32, f_110_33, p_110_33, f_110_34, p_110_34, f_110_35, f_110_36, f_110_37, f_110_38, Option.some.injEq, exists_eq_left', exists_eq_left, Option.toList_some, Option.toList_none, List.cons_append, List.nil_append, true_and, and_true, Option.map_some, Option.map_none, r_isTown (d := d) (by omega) hT, r_isPerson (d := d) (by omega) hT hW, r_isMatterI (d := d) (by omega) hT hW, r_isSet (d := d) (by omega) hT hW, r_allMatters (d := d) (by omega) hT hW, r_isClosed (d := d) (by omega) hT hW, r_sumOfAll (d := d) (by omega) hT hW, r_restsOf (d := d) (by omega) hT hW, r_in (d := d) (by omega), r_bit (d := d) (by omega), r_bits (d := d) (by omega), h1, show ¬ ((1 : Int32) = 0) by decide, if_false, x_ev_iff q2]
set_option maxHeartbeats 4000000 in
theorem k_stood (h : wOk W) (x y : Int32) : ask2 P 141 287 [.int x, .int y] W := by
  obtain ⟨hK, hl60, hr, hrest⟩ := h; have hW := hK.1; have hO := aOk_run hK _ _ _ (aOk_begin hK) hr; have hAw := hO.1; have w1 := hW.1; have w2 := hW.2.1; have h9 : 9 ∈ g_SP := by decide
  have e0 : y.toInt64 < 0 ↔ y < 0 := w_lt y 0
  rcases set_cs hW x with h0 | ⟨n, hnb, rfl, h1, hli⟩
  · refine ⟨-2, cAsk0 ?_, rAsk0 ?_⟩
    · intro d xs s hd hC; obtain ⟨⟨hT, hA, hn, hacts⟩, -⟩ := hC
      obtain ⟨d, rfl⟩ := x_1 (d := d) (by omega)
      rw [x_ev_in rfl (Nat.le_of_ble_eq_true rfl)]
      rw [show x_ent (x_nL g_M 141) [.ref 1, .int x, .int y] = [some (.ref 1), some (.int x), some (.int y)] from rfl]
      simp only [w_Top_stood_0, w_Top_stood_4, w_Top_stood_8, w_Top_stood_11, w_Top_stood_15, w_Top_stood_20, w_Top_stood_23, w_Top_stood_25, c_1, f_1_0, f_1_1, p_1_1, f_1_2, f_1_3, f_1_4, f_1_5, f_1_6, p_1_6, f_1_7, f_1_8, f_1_9, f_1_10, f_1_11, f_1_12, f_1_13, f_1_14, c_3, f_3_0, p_3_0, f_3_1, p_3_1, f_3_2, p_3_2, f_3_3, p_3_3, f_3_4, p_3_4, f_3_5, p_3_5, f_3_6, p_3_6, f_3_7, p_3_7, f_3_8, p_3_8, f_3_9, f_3_10, f_3_11, f_3_12, f_3_13, Option.some.injEq, exists_eq_left', exists_eq_left, Option.toList_some, Option.toList_none, List.cons_append, List.nil_append, true_and, and_true, Option.map_some, Option.map_none, t_isTold (d := d) (by omega) hT, t_hasPerson (d := d) (by omega) hT, t_hasMatter (d := d) (by omega) hT, t_hasSet (d := d) (by omega) hT hW, t_bitOf (d := d) (by omega), t_isClosed (d := d) (by omega) hT hW, t_sumOfAll (d := d) (by omega) hT hW, s_openOnes (d := d) (by omega) h9 hT hW hA, s_wishers (d := d) (by omega) h9 hT hW hA hAw, s_allCups (d := d) (by omega) h9 hT hW hA, h0, if_true]
    · intro d xs s hd hC; obtain ⟨hR, -⟩ := hC; have hT := hR.1
      obtain ⟨d, rfl⟩ := x_1 (d := d) (by omega)
      rw [x_ev_in rfl (Nat.le_of_ble_eq_true rfl)]
      rw [show x_ent (x_nL g_M 287) [.ref 110, .int x, .int y] = [some (.ref 110), some (.int x), some (.int y)] from rfl]
      simp only [w_Ref_stood_0, w_Ref_stood_5, w_Ref_stood_8, w_Ref_stood_11, w_Ref_stood_17, w_Ref_stood_20, w_Ref_stood_27, w_Ref_stood_33, w_Ref_stood_36, w_Ref_stood_40, w_Ref_stood_44, w_Ref_stood_46, c_110, f_110_0, p_110_0, f_110_1, f_110_2, f_110_3, f_110_4, f_110_5, p_110_5, f_110_6, f_110_7, p_110_7, f_110_8, p_110_8, f_110_9, p_110_9, f_110_10, p_110_10, f_110_11, p_110_11, f_110_12, p_110_12, f_110_13, p_110_13, f_110_14, f_110_15, f_110_16, p_110_16, f_110_17, f_110_18, p_110_18, f_110_19, p_110_19, f_110_20, f_110_21, p_110_21, f_110_22, p_110_22, f_110_23, f_110_24, f_110_25, p_110_25, f_110_26, f_110_27, f_110_28, f_110_29, f_110_30, f_110_31, p_110_31, f_110_32, p_110_32, f_110_33, p_110_33, f_110_34, p_110_34, f_110_35, f_110_36, f_110_37, f_110_38, Option.some.injEq, exists_eq_left', exists_eq_left, Option.toList_some, Option.toList_none, List.cons_append, List.nil_append, true_and, and_true, Option.map_some, Option.map_none, r_isTown (d := d) (by omega) hT, r_isPerson (d := d) (by omega) hT hW, r_isMatterI (d := d) (by omega) hT hW, r_isSet (d := d) (by omega) hT hW, r_allMatters (d := d) (by omega) hT hW, r_isClosed (d := d) (by omega) hT hW, r_sumOfAll (d := d) (by omega) hT hW, r_restsOf (d := d) (by omega) hT hW, r_in (d := d) (by omega), r_bit (d := d) (by omega), r_bits (d := d) (by omega), h0, not_true_eq_false, if_false]
  · have hbc := bc_lst hW hnb
    have hbs : sm (fun k => if bt (nI n) k = true then 1 else 0) 8 = nI (lst (tM (wT W)) (nI n)).length := (bcE_sm n (n256 hW hnb)).symm.trans hbc
    have hl8 := lst_len (tM (wT W)) (nI n)
    by_cases hy : y < 0
    · refine ⟨-1, cAsk0 ?_, rAsk ?_⟩
      · intro d xs s hd hC; obtain ⟨⟨hT, hA, hn, hacts⟩, -⟩ := hC
        obtain ⟨d, rfl⟩ := x_1 (d := d) (by omega)
        have q1 : x_ev g_M P d 40 [.ref 25, .int (nI n), .int y] (mkH xs s) (some (.int (-1)), mkH xs s) := by
          obtain ⟨d, rfl⟩ := x_1 (d := d) (by omega)
          rw [x_ev_in rfl (Nat.le_of_ble_eq_true rfl)]
          rw [show x_ent (x_nL g_M 40) [.ref 25, .int (nI n), .int y] = [some (.ref 25), some (.int (nI n)), some (.int y), none, none, none] from rfl]
          simp only [w_Sets_inFirstOrder_0, w_Sets_inFirstOrder_20, hy, if_true]
        rw [x_ev_in rfl (Nat.le_of_ble_eq_true rfl)]
        rw [show x_ent (x_nL g_M 141) [.ref 1, .int (nI n), .int y] = [some (.ref 1), some (.int (nI n)), some (.int y)] from rfl]
        simp only [w_Top_stood_0, w_Top_stood_4, w_Top_stood_8, w_Top_stood_11, w_Top_stood_15, w_Top_stood_20, w_Top_stood_23, w_Top_stood_25, c_1, f_1_0, f_1_1, p_1_1, f_1_2, f_1_3, f_1_4, f_1_5, f_1_6, p_1_6, f_1_7, f_1_8, f_1_9, f_1_10, f_1_11, f_1_12, f_1_13, f_1_14, c_3, f_3_0, p_3_0, f_3_1, p_3_1, f_3_2, p_3_2, f_3_3, p_3_3, f_3_4, p_3_4, f_3_5, p_3_5, f_3_6, p_3_6, f_3_7, p_3_7, f_3_8, p_3_8, f_3_9, f_3_10, f_3_11, f_3_12, f_3_13, c_25, f_25_0, f_25_1, f_25_2, f_25_3, f_25_4, f_25_5, f_25_6, f_25_7, p_25_7, Option.some.injEq, exists_eq_left', exists_eq_left, Option.toList_some, Option.toList_none, List.cons_append, List.nil_append, true_and, and_true, Option.map_some, Option.map_none, t_isTold (d := d) (by omega) hT, t_hasPerson (d := d) (by omega) hT, t_hasMatter (d := d) (by omega) hT, t_hasSet (d := d) (by omega) hT hW, t_bitOf (d := d) (by omega), t_isClosed (d := d) (by omega) hT hW, t_sumOfAll (d := d) (by omega) hT hW, s_openOnes (d := d) (by omega) h9 hT hW hA, s_wishers (d := d) (by omega) h9 hT hW hA hAw, s_allCups (d := d) (by omega) h9 hT hW hA, h1, show ¬ ((1 : Int32) = 0) by decide, if_false, x_ev_iff q1]
      · intro d xs s hd hC; obtain ⟨hR, -⟩ := hC; have hT := hR.1
        obtain ⟨d, rfl⟩ := x_1 (d := d) (by omega)
        obtain ⟨z, q1, q2⟩ := r_standsBy (P := P) (d := d) (xs := xs) (by omega) hR hK hr hO hnb 1
        refine ⟨z, ?_, q1⟩
        rcases q2 with ⟨-, τ, g1, g2, g3⟩ | ⟨g1, g2⟩
        · rw [x_ev_in rfl (Nat.le_of_ble_eq_true rfl)]
          rw [show x_ent (x_nL g_M 287) [.ref 110, .int (nI n), .int y] = [some (.ref 110), some (.int (nI n)), some (.int y)] from rfl]
          simp only [w_Ref_stood_0, w_Ref_stood_5, w_Ref_stood_8, w_Ref_stood_11, w_Ref_stood_17, w_Ref_stood_20, w_Ref_stood_27, w_Ref_stood_33, w_Ref_stood_36, w_Ref_stood_40, w_Ref_stood_44, w_Ref_stood_46, c_110, f_110_0, p_110_0, f_110_1, f_110_2, f_110_3, f_110_4, f_110_5, p_110_5, f_110_6, f_110_7, p_110_7, f_110_8, p_110_8, f_110_9, p_110_9, f_110_10, p_110_10, f_110_11, p_110_11, f_110_12, p_110_12, f_110_13, p_110_13, f_110_14, f_110_15, f_110_16, p_110_16, f_110_17, f_110_18, p_110_18, f_110_19, p_110_19, f_110_20, f_110_21, p_110_21, f_110_22, p_110_22, f_110_23, f_110_24, f_110_25, p_110_25, f_110_26, f_110_27, f_110_28, f_110_29, f_110_30, f_110_31, p_110_31, f_110_32, p_110_32, f_110_33, p_110_33, f_110_34, p_110_34, f_110_35, f_110_36, f_110_37, f_110_38, Option.some.injEq, exists_eq_left', exists_eq_left, Option.toList_some, Option.toList_none, List.cons_append, List.nil_append, true_and, and_true, Option.map_some, Option.map_none, r_isTown (d := d) (by omega) hT, r_isPerson (d := d) (by omega) hT hW, r_isMatterI (d := d) (by omega) hT hW, r_isSet (d := d) (by omega) hT hW, r_allMatters (d := d) (by omega) hT hW, r_isClosed (d := d) (by omega) hT hW, r_sumOfAll (d := d) (by omega) hT hW, r_restsOf (d := d) (by omega) hT hW, r_in (d := d) (by omega), r_bit (d := d) (by omega), r_bits (d := d) (by omega), h1, show ¬ ((1 : Int32) = 0) by decide, if_false, not_false_eq_true, if_true, x_ev_iff g2, e0, hy, not_true_eq_false]
        · rw [g1 (by decide)] at g2
          rw [x_ev_in rfl (Nat.le_of_ble_eq_true rfl)]
          rw [show x_ent (x_nL g_M 287) [.ref 110, .int (nI n), .int y] = [some (.ref 110), some (.int (nI n)), some (.int y)] from rfl]
          simp only [w_Ref_stood_0, w_Ref_stood_5, w_Ref_stood_8, w_Ref_stood_11, w_Ref_stood_17, w_Ref_stood_20, w_Ref_stood_27, w_Ref_stood_33, w_Ref_stood_36, w_Ref_stood_40, w_Ref_stood_44, w_Ref_stood_46, c_110, f_110_0, p_110_0, f_110_1, f_110_2, f_110_3, f_110_4, f_110_5, p_110_5, f_110_6, f_110_7, p_110_7, f_110_8, p_110_8, f_110_9, p_110_9, f_110_10, p_110_10, f_110_11, p_110_11, f_110_12, p_110_12, f_110_13, p_110_13, f_110_14, f_110_15, f_110_16, p_110_16, f_110_17, f_110_18, p_110_18, f_110_19, p_110_19, f_110_20, f_110_21, p_110_21, f_110_22, p_110_22, f_110_23, f_110_24, f_110_25, p_110_25, f_110_26, f_110_27, f_110_28, f_110_29, f_110_30, f_110_31, p_110_31, f_110_32, p_110_32, f_110_33, p_110_33, f_110_34, p_110_34, f_110_35, f_110_36, f_110_37, f_110_38, Option.some.injEq, exists_eq_left', exists_eq_left, Option.toList_some, Option.toList_none, List.cons_append, List.nil_append, true_and, and_true, Option.map_some, Option.map_none, r_isTown (d := d) (by omega) hT, r_isPerson (d := d) (by omega) hT hW, r_isMatterI (d := d) (by omega) hT hW, r_isSet (d := d) (by omega) hT hW, r_allMatters (d := d) (by omega) hT hW, r_isClosed (d := d) (by omega) hT hW, r_sumOfAll (d := d) (by omega) hT hW, r_restsOf (d := d) (by omega) hT hW, r_in (d := d) (by omega), r_bit (d := d) (by omega), r_bits (d := d) (by omega), h1, show ¬ ((1 : Int32) = 0) by decide, if_false, not_false_eq_true, if_true, x_ev_iff g2, show (nI 0 = 0) ↔ True by decide]
    · obtain ⟨i, hi31, rfl⟩ := nI_of hy
      refine ⟨stdV (wT W) (wA W) n i, cAsk ?_, rAsk ?_⟩
      · intro d xs s hd hC; obtain ⟨⟨hT, hA, hn, hacts⟩, -⟩ := hC
        obtain ⟨d, rfl⟩ := x_1 (d := d) (by omega)
        obtain ⟨s', q1, q2⟩ := s_inFirst (P := P) (d := d) (xs := xs) (by omega) hW hT hA hnb hi31 hbc
        refine ⟨s', ?_, q2⟩
        rw [x_ev_in rfl (Nat.le_of_ble_eq_true rfl)]
        rw [show x_ent (x_nL g_M 141) [.ref 1, .int (nI n), .int (nI i)] = [some (.ref 1), some (.int (nI n)), some (.int (nI i))] from rfl]
        simp only [w_Top_stood_0, w_Top_stood_4, w_Top_stood_8, w_Top_stood_11, w_Top_stood_15, w_Top_stood_20, w_Top_stood_23, w_Top_stood_25, c_1, f_1_0, f_1_1, p_1_1, f_1_2, f_1_3, f_1_4, f_1_5, f_1_6, p_1_6, f_1_7, f_1_8, f_1_9, f_1_10, f_1_11, f_1_12, f_1_13, f_1_14, c_3, f_3_0, p_3_0, f_3_1, p_3_1, f_3_2, p_3_2, f_3_3, p_3_3, f_3_4, p_3_4, f_3_5, p_3_5, f_3_6, p_3_6, f_3_7, p_3_7, f_3_8, p_3_8, f_3_9, f_3_10, f_3_11, f_3_12, f_3_13, c_25, f_25_0, f_25_1, f_25_2, f_25_3, f_25_4, f_25_5, f_25_6, f_25_7, p_25_7, Option.some.injEq, exists_eq_left', exists_eq_left, Option.toList_some, Option.toList_none, List.cons_append, List.nil_append, true_and, and_true, Option.map_some, Option.map_none, t_isTold (d := d) (by omega) hT, t_hasPerson (d := d) (by omega) hT, t_hasMatter (d := d) (by omega) hT, t_hasSet (d := d) (by omega) hT hW, t_bitOf (d := d) (by omega), t_isClosed (d := d) (by omega) hT hW, t_sumOfAll (d := d) (by omega) hT hW, s_openOnes (d := d) (by omega) h9 hT hW hA, s_wishers (d := d) (by omega) h9 hT hW hA hAw, s_allCups (d := d) (by omega) h9 hT hW hA, h1, show ¬ ((1 : Int32) = 0) by decide, if_false, x_ev_iff q1]
      · intro d xs s hd hC; obtain ⟨hR, -⟩ := hC; have hT := hR.1
        obtain ⟨d, rfl⟩ := x_1 (d := d) (by omega)
        obtain ⟨z, q1, q2⟩ := r_standsBy (P := P) (d := d) (xs := xs) (by omega) hR hK hr hO hnb 1
        refine ⟨z, ?_, q1⟩
        rcases q2 with ⟨-, τ, g1, g2, g3⟩ | ⟨g1, g2⟩
        · have hτ : τ.length = (lst (tM (wT W)) (nI n)).length := by
            have hm := hdX_mem (show hdX (wT W) (wA W) (nI n) (lst (tM (wT W)) (rstN n 0)).length (nI 0) (rstN n 0) = some τ from g1)
            have := (pm_mem w2 _ _ _ rfl hm).1
            rw [this, rst_0 n (n256 hW hnb)]
          by_cases hib : i < (lst (tM (wT W)) (nI n)).length
          · rw [stdV_s g1 hib]
            have hx : x_rd (z.1 121) 8 (nI i) = some (nI (lo τ i)) := by rw [x_rd_nI (by omega) (by omega), g3 i (by omega)]
            have hc : ¬ nI (lst (tM (wT W)) (nI n)).length ≤ nI i := nI_ge hib (by omega)
            rw [x_ev_in rfl (Nat.le_of_ble_eq_true rfl)]
            rw [show x_ent (x_nL g_M 287) [.ref 110, .int (nI n), .int (nI i)] = [some (.ref 110), some (.int (nI n)), some (.int (nI i))] from rfl]
            simp only [w_Ref_stood_0, w_Ref_stood_5, w_Ref_stood_8, w_Ref_stood_11, w_Ref_stood_17, w_Ref_stood_20, w_Ref_stood_27, w_Ref_stood_33, w_Ref_stood_36, w_Ref_stood_40, w_Ref_stood_44, w_Ref_stood_46, c_110, f_110_0, p_110_0, f_110_1, f_110_2, f_110_3, f_110_4, f_110_5, p_110_5, f_110_6, f_110_7, p_110_7, f_110_8, p_110_8, f_110_9, p_110_9, f_110_10, p_110_10, f_110_11, p_110_11, f_110_12, p_110_12, f_110_13, p_110_13, f_110_14, f_110_15, f_110_16, p_110_16, f_110_17, f_110_18, p_110_18, f_110_19, p_110_19, f_110_20, f_110_21, p_110_21, f_110_22, p_110_22, f_110_23, f_110_24, f_110_25, p_110_25, f_110_26, f_110_27, f_110_28, f_110_29, f_110_30, f_110_31, p_110_31, f_110_32, p_110_32, f_110_33, p_110_33, f_110_34, p_110_34, f_110_35, f_110_36, f_110_37, f_110_38, e_121, i_121, Option.some.injEq, exists_eq_left', exists_eq_left, Option.toList_some, Option.toList_none, List.cons_append, List.nil_append, true_and, and_true, Option.map_some, Option.map_none, r_isTown (d := d) (by omega) hT, r_isPerson (d := d) (by omega) hT hW, r_isMatterI (d := d) (by omega) hT hW, r_isSet (d := d) (by omega) hT hW, r_allMatters (d := d) (by omega) hT hW, r_isClosed (d := d) (by omega) hT hW, r_sumOfAll (d := d) (by omega) hT hW, r_restsOf (d := d) (by omega) hT hW, r_in (d := d) (by omega), r_bit (d := d) (by omega), r_bits (d := d) (by omega), h1, show ¬ ((1 : Int32) = 0) by decide, if_false, not_false_eq_true, if_true, x_ev_iff g2, e0, hy, w_lt, hbs, nI_pr (show (lst (tM (wT W)) (nI n)).length < 2 ^ 30 by omega), hc, hx]
          · rw [stdV_o hib]
            have hc : nI (lst (tM (wT W)) (nI n)).length ≤ nI i := nI_le (by omega) hi31
            rw [x_ev_in rfl (Nat.le_of_ble_eq_true rfl)]
            rw [show x_ent (x_nL g_M 287) [.ref 110, .int (nI n), .int (nI i)] = [some (.ref 110), some (.int (nI n)), some (.int (nI i))] from rfl]
            simp only [w_Ref_stood_0, w_Ref_stood_5, w_Ref_stood_8, w_Ref_stood_11, w_Ref_stood_17, w_Ref_stood_20, w_Ref_stood_27, w_Ref_stood_33, w_Ref_stood_36, w_Ref_stood_40, w_Ref_stood_44, w_Ref_stood_46, c_110, f_110_0, p_110_0, f_110_1, f_110_2, f_110_3, f_110_4, f_110_5, p_110_5, f_110_6, f_110_7, p_110_7, f_110_8, p_110_8, f_110_9, p_110_9, f_110_10, p_110_10, f_110_11, p_110_11, f_110_12, p_110_12, f_110_13, p_110_13, f_110_14, f_110_15, f_110_16, p_110_16, f_110_17, f_110_18, p_110_18, f_110_19, p_110_19, f_110_20, f_110_21, p_110_21, f_110_22, p_110_22, f_110_23, f_110_24, f_110_25, p_110_25, f_110_26, f_110_27, f_110_28, f_110_29, f_110_30, f_110_31, p_110_31, f_110_32, p_110_32, f_110_33, p_110_33, f_110_34, p_110_34, f_110_35, f_110_36, f_110_37, f_110_38, e_121, i_121, Option.some.injEq, exists_eq_left', exists_eq_left, Option.toList_some, Option.toList_none, List.cons_append, List.nil_append, true_and, and_true, Option.map_some, Option.map_none, r_isTown (d := d) (by omega) hT, r_isPerson (d := d) (by omega) hT hW, r_isMatterI (d := d) (by omega) hT hW, r_isSet (d := d) (by omega) hT hW, r_allMatters (d := d) (by omega) hT hW, r_isClosed (d := d) (by omega) hT hW, r_sumOfAll (d := d) (by omega) hT hW, r_restsOf (d := d) (by omega) hT hW, r_in (d := d) (by omega), r_bit (d := d) (by omega), r_bits (d := d) (by omega), h1, show ¬ ((1 : Int32) = 0) by decide, if_false, not_false_eq_true, if_true, x_ev_iff g2, e0, hy, w_lt, hbs, nI_pr (show (lst (tM (wT W)) (nI n)).length < 2 ^ 30 by omega), hc, not_true_eq_false]
        · have h00 := g1 (by decide)
          have hno : hdN (wT W) (wA W) n 0 = none := by
            have hw0 : (hdN (wT W) (wA W) n 0).isSome = true ↔ 0 < wyN (wT W) (wA W) n 0 := hdX_wy _ _ _ _ _ _
            rw [h00] at hw0
            cases hh : hdN (wT W) (wA W) n 0 with
            | none => rfl
            | some σ => rw [hh] at hw0; exact absurd (hw0.mp rfl) (by omega)
          rw [h00] at g2
          rw [stdV_n hno]
          rw [x_ev_in rfl (Nat.le_of_ble_eq_true rfl)]
          rw [show x_ent (x_nL g_M 287) [.ref 110, .int (nI n), .int (nI i)] = [some (.ref 110), some (.int (nI n)), some (.int (nI i))] from rfl]
          simp only [w_Ref_stood_0, w_Ref_stood_5, w_Ref_stood_8, w_Ref_stood_11, w_Ref_stood_17, w_Ref_stood_20, w_Ref_stood_27, w_Ref_stood_33, w_Ref_stood_36, w_Ref_stood_40, w_Ref_stood_44, w_Ref_stood_46, c_110, f_110_0, p_110_0, f_110_1, f_110_2, f_110_3, f_110_4, f_110_5, p_110_5, f_110_6, f_110_7, p_110_7, f_110_8, p_110_8, f_110_9, p_110_9, f_110_10, p_110_10, f_110_11, p_110_11, f_110_12, p_110_12, f_110_13, p_110_13, f_110_14, f_110_15, f_110_16, p_110_16, f_110_17, f_110_18, p_110_18, f_110_19, p_110_19, f_110_20, f_110_21, p_110_21, f_110_22, p_110_22, f_110_23, f_110_24, f_110_25, p_110_25, f_110_26, f_110_27, f_110_28, f_110_29, f_110_30, f_110_31, p_110_31, f_110_32, p_110_32, f_110_33, p_110_33, f_110_34, p_110_34, f_110_35, f_110_36, f_110_37, f_110_38, Option.some.injEq, exists_eq_left', exists_eq_left, Option.toList_some, Option.toList_none, List.cons_append, List.nil_append, true_and, and_true, Option.map_some, Option.map_none, r_isTown (d := d) (by omega) hT, r_isPerson (d := d) (by omega) hT hW, r_isMatterI (d := d) (by omega) hT hW, r_isSet (d := d) (by omega) hT hW, r_allMatters (d := d) (by omega) hT hW, r_isClosed (d := d) (by omega) hT hW, r_sumOfAll (d := d) (by omega) hT hW, r_restsOf (d := d) (by omega) hT hW, r_in (d := d) (by omega), r_bit (d := d) (by omega), r_bits (d := d) (by omega), h1, show ¬ ((1 : Int32) = 0) by decide, if_false, not_false_eq_true, if_true, x_ev_iff g2, show (nI 0 = 0) ↔ True by decide]
set_option maxHeartbeats 4000000 in
theorem k_best (h : wOk W) : ask2 P 142 288 [] W := by
  obtain ⟨hK, hl60, hr, hrest⟩ := h; have hW := hK.1; have hO := aOk_run hK _ _ _ (aOk_begin hK) hr; have hAw := hO.1; have w1 := hW.1; have w2 := hW.2.1; have h9 : 9 ∈ g_SP := by decide
  by_cases hli : tLi (wT W) ≤ 0
  · refine ⟨-2, cAsk0 ?_, rAsk0 ?_⟩
    · intro d xs s hd hC; obtain ⟨⟨hT, hA, hn, hacts⟩, -⟩ := hC
      obtain ⟨d, rfl⟩ := x_1 (d := d) (by omega)
      rw [x_ev_in rfl (Nat.le_of_ble_eq_true rfl)]
      rw [show x_ent (x_nL g_M 142) [.ref 1] = [some (.ref 1)] from rfl]
      simp only [w_Top_best_0, w_Top_best_4, w_Top_best_7, w_Top_best_10, w_Top_best_14, w_Top_best_17, w_Top_best_20, w_Top_best_22, c_1, f_1_0, f_1_1, p_1_1, f_1_2, f_1_3, f_1_4, f_1_5, f_1_6, p_1_6, f_1_7, f_1_8, f_1_9, f_1_10, f_1_11, f_1_12, f_1_13, f_1_14, c_3, f_3_0, p_3_0, f_3_1, p_3_1, f_3_2, p_3_2, f_3_3, p_3_3, f_3_4, p_3_4, f_3_5, p_3_5, f_3_6, p_3_6, f_3_7, p_3_7, f_3_8, p_3_8, f_3_9, f_3_10, f_3_11, f_3_12, f_3_13, Option.some.injEq, exists_eq_left', exists_eq_left, Option.toList_some, Option.toList_none, List.cons_append, List.nil_append, true_and, and_true, Option.map_some, Option.map_none, t_isTold (d := d) (by omega) hT, t_hasPerson (d := d) (by omega) hT, t_hasMatter (d := d) (by omega) hT, t_hasSet (d := d) (by omega) hT hW, t_bitOf (d := d) (by omega), t_isClosed (d := d) (by omega) hT hW, t_sumOfAll (d := d) (by omega) hT hW, s_openOnes (d := d) (by omega) h9 hT hW hA, s_wishers (d := d) (by omega) h9 hT hW hA hAw, s_allCups (d := d) (by omega) h9 hT hW hA, hli, if_true]
    · intro d xs s hd hC; obtain ⟨hR, -⟩ := hC; have hT := hR.1
      obtain ⟨d, rfl⟩ := x_1 (d := d) (by omega)
      rw [x_ev_in rfl (Nat.le_of_ble_eq_true rfl)]
      rw [show x_ent (x_nL g_M 288) [.ref 110] = [some (.ref 110), none, none] from rfl]
      simp only [w_Ref_best_0, w_Ref_best_4, w_Ref_best_7, w_Ref_best_10, w_Ref_best_19, w_Ref_best_22, w_Ref_best_27, w_Ref_best_32, w_Ref_best_35, w_Ref_best_41, w_Ref_best_44, w_Ref_best_46, w_Ref_best_52, c_110, f_110_0, p_110_0, f_110_1, f_110_2, f_110_3, f_110_4, f_110_5, p_110_5, f_110_6, f_110_7, p_110_7, f_110_8, p_110_8, f_110_9, p_110_9, f_110_10, p_110_10, f_110_11, p_110_11, f_110_12, p_110_12, f_110_13, p_110_13, f_110_14, f_110_15, f_110_16, p_110_16, f_110_17, f_110_18, p_110_18, f_110_19, p_110_19, f_110_20, f_110_21, p_110_21, f_110_22, p_110_22, f_110_23, f_110_24, f_110_25, p_110_25, f_110_26, f_110_27, f_110_28, f_110_29, f_110_30, f_110_31, p_110_31, f_110_32, p_110_32, f_110_33, p_110_33, f_110_34, p_110_34, f_110_35, f_110_36, f_110_37, f_110_38, Option.some.injEq, exists_eq_left', exists_eq_left, Option.toList_some, Option.toList_none, List.cons_append, List.nil_append, true_and, and_true, Option.map_some, Option.map_none, r_isTown (d := d) (by omega) hT, r_isPerson (d := d) (by omega) hT hW, r_isMatterI (d := d) (by omega) hT hW, r_isSet (d := d) (by omega) hT hW, r_allMatters (d := d) (by omega) hT hW, r_isClosed (d := d) (by omega) hT hW, r_sumOfAll (d := d) (by omega) hT hW, r_restsOf (d := d) (by omega) hT hW, r_in (d := d) (by omega), r_bit (d := d) (by omega), r_bits (d := d) (by omega), hli, if_true, not_true_eq_false, if_false]
  · have hp := p2_le (tM (wT W)) (by omega)
    refine ⟨nI (bsN (wT W) (wA W) (2 ^ tM (wT W))), cAsk ?_, rAsk ?_⟩
    · intro d xs s hd hC; obtain ⟨⟨hT, hA, hn, hacts⟩, -⟩ := hC
      obtain ⟨d, rfl⟩ := x_1 (d := d) (by omega)
      obtain ⟨s', q1, q2⟩ := s_bestStanding (P := P) (d := d) (xs := xs) (by omega) hW hT hA
      refine ⟨s', ?_, q2⟩
      rw [x_ev_in rfl (Nat.le_of_ble_eq_true rfl)]
      rw [show x_ent (x_nL g_M 142) [.ref 1] = [some (.ref 1)] from rfl]
      simp only [w_Top_best_0, w_Top_best_4, w_Top_best_7, w_Top_best_10, w_Top_best_14, w_Top_best_17, w_Top_best_20, w_Top_best_22, c_1, f_1_0, f_1_1, p_1_1, f_1_2, f_1_3, f_1_4, f_1_5, f_1_6, p_1_6, f_1_7, f_1_8, f_1_9, f_1_10, f_1_11, f_1_12, f_1_13, f_1_14, c_3, f_3_0, p_3_0, f_3_1, p_3_1, f_3_2, p_3_2, f_3_3, p_3_3, f_3_4, p_3_4, f_3_5, p_3_5, f_3_6, p_3_6, f_3_7, p_3_7, f_3_8, p_3_8, f_3_9, f_3_10, f_3_11, f_3_12, f_3_13, c_25, f_25_0, f_25_1, f_25_2, f_25_3, f_25_4, f_25_5, f_25_6, f_25_7, p_25_7, Option.some.injEq, exists_eq_left', exists_eq_left, Option.toList_some, Option.toList_none, List.cons_append, List.nil_append, true_and, and_true, Option.map_some, Option.map_none, t_isTold (d := d) (by omega) hT, t_hasPerson (d := d) (by omega) hT, t_hasMatter (d := d) (by omega) hT, t_hasSet (d := d) (by omega) hT hW, t_bitOf (d := d) (by omega), t_isClosed (d := d) (by omega) hT hW, t_sumOfAll (d := d) (by omega) hT hW, s_openOnes (d := d) (by omega) h9 hT hW hA, s_wishers (d := d) (by omega) h9 hT hW hA hAw, s_allCups (d := d) (by omega) h9 hT hW hA, hli, show ¬ ((1 : Int32) = 0) by decide, if_false, x_ev_iff q1]
    · intro d xs s hd hC; obtain ⟨hR, -⟩ := hC; have hT := hR.1
      obtain ⟨d, rfl⟩ := x_1 (d := d) (by omega)
      obtain ⟨z, hz, e⟩ := x_upY (C := x_ev g_M P d) (k := 288) (N := 2 ^ tM (wT W)) (β := xS) (R := fun _ z => keR s z) (F := fun m z => (14, [some (.ref 110), some (.int (nI (bsN (wT W) (wA W) m))), some (.int (nI m))], [], mkH xs z)) (fun m z hm hz => by
        have hTz : refT z 111 0 (wT W) := refT_ke hz hT
        have hRz := refW_at (hz.1 111 (by omega) (by omega)) hR
        have hc : ¬ nI (2 ^ tM (wT W)) ≤ nI m := nI_ge hm (by omega)
        have hbw := wyN_b hW (wA W) m 0
        by_cases h1 : tAll (wT W) (nI (bsN (wT W) (wA W) m)) < tAll (wT W) (nI m)
        · have h1' : ¬ tAll (wT W) (nI m) ≤ tAll (wT W) (nI (bsN (wT W) (wA W) m)) := Int32.not_le.mpr h1
          obtain ⟨z1, a1, a2⟩ := r_standsBy (P := P) (d := d) (xs := xs) (by omega) hRz hK hr hO hm 1
          rcases a2 with ⟨-, τ, g1, g2, g3⟩ | ⟨g1, g2⟩
          · have hw0 : 0 < wyN (wT W) (wA W) m 0 := (hdX_wy _ _ _ _ _ _).mp (by
              show (hdN (wT W) (wA W) m 0).isSome = true
              rw [g1]; rfl)
            refine ⟨z1, hz.tr a1, fun r => ?_⟩
            rw [bsN, if_pos ⟨h1, hw0⟩]
            simp only [w_Ref_best_0, w_Ref_best_4, w_Ref_best_7, w_Ref_best_10, w_Ref_best_19, w_Ref_best_22, w_Ref_best_27, w_Ref_best_32, w_Ref_best_35, w_Ref_best_41, w_Ref_best_44, w_Ref_best_46, w_Ref_best_52, w_Ref_best_14 (l2 := nI m), c_110, f_110_0, p_110_0, f_110_1, f_110_2, f_110_3, f_110_4, f_110_5, p_110_5, f_110_6, f_110_7, p_110_7, f_110_8, p_110_8, f_110_9, p_110_9, f_110_10, p_110_10, f_110_11, p_110_11, f_110_12, p_110_12, f_110_13, p_110_13, f_110_14, f_110_15, f_110_16, p_110_16, f_110_17, f_110_18, p_110_18, f_110_19, p_110_19, f_110_20, f_110_21, p_110_21, f_110_22, p_110_22, f_110_23, f_110_24, f_110_25, p_110_25, f_110_26, f_110_27, f_110_28, f_110_29, f_110_30, f_110_31, p_110_31, f_110_32, p_110_32, f_110_33, p_110_33, f_110_34, p_110_34, f_110_35, f_110_36, f_110_37, f_110_38, Option.some.injEq, exists_eq_left', exists_eq_left, Option.toList_some, Option.toList_none, List.cons_append, List.nil_append, true_and, and_true, Option.map_some, Option.map_none, r_allMatters (d := d) (by omega) hTz hW, full_lt hW, hc, if_false, r_sumOfAll (d := d) (by omega) hTz hW, h1', x_ev_iff g2, show ¬ (1 : Int32) ≤ 0 by decide, nI_1]
          · rw [g1 (by decide)] at g2
            refine ⟨z1, hz.tr a1, fun r => ?_⟩
            rw [bsN, if_neg (by rw [g1 (by decide)]; omega)]
            simp only [w_Ref_best_0, w_Ref_best_4, w_Ref_best_7, w_Ref_best_10, w_Ref_best_19, w_Ref_best_22, w_Ref_best_27, w_Ref_best_32, w_Ref_best_35, w_Ref_best_41, w_Ref_best_44, w_Ref_best_46, w_Ref_best_52, w_Ref_best_14 (l2 := nI m), c_110, f_110_0, p_110_0, f_110_1, f_110_2, f_110_3, f_110_4, f_110_5, p_110_5, f_110_6, f_110_7, p_110_7, f_110_8, p_110_8, f_110_9, p_110_9, f_110_10, p_110_10, f_110_11, p_110_11, f_110_12, p_110_12, f_110_13, p_110_13, f_110_14, f_110_15, f_110_16, p_110_16, f_110_17, f_110_18, p_110_18, f_110_19, p_110_19, f_110_20, f_110_21, p_110_21, f_110_22, p_110_22, f_110_23, f_110_24, f_110_25, p_110_25, f_110_26, f_110_27, f_110_28, f_110_29, f_110_30, f_110_31, p_110_31, f_110_32, p_110_32, f_110_33, p_110_33, f_110_34, p_110_34, f_110_35, f_110_36, f_110_37, f_110_38, Option.some.injEq, exists_eq_left', exists_eq_left, Option.toList_some, Option.toList_none, List.cons_append, List.nil_append, true_and, and_true, Option.map_some, Option.map_none, r_allMatters (d := d) (by omega) hTz hW, full_lt hW, hc, if_false, r_sumOfAll (d := d) (by omega) hTz hW, h1', x_ev_iff g2, show nI 0 ≤ 0 by decide, if_true, nI_1]
        · have h1' : tAll (wT W) (nI m) ≤ tAll (wT W) (nI (bsN (wT W) (wA W) m)) := Int32.not_lt.mp h1
          refine ⟨z, hz, fun r => ?_⟩
          rw [bsN, if_neg (fun hh => h1 hh.1)]
          simp only [w_Ref_best_0, w_Ref_best_4, w_Ref_best_7, w_Ref_best_10, w_Ref_best_19, w_Ref_best_22, w_Ref_best_27, w_Ref_best_32, w_Ref_best_35, w_Ref_best_41, w_Ref_best_44, w_Ref_best_46, w_Ref_best_52, w_Ref_best_14 (l2 := nI m), c_110, f_110_0, p_110_0, f_110_1, f_110_2, f_110_3, f_110_4, f_110_5, p_110_5, f_110_6, f_110_7, p_110_7, f_110_8, p_110_8, f_110_9, p_110_9, f_110_10, p_110_10, f_110_11, p_110_11, f_110_12, p_110_12, f_110_13, p_110_13, f_110_14, f_110_15, f_110_16, p_110_16, f_110_17, f_110_18, p_110_18, f_110_19, p_110_19, f_110_20, f_110_21, p_110_21, f_110_22, p_110_22, f_110_23, f_110_24, f_110_25, p_110_25, f_110_26, f_110_27, f_110_28, f_110_29, f_110_30, f_110_31, p_110_31, f_110_32, p_110_32, f_110_33, p_110_33, f_110_34, p_110_34, f_110_35, f_110_36, f_110_37, f_110_38, Option.some.injEq, exists_eq_left', exists_eq_left, Option.toList_some, Option.toList_none, List.cons_append, List.nil_append, true_and, and_true, Option.map_some, Option.map_none, r_allMatters (d := d) (by omega) hTz hW, full_lt hW, hc, if_false, r_sumOfAll (d := d) (by omega) hTz hW, h1', if_true, nI_1]) (2 ^ tM (wT W) - 1) 1 s (by have := Nat.two_pow_pos (tM (wT W)); omega) keR.rf
      refine ⟨z, ?_, hz⟩
      have hTz : refT z 111 0 (wT W) := refT_ke hz hT
      have e1 := e (some (.int (nI (bsN (wT W) (wA W) (2 ^ tM (wT W))))), mkH xs z)
      have b1 : bsN (wT W) (wA W) 1 = 0 := by
        rw [bsN]
        split <;> rfl
      rw [b1] at e1
      rw [x_ev_in rfl (Nat.le_of_ble_eq_true rfl)]
      rw [show x_ent (x_nL g_M 288) [.ref 110] = [some (.ref 110), none, none] from rfl]
      simp only [w_Ref_best_0, w_Ref_best_4, w_Ref_best_7, w_Ref_best_10, w_Ref_best_19, w_Ref_best_22, w_Ref_best_27, w_Ref_best_32, w_Ref_best_35, w_Ref_best_41, w_Ref_best_44, w_Ref_best_46, w_Ref_best_52, c_110, f_110_0, p_110_0, f_110_1, f_110_2, f_110_3, f_110_4, f_110_5, p_110_5, f_110_6, f_110_7, p_110_7, f_110_8, p_110_8, f_110_9, p_110_9, f_110_10, p_110_10, f_110_11, p_110_11, f_110_12, p_110_12, f_110_13, p_110_13, f_110_14, f_110_15, f_110_16, p_110_16, f_110_17, f_110_18, p_110_18, f_110_19, p_110_19, f_110_20, f_110_21, p_110_21, f_110_22, p_110_22, f_110_23, f_110_24, f_110_25, p_110_25, f_110_26, f_110_27, f_110_28, f_110_29, f_110_30, f_110_31, p_110_31, f_110_32, p_110_32, f_110_33, p_110_33, f_110_34, p_110_34, f_110_35, f_110_36, f_110_37, f_110_38, Option.some.injEq, exists_eq_left', exists_eq_left, Option.toList_some, Option.toList_none, List.cons_append, List.nil_append, true_and, and_true, Option.map_some, Option.map_none, r_isTown (d := d) (by omega) hT, r_isPerson (d := d) (by omega) hT hW, r_isMatterI (d := d) (by omega) hT hW, r_isSet (d := d) (by omega) hT hW, r_allMatters (d := d) (by omega) hT hW, r_isClosed (d := d) (by omega) hT hW, r_sumOfAll (d := d) (by omega) hT hW, r_restsOf (d := d) (by omega) hT hW, r_in (d := d) (by omega), r_bit (d := d) (by omega), r_bits (d := d) (by omega), hli, show ¬ ((1 : Int32) = 0) by decide, if_false, not_false_eq_true, if_true]
      refine e1.mpr ?_
      simp only [w_Ref_best_0, w_Ref_best_4, w_Ref_best_7, w_Ref_best_10, w_Ref_best_19, w_Ref_best_22, w_Ref_best_27, w_Ref_best_32, w_Ref_best_35, w_Ref_best_41, w_Ref_best_44, w_Ref_best_46, w_Ref_best_52, w_Ref_best_14 (l2 := nI (2 ^ tM (wT W))), c_110, f_110_0, p_110_0, f_110_1, f_110_2, f_110_3, f_110_4, f_110_5, p_110_5, f_110_6, f_110_7, p_110_7, f_110_8, p_110_8, f_110_9, p_110_9, f_110_10, p_110_10, f_110_11, p_110_11, f_110_12, p_110_12, f_110_13, p_110_13, f_110_14, f_110_15, f_110_16, p_110_16, f_110_17, f_110_18, p_110_18, f_110_19, p_110_19, f_110_20, f_110_21, p_110_21, f_110_22, p_110_22, f_110_23, f_110_24, f_110_25, p_110_25, f_110_26, f_110_27, f_110_28, f_110_29, f_110_30, f_110_31, p_110_31, f_110_32, p_110_32, f_110_33, p_110_33, f_110_34, p_110_34, f_110_35, f_110_36, f_110_37, f_110_38, Option.some.injEq, exists_eq_left', exists_eq_left, Option.toList_some, Option.toList_none, List.cons_append, List.nil_append, true_and, and_true, Option.map_some, Option.map_none, r_allMatters (d := d) (by omega) hTz hW, full_lt hW, show nI (2 ^ tM (wT W)) ≤ nI (2 ^ tM (wT W)) from Int32.le_refl _, if_true]
end STANDS4
