/-! sipped (own work) -/
def rws (T : Tw) (set : Int32) : Nat → As → Int32
  | 0, A => if msk A.1 = set then 1 else 0
  | n + 1, A => sm (fun p => if aWhy T A p = 0 then rws T set n (aft T A p) else 0) (tP T)
def rc (T : Tw) : Nat → Nat → As → Option As
  | 0, _, A => some A
  | n + 1, c, A => if aWhy T A (c % tP T) = 0 then rc T n (c / tP T) (aft T A (c % tP T)) else none
def vl (T : Tw) (set : Int32) (n c : Nat) (A : As) : Int32 := match rc T n c A with
  | some B => if msk B.1 = set then 1 else 0
  | none => 0
theorem sm_split (f : Nat → Int32) (a : Nat) : ∀ b, sm f (a + b) = sm f a + sm (fun i => f (a + i)) b := by
  intro b
  induction b with
  | zero => simp [sm]
  | succ b ih => rw [← Nat.add_assoc, sm, ih, sm]; ac_rfl
theorem sm_grid (f : Nat → Int32) (p : Nat) : ∀ m, sm f (p * m) = sm (fun i => sm (fun c => f (i + p * c)) m) p := by
  intro m
  induction m with
  | zero => simp only [Nat.mul_zero, sm]; rw [sm_0]
  | succ m ih =>
    rw [Nat.mul_succ, sm_split, ih]
    simp only [sm]
    rw [sm_add]
    congr 1
    exact sm_eq (fun i _ => by rw [Nat.add_comm])
theorem vl_rws (T : Tw) (set : Int32) : ∀ n A, sm (fun c => vl T set n c A) (tP T ^ n) = rws T set n A := by
  intro n
  induction n with
  | zero => intro A; simp [sm, vl, rc, rws]
  | succ n ih =>
    intro A
    rw [Nat.pow_succ, Nat.mul_comm, sm_grid, rws]
    refine sm_eq (fun p hp => ?_)
    have e : ∀ c, vl T set (n + 1) (p + tP T * c) A = if aWhy T A p = 0 then vl T set n c (aft T A p) else 0 := by
      intro c
      have h1 : (p + tP T * c) % tP T = p := by rw [Nat.add_mul_mod_self_left, Nat.mod_eq_of_lt hp]
      have h2 : (p + tP T * c) / tP T = c := by rw [Nat.add_mul_div_left _ _ (by omega), Nat.div_eq_of_lt hp, Nat.zero_add]
      unfold vl
      rw [rc, h1, h2]
      by_cases h0 : aWhy T A p = 0
      · rw [if_pos h0, if_pos h0]
      · rw [if_neg h0, if_neg h0]
    rw [sm_eq (fun c _ => e c)]
    by_cases h0 : aWhy T A p = 0
    · simp only [h0, if_true]
      exact ih _
    · simp only [h0, if_false]
      exact sm_0 _
def offSd (k : Nat) (s s' : xS) : Prop := (∀ q, q < 50 + 3 * k ∨ 65 ≤ q → s'.1 q = s.1 q) ∧ s'.2 = s.2
theorem offSd.tr {k : Nat} {s s' s'' : xS} (h : offSd k s s') (h2 : offSd k s' s'') : offSd k s s'' := ⟨fun q a => (h2.1 q a).trans (h.1 q a), h2.2.trans h.2⟩
theorem offSd.up {k : Nat} {s s' : xS} (h : offSd (k + 1) s s') : offSd k s s' := ⟨fun q a => h.1 q (by omega), h.2⟩
theorem sp50 : ∀ k, k < 5 → 50 + 3 * k ∈ g_SP := by decide
section SIPPED
variable {P : Nat → List Value → Option Value} {xs : List Int32} {T : Tw}
set_option maxHeartbeats 8000000 in
theorem s_rowsFrom (hK : tOk T) (set : Int32) {n : Nat} (hn : n ≤ 4) : ∀ (j k d : Nat) (s : xS) (A : As), k + j = n → 6 + j ≤ d → clsT s 3 T → clsS s (50 + 3 * k) T A → aOk T A →
    ∃ s', x_ev g_M P d 59 [.ref 48, .int (nI k), .int set, .int (nI n)] (mkH xs s) (some (.int (rws T set j A)), mkH xs s') ∧ offSd (k + 1) s s' := by
  have hW := hK.1
  have w1 := hW.1
  intro j
  induction j with
  | zero =>
    intro k d s A hk hd hT hA hO
    obtain rfl : k = n := by omega
    refine ⟨s, ?_, ⟨fun _ _ => rfl, rfl⟩⟩
    have hp := sp50 k (by omega)
    have hx : x_rd (fun k => 50 + 3 * k) 5 (nI k) = some (50 + 3 * k) := x_rd_nI (by omega) (by omega)
    obtain ⟨d, rfl⟩ := x_1 (d := d) (by omega)
    rw [x_ev_in rfl (Nat.le_of_ble_eq_true rfl)]
    rw [show x_ent (x_nL g_M 59) [.ref 48, .int (nI k), .int set, .int (nI k)] = [some (.ref 48), some (.int (nI k)), some (.int set), some (.int (nI k)), none, none, none] from rfl]
    simp only [w_Sips_rowsFrom_0, w_Sips_rowsFrom_5, w_Sips_rowsFrom_10, w_Sips_rowsFrom_14, w_Sips_rowsFrom_16, w_Sips_rowsFrom_19, w_Sips_rowsFrom_23, w_Sips_rowsFrom_27, w_Sips_rowsFrom_28, w_Sips_rowsFrom_29, w_Sips_rowsFrom_41, w_Sips_rowsFrom_44, w_Sips_rowsFrom_47, w_Sips_rowsFrom_51, w_Sips_rowsFrom_55, w_Sips_rowsFrom_63, w_Sips_rowsFrom_65, w_Sips_rowsFrom_68, w_Sips_rowsFrom_78, w_Sips_rowsFrom_81, w_Sips_rowsFrom_92, w_Sips_rowsFrom_95, w_Sips_rowsFrom_101, c_48, f_48_0, f_48_1, f_48_2, f_48_3, p_48_3, f_48_4, p_48_4, e_49, cS hp, fS0 hp, fS1 hp, fS2 hp, fS3 hp, fS4 hp, fS5 hp, fS6 hp, pS1 hp, pS2 hp, pS3 hp, pS4 hp, eS1 hp, eS2 hp, iS1 hp, iS2 hp, Option.some.injEq, exists_eq_left', exists_eq_left, Option.toList_some, Option.toList_none, List.cons_append, List.nil_append, true_and, and_true, Option.map_some, Option.map_none, show nI k ≤ nI k from Int32.le_refl _, if_true, hx, hA.1, rws]
    by_cases hb : msk A.1 = set
    · simp only [hb, not_true_eq_false, if_false, if_true]
    · simp only [hb, not_false_eq_true, if_true, if_false]
  | succ j ih =>
    intro k d s A hk hd hT hA hO
    have hp := sp50 k (by omega)
    have hp1 := sp50 (k + 1) (by omega)
    have hne : 50 + 3 * (k + 1) ≠ 50 + 3 * k := by omega
    obtain ⟨d, rfl⟩ := x_1 (d := d) (by omega)
    have hx0 : x_rd (fun k => 50 + 3 * k) 5 (nI k) = some (50 + 3 * k) := x_rd_nI (by omega) (by omega)
    have hx1 : x_rd (fun k => 50 + 3 * k) 5 (nI (k + 1)) = some (50 + 3 * (k + 1)) := x_rd_nI (by omega) (by omega)
    obtain ⟨⟨s', o⟩, ho, e⟩ := x_upY (C := x_ev g_M P d) (k := 59) (N := tP T) (β := xS × Option Value) (R := fun _ z => offSd (k + 1) s z.1) (F := fun p z => (35, [some (.ref 48), some (.int (nI k)), some (.int set), some (.int (nI n)), some (.int (sm (fun p => if aWhy T A p = 0 then rws T set j (aft T A p) else 0) p)), some (.int (nI p)), z.2], [], mkH xs z.1)) (fun p zo hpp ho => by
      obtain ⟨z, o⟩ := zo
      have ho : offSd (k + 1) s z := ho
      have hTz : clsT z 3 T := clsT_off (fun q a b => ho.1 q (by omega)) hT
      have hAz : clsS z (50 + 3 * k) T A := clsS_at (fun q a b => ho.1 q (by omega)) hA
      have t4 := hTz.1.2.2.2.2.1
      have hc : ¬ nI (tP T) ≤ nI p := nI_ge hpp (by omega)
      obtain ⟨z1, q1, q2, q3⟩ := s_copyFrom (P := P) (d := d) (xs := xs) (by omega) hp1 hp hne hW hAz hO.1
      have hT1 := q2.T hp1 hTz
      obtain ⟨z2, y1, y2, y3⟩ := s_take (P := P) (d := d) (xs := xs) (by omega) hp1 hT1 hW q3 hO.1 (10 + nI p)
      have hT2 := y2.T hp1 hT1
      have o12 : offSd (k + 1) z z2 := ⟨fun q hq => (y2.1 q (by omega) (by omega) (by omega)).trans (q2.1 q (by omega) (by omega) (by omega)), y2.2.trans q2.2⟩
      rw [aTake_aft hW hpp] at y1 y3
      by_cases h0 : aWhy T A p = 0
      · rw [if_pos h0] at y1 y3
        obtain ⟨z3, v1, v2⟩ := ih (k + 1) d z2 (aft T A p) (by omega) (by omega) hT2 y3 (aft_ok hO h0 hpp)
        refine ⟨(z3, some (.ref (50 + 3 * (k + 1)))), (ho.tr o12).tr v2.up, fun r => ?_⟩
        simp only [w_Sips_rowsFrom_0, w_Sips_rowsFrom_5, w_Sips_rowsFrom_10, w_Sips_rowsFrom_14, w_Sips_rowsFrom_16, w_Sips_rowsFrom_19, w_Sips_rowsFrom_23, w_Sips_rowsFrom_27, w_Sips_rowsFrom_28, w_Sips_rowsFrom_29, w_Sips_rowsFrom_41, w_Sips_rowsFrom_44, w_Sips_rowsFrom_47, w_Sips_rowsFrom_51, w_Sips_rowsFrom_55, w_Sips_rowsFrom_63, w_Sips_rowsFrom_65, w_Sips_rowsFrom_68, w_Sips_rowsFrom_78, w_Sips_rowsFrom_81, w_Sips_rowsFrom_92, w_Sips_rowsFrom_95, w_Sips_rowsFrom_101, w_Sips_rowsFrom_35 (l5 := nI p), c_3, f_3_0, p_3_0, f_3_1, p_3_1, f_3_2, p_3_2, f_3_3, p_3_3, f_3_4, p_3_4, f_3_5, p_3_5, f_3_6, p_3_6, f_3_7, p_3_7, f_3_8, p_3_8, f_3_9, f_3_10, f_3_11, f_3_12, f_3_13, c_48, f_48_0, f_48_1, f_48_2, f_48_3, p_48_3, f_48_4, p_48_4, e_49, cS hp1, Option.some.injEq, exists_eq_left', exists_eq_left, Option.toList_some, Option.toList_none, List.cons_append, List.nil_append, true_and, and_true, Option.map_some, Option.map_none, t4, hc, if_false, nI_1, hx0, hx1, x_ev_iff q1, x_ev_iff y1, Option.isSome_some, if_true, show ¬ ((1 : Int32) = 0) by decide, x_ev_iff v1, sm, h0]
      · rw [if_neg h0] at y1 y3
        refine ⟨(z2, some (.ref (50 + 3 * (k + 1)))), ho.tr o12, fun r => ?_⟩
        simp only [w_Sips_rowsFrom_0, w_Sips_rowsFrom_5, w_Sips_rowsFrom_10, w_Sips_rowsFrom_14, w_Sips_rowsFrom_16, w_Sips_rowsFrom_19, w_Sips_rowsFrom_23, w_Sips_rowsFrom_27, w_Sips_rowsFrom_28, w_Sips_rowsFrom_29, w_Sips_rowsFrom_41, w_Sips_rowsFrom_44, w_Sips_rowsFrom_47, w_Sips_rowsFrom_51, w_Sips_rowsFrom_55, w_Sips_rowsFrom_63, w_Sips_rowsFrom_65, w_Sips_rowsFrom_68, w_Sips_rowsFrom_78, w_Sips_rowsFrom_81, w_Sips_rowsFrom_92, w_Sips_rowsFrom_95, w_Sips_rowsFrom_101, w_Sips_rowsFrom_35 (l5 := nI p), c_3, f_3_0, p_3_0, f_3_1, p_3_1, f_3_2, p_3_2, f_3_3, p_3_3, f_3_4, p_3_4, f_3_5, p_3_5, f_3_6, p_3_6, f_3_7, p_3_7, f_3_8, p_3_8, f_3_9, f_3_10, f_3_11, f_3_12, f_3_13, c_48, f_48_0, f_48_1, f_48_2, f_48_3, p_48_3, f_48_4, p_48_4, e_49, cS hp1, Option.some.injEq, exists_eq_left', exists_eq_left, Option.toList_some, Option.toList_none, List.cons_append, List.nil_append, true_and, and_true, Option.map_some, Option.map_none, t4, hc, if_false, nI_1, hx0, hx1, x_ev_iff q1, x_ev_iff y1, Option.isSome_none, Bool.false_eq_true, if_true, sm, h0, Int32.add_zero]) (tP T) 0 (s, none) (by omega) ⟨fun _ _ => rfl, rfl⟩
    have ho : offSd (k + 1) s s' := ho
    have hTz : clsT s' 3 T := clsT_off (fun q a b => ho.1 q (by omega)) hT
    have t4 := hTz.1.2.2.2.2.1
    have hc1 : ¬ nI n ≤ nI k := nI_ge (by omega) (by omega)
    have hc2 : nI k < 4 := nI_lt (b := 4) (by omega) (by omega)
    refine ⟨s', ?_, ho⟩
    rw [x_ev_in rfl (Nat.le_of_ble_eq_true rfl)]
    rw [show x_ent (x_nL g_M 59) [.ref 48, .int (nI k), .int set, .int (nI n)] = [some (.ref 48), some (.int (nI k)), some (.int set), some (.int (nI n)), none, none, none] from rfl]
    simp only [w_Sips_rowsFrom_0, w_Sips_rowsFrom_5, w_Sips_rowsFrom_29, hc1, hc2, if_true, if_false]
    refine (e _).mpr ?_
    simp only [w_Sips_rowsFrom_0, w_Sips_rowsFrom_5, w_Sips_rowsFrom_10, w_Sips_rowsFrom_14, w_Sips_rowsFrom_16, w_Sips_rowsFrom_19, w_Sips_rowsFrom_23, w_Sips_rowsFrom_27, w_Sips_rowsFrom_28, w_Sips_rowsFrom_29, w_Sips_rowsFrom_41, w_Sips_rowsFrom_44, w_Sips_rowsFrom_47, w_Sips_rowsFrom_51, w_Sips_rowsFrom_55, w_Sips_rowsFrom_63, w_Sips_rowsFrom_65, w_Sips_rowsFrom_68, w_Sips_rowsFrom_78, w_Sips_rowsFrom_81, w_Sips_rowsFrom_92, w_Sips_rowsFrom_95, w_Sips_rowsFrom_101, w_Sips_rowsFrom_35 (l5 := nI (tP T)), c_3, f_3_0, p_3_0, f_3_1, p_3_1, f_3_2, p_3_2, f_3_3, p_3_3, f_3_4, p_3_4, f_3_5, p_3_5, f_3_6, p_3_6, f_3_7, p_3_7, f_3_8, p_3_8, f_3_9, f_3_10, f_3_11, f_3_12, f_3_13, c_48, f_48_0, f_48_1, f_48_2, f_48_3, p_48_3, f_48_4, p_48_4, Option.some.injEq, exists_eq_left', exists_eq_left, Option.toList_some, Option.toList_none, List.cons_append, List.nil_append, true_and, and_true, Option.map_some, Option.map_none, t4, show nI (tP T) ≤ nI (tP T) from Int32.le_refl _, if_true]
    rfl
theorem s_rowsTo {d : Nat} (hd : 11 ≤ d) (hK : tOk T) {s : xS} {A : As} (hT : clsT s 3 T) (hA : clsS s 9 T A) (hO : aOk T A) (set : Int32) {n : Nat} (hn : n ≤ 4) : ∃ s', x_ev g_M P d 58 [.ref 48, .int set, .int (nI n)] (mkH xs s) (some (.int (rws T set n A)), mkH xs s') ∧ offS s s' := by
  have h50 : 50 ∈ g_SP := by decide
  have h9 : 9 ∈ g_SP := by decide
  obtain ⟨d, rfl⟩ := x_1 (d := d) (by omega)
  obtain ⟨s1, q1, q2, q3⟩ := s_copyFrom (P := P) (d := d) (xs := xs) (by omega) h50 h9 (by decide) hK.1 hA hO.1
  have o1 : offS s s1 := q2.Si (by omega) (by omega)
  obtain ⟨s', z1, z2⟩ := s_rowsFrom (P := P) (xs := xs) hK set hn n 0 d s1 A (by omega) (by omega) (o1.T hT) q3 hO
  refine ⟨s', ?_, o1.tr ⟨fun q hq => z2.1 q (by omega), z2.2⟩⟩
  rw [show nI 0 = 0 from rfl] at z1
  rw [x_ev_in rfl (Nat.le_of_ble_eq_true rfl)]
  rw [show x_ent (x_nL g_M 58) [.ref 48, .int set, .int (nI n)] = [some (.ref 48), some (.int set), some (.int (nI n))] from rfl]
  simp only [w_Sips_rowsTo_0, w_Sips_rowsTo_4, w_Sips_rowsTo_6, w_Sips_rowsTo_10, w_Sips_rowsTo_13, w_Sips_rowsTo_20, c_48, f_48_0, f_48_1, f_48_2, f_48_3, p_48_3, f_48_4, p_48_4, e_49, c_50, f_50_0, f_50_1, p_50_1, f_50_2, p_50_2, f_50_3, p_50_3, f_50_4, p_50_4, f_50_5, f_50_6, Option.some.injEq, exists_eq_left', exists_eq_left, Option.toList_some, Option.toList_none, List.cons_append, List.nil_append, true_and, and_true, Option.map_some, Option.map_none, e49_0, x_ev_iff q1, x_ev_iff z1]
theorem r_codeL {d : Nat} (hd : 8 ≤ d) (hK : tOk T) (hP : 0 < tP T) {set sum : Int32} {n code : Nat} (hn : n ≤ 4) {acts : List Int32} : ∀ (j i left : Nat) (s : xS) (A : As) (o : Option Value), i + j = n → left < 2 ^ 31 → refW s T acts → refS s T A → aOk T A →
    ∃ s' l6 l8 o', offR s s' ∧ (∀ r, x_R (x_ev g_M P d) 309 (75, [some (.ref 110), some (.int set), some (.int (nI n)), some (.int (nI (tP T ^ n))), some (.int sum), some (.int (nI code)), some (.int (nI left)), some (.int 1), some (.int (nI i)), o], [], mkH xs s) r ↔ x_R (x_ev g_M P d) 309 (142, [some (.ref 110), some (.int set), some (.int (nI n)), some (.int (nI (tP T ^ n))), some (.int sum), some (.int (nI code)), some (.int l6), some (.int (b01 (rc T j left A).isSome)), some (.int l8), o'], [], mkH xs s') r) ∧ ∀ B, rc T j left A = some B → refS s' T B ∧ aOk T B := by
  have hW := hK.1
  have w1 := hW.1
  intro j
  induction j with
  | zero =>
    intro i left s A o hi hl hR hA hO
    obtain rfl : i = n := by omega
    refine ⟨s, nI left, nI i, o, offR.rf, fun r => ?_, fun B hB => ?_⟩
    · simp only [w_Ref_sipped_75 (l8 := nI i), show nI i ≤ nI i from Int32.le_refl _, if_true]
      exact Iff.rfl
    · cases hB; exact ⟨hA, hO⟩
  | succ j ih =>
    intro i left s A o hi hl hR hA hO
    have hc : ¬ nI n ≤ nI i := nI_ge (by omega) (by omega)
    have hne : ¬ nI (tP T) = 0 := nI_ne0 hP (by omega)
    have hp : left % tP T < tP T := Nat.mod_lt _ hP
    have e2 : nI left / nI (tP T) = nI (left / tP T) := pk_div hl hP (by omega)
    have e1 : nI left - nI (left / tP T) * nI (tP T) = nI (left % tP T) := by rw [← e2]; exact pk_rem hl hP (by omega)
    by_cases h0 : aWhy T A (left % tP T) = 0
    · obtain ⟨s2, v, q1, q2, q3⟩ := r_sip (P := P) (d := d) (xs := xs) (by omega) hK hR.1 hA hO hp h0
      obtain ⟨s', l6, l8, o', z1, z2, z3⟩ := ih (i + 1) (left / tP T) s2 (aft T A (left % tP T)) (some (.int (nI (left % tP T)))) (by omega) (Nat.lt_of_le_of_lt (Nat.div_le_self _ _) hl) (refW_at (q2.1 111 (by omega) (by omega) (by omega)) hR) q3 (aft_ok hO h0 hp)
      have e3 : rc T (j + 1) left A = rc T j (left / tP T) (aft T A (left % tP T)) := by rw [rc, if_pos h0]
      rw [e3]
      refine ⟨s', l6, l8, o', q2.tr z1, fun r => ?_, z3⟩
      simp only [w_Ref_sipped_0, w_Ref_sipped_5, w_Ref_sipped_8, w_Ref_sipped_17, w_Ref_sipped_20, w_Ref_sipped_23, w_Ref_sipped_34, w_Ref_sipped_39, w_Ref_sipped_41, w_Ref_sipped_49, w_Ref_sipped_61, w_Ref_sipped_65, w_Ref_sipped_81, w_Ref_sipped_86, w_Ref_sipped_92, w_Ref_sipped_94, w_Ref_sipped_95, w_Ref_sipped_103, w_Ref_sipped_105, w_Ref_sipped_106, w_Ref_sipped_114, w_Ref_sipped_117, w_Ref_sipped_121, w_Ref_sipped_122, w_Ref_sipped_129, w_Ref_sipped_135, w_Ref_sipped_136, w_Ref_sipped_149, w_Ref_sipped_153, w_Ref_sipped_157, w_Ref_sipped_161, w_Ref_sipped_162, w_Ref_sipped_171, w_Ref_sipped_75 (l8 := nI i), c_110, f_110_0, p_110_0, f_110_1, f_110_2, f_110_3, f_110_4, f_110_5, p_110_5, f_110_6, f_110_7, p_110_7, f_110_8, p_110_8, f_110_9, p_110_9, f_110_10, p_110_10, f_110_11, p_110_11, f_110_12, p_110_12, f_110_13, p_110_13, f_110_14, f_110_15, f_110_16, p_110_16, f_110_17, f_110_18, p_110_18, f_110_19, p_110_19, f_110_20, f_110_21, p_110_21, f_110_22, p_110_22, f_110_23, f_110_24, f_110_25, p_110_25, f_110_26, f_110_27, f_110_28, f_110_29, f_110_30, f_110_31, p_110_31, f_110_32, p_110_32, f_110_33, p_110_33, f_110_34, p_110_34, f_110_35, f_110_36, f_110_37, f_110_38, e_111, i_111, Option.some.injEq, exists_eq_left', exists_eq_left, Option.toList_some, Option.toList_none, List.cons_append, List.nil_append, true_and, and_true, Option.map_some, Option.map_none, hc, if_false, show ¬ ((1 : Int32) = 0) by decide, x_w3 hR.1, hne, not_false_eq_true, e1, e2, r_whyNot (d := d) (by omega) hR.1 hW hA hO hp, h0, not_true_eq_false, x_ev_iff q1, nI_1]
      exact z2 r
    · have e3 : rc T (j + 1) left A = none := by rw [rc, if_neg h0]
      rw [e3]
      refine ⟨s, nI (left / tP T), nI (i + 1), some (.int (nI (left % tP T))), offR.rf, fun r => ?_, fun B hB => by cases hB⟩
      simp only [w_Ref_sipped_0, w_Ref_sipped_5, w_Ref_sipped_8, w_Ref_sipped_17, w_Ref_sipped_20, w_Ref_sipped_23, w_Ref_sipped_34, w_Ref_sipped_39, w_Ref_sipped_41, w_Ref_sipped_49, w_Ref_sipped_61, w_Ref_sipped_65, w_Ref_sipped_81, w_Ref_sipped_86, w_Ref_sipped_92, w_Ref_sipped_94, w_Ref_sipped_95, w_Ref_sipped_103, w_Ref_sipped_105, w_Ref_sipped_106, w_Ref_sipped_114, w_Ref_sipped_117, w_Ref_sipped_121, w_Ref_sipped_122, w_Ref_sipped_129, w_Ref_sipped_135, w_Ref_sipped_136, w_Ref_sipped_149, w_Ref_sipped_153, w_Ref_sipped_157, w_Ref_sipped_161, w_Ref_sipped_162, w_Ref_sipped_171, w_Ref_sipped_75 (l8 := nI i), w_Ref_sipped_75 (l8 := nI (i + 1)), c_110, f_110_0, p_110_0, f_110_1, f_110_2, f_110_3, f_110_4, f_110_5, p_110_5, f_110_6, f_110_7, p_110_7, f_110_8, p_110_8, f_110_9, p_110_9, f_110_10, p_110_10, f_110_11, p_110_11, f_110_12, p_110_12, f_110_13, p_110_13, f_110_14, f_110_15, f_110_16, p_110_16, f_110_17, f_110_18, p_110_18, f_110_19, p_110_19, f_110_20, f_110_21, p_110_21, f_110_22, p_110_22, f_110_23, f_110_24, f_110_25, p_110_25, f_110_26, f_110_27, f_110_28, f_110_29, f_110_30, f_110_31, p_110_31, f_110_32, p_110_32, f_110_33, p_110_33, f_110_34, p_110_34, f_110_35, f_110_36, f_110_37, f_110_38, e_111, i_111, Option.some.injEq, exists_eq_left', exists_eq_left, Option.toList_some, Option.toList_none, List.cons_append, List.nil_append, true_and, and_true, Option.map_some, Option.map_none, hc, if_false, show ¬ ((1 : Int32) = 0) by decide, x_w3 hR.1, hne, not_false_eq_true, e1, e2, r_whyNot (d := d) (by omega) hR.1 hW hA hO hp, h0, if_true, nI_1, ite_self, Option.isSome_none, b01, Bool.false_eq_true]
end SIPPED
section SIPPED2
variable {P : Nat → List Value → Option Value} {W : Wd}
theorem pow_le4 : ∀ p, p ≤ 6 → ∀ n, n ≤ 4 → p ^ n ≤ 1296 := by decide
set_option maxHeartbeats 8000000 in
theorem k_sipped (h : wOk W) (x y : Int32) : ask2 P 163 309 [.int x, .int y] W := by
  obtain ⟨hK, hl60, hr, hrest⟩ := h; have hW := hK.1; have hO := aOk_run hK _ _ _ (aOk_begin hK) hr; have hAw := hO.1; have w1 := hW.1; have w2 := hW.2.1; have h9 : 9 ∈ g_SP := by decide
  have e0 : y.toInt64 < 0 ↔ y < 0 := w_lt y 0
  have e4 : (4 : Int64) < y.toInt64 ↔ nI 4 < y := w_lt 4 y
  rcases set_cs hW x with h0 | ⟨st, hs, rfl, h1, hli⟩
  · refine ⟨-2, cAsk0 ?_, rAsk0 ?_⟩
    · intro d xs s hd hC; obtain ⟨⟨hT, hA, hn, hacts⟩, -⟩ := hC
      obtain ⟨d, rfl⟩ := x_1 (d := d) (by omega)
      rw [x_ev_in rfl (Nat.le_of_ble_eq_true rfl)]
      rw [show x_ent (x_nL g_M 163) [.ref 1, .int x, .int y] = [some (.ref 1), some (.int x), some (.int y)] from rfl]
      simp only [w_Top_sipped_0, w_Top_sipped_4, w_Top_sipped_8, w_Top_sipped_11, w_Top_sipped_15, w_Top_sipped_20, w_Top_sipped_23, w_Top_sipped_27, w_Top_sipped_32, c_1, f_1_0, f_1_1, p_1_1, f_1_2, f_1_3, f_1_4, f_1_5, f_1_6, p_1_6, f_1_7, f_1_8, f_1_9, f_1_10, f_1_11, f_1_12, f_1_13, f_1_14, c_3, f_3_0, p_3_0, f_3_1, p_3_1, f_3_2, p_3_2, f_3_3, p_3_3, f_3_4, p_3_4, f_3_5, p_3_5, f_3_6, p_3_6, f_3_7, p_3_7, f_3_8, p_3_8, f_3_9, f_3_10, f_3_11, f_3_12, f_3_13, c_9, f_9_0, f_9_1, p_9_1, f_9_2, p_9_2, f_9_3, p_9_3, f_9_4, p_9_4, f_9_5, f_9_6, Option.some.injEq, exists_eq_left', exists_eq_left, Option.toList_some, Option.toList_none, List.cons_append, List.nil_append, true_and, and_true, Option.map_some, Option.map_none, t_isTold (d := d) (by omega) hT, t_hasPerson (d := d) (by omega) hT, t_hasMatter (d := d) (by omega) hT, t_hasSet (d := d) (by omega) hT hW, t_bitOf (d := d) (by omega), t_isClosed (d := d) (by omega) hT hW, t_sumOfAll (d := d) (by omega) hT hW, s_openOnes (d := d) (by omega) h9 hT hW hA, s_wishers (d := d) (by omega) h9 hT hW hA hAw, s_allCups (d := d) (by omega) h9 hT hW hA, h0, show ¬ ((1 : Int32) = 0) by decide, not_true_eq_false, not_false_eq_true, if_true, if_false]
    · intro d xs s hd hC; obtain ⟨hR, -⟩ := hC; have hT := hR.1
      obtain ⟨d, rfl⟩ := x_1 (d := d) (by omega)
      rw [x_ev_in rfl (Nat.le_of_ble_eq_true rfl)]
      rw [show x_ent (x_nL g_M 309) [.ref 110, .int x, .int y] = [some (.ref 110), some (.int x), some (.int y), none, none, none, none, none, none, none] from rfl]
      simp only [w_Ref_sipped_0, w_Ref_sipped_5, w_Ref_sipped_8, w_Ref_sipped_17, w_Ref_sipped_20, w_Ref_sipped_23, w_Ref_sipped_34, w_Ref_sipped_39, w_Ref_sipped_41, w_Ref_sipped_49, w_Ref_sipped_61, w_Ref_sipped_65, w_Ref_sipped_81, w_Ref_sipped_86, w_Ref_sipped_92, w_Ref_sipped_94, w_Ref_sipped_95, w_Ref_sipped_103, w_Ref_sipped_105, w_Ref_sipped_106, w_Ref_sipped_114, w_Ref_sipped_117, w_Ref_sipped_121, w_Ref_sipped_122, w_Ref_sipped_129, w_Ref_sipped_135, w_Ref_sipped_136, w_Ref_sipped_142, w_Ref_sipped_149, w_Ref_sipped_153, w_Ref_sipped_157, w_Ref_sipped_161, w_Ref_sipped_162, w_Ref_sipped_171, c_110, f_110_0, p_110_0, f_110_1, f_110_2, f_110_3, f_110_4, f_110_5, p_110_5, f_110_6, f_110_7, p_110_7, f_110_8, p_110_8, f_110_9, p_110_9, f_110_10, p_110_10, f_110_11, p_110_11, f_110_12, p_110_12, f_110_13, p_110_13, f_110_14, f_110_15, f_110_16, p_110_16, f_110_17, f_110_18, p_110_18, f_110_19, p_110_19, f_110_20, f_110_21, p_110_21, f_110_22, p_110_22, f_110_23, f_110_24, f_110_25, p_110_25, f_110_26, f_110_27, f_110_28, f_110_29, f_110_30, f_110_31, p_110_31, f_110_32, p_110_32, f_110_33, p_110_33, f_110_34, p_110_34, f_110_35, f_110_36, f_110_37, f_110_38, Option.some.injEq, exists_eq_left', exists_eq_left, Option.toList_some, Option.toList_none, List.cons_append, List.nil_append, true_and, and_true, Option.map_some, Option.map_none, r_isTown (d := d) (by omega) hT, r_isPerson (d := d) (by omega) hT hW, r_isMatterI (d := d) (by omega) hT hW, r_isSet (d := d) (by omega) hT hW, r_allMatters (d := d) (by omega) hT hW, r_isClosed (d := d) (by omega) hT hW, r_sumOfAll (d := d) (by omega) hT hW, r_restsOf (d := d) (by omega) hT hW, r_in (d := d) (by omega), r_bit (d := d) (by omega), r_bits (d := d) (by omega), h0, show ¬ ((1 : Int32) = 0) by decide, not_true_eq_false, not_false_eq_true, if_true, if_false]
  · rcases in_cs (k := 4) (by omega) y with ⟨g0, gn⟩ | ⟨n, hn4, rfl, g1⟩
    · refine ⟨-2, cAsk0 ?_, rAsk0 ?_⟩
      · intro d xs s hd hC; obtain ⟨⟨hT, hA, hn, hacts⟩, -⟩ := hC
        obtain ⟨d, rfl⟩ := x_1 (d := d) (by omega)
        rw [x_ev_in rfl (Nat.le_of_ble_eq_true rfl)]
        rw [show x_ent (x_nL g_M 163) [.ref 1, .int (nI st), .int y] = [some (.ref 1), some (.int (nI st)), some (.int y)] from rfl]
        by_cases hy : y < 0
        · simp only [w_Top_sipped_0, w_Top_sipped_4, w_Top_sipped_8, w_Top_sipped_11, w_Top_sipped_15, w_Top_sipped_20, w_Top_sipped_23, w_Top_sipped_27, w_Top_sipped_32, c_1, f_1_0, f_1_1, p_1_1, f_1_2, f_1_3, f_1_4, f_1_5, f_1_6, p_1_6, f_1_7, f_1_8, f_1_9, f_1_10, f_1_11, f_1_12, f_1_13, f_1_14, c_3, f_3_0, p_3_0, f_3_1, p_3_1, f_3_2, p_3_2, f_3_3, p_3_3, f_3_4, p_3_4, f_3_5, p_3_5, f_3_6, p_3_6, f_3_7, p_3_7, f_3_8, p_3_8, f_3_9, f_3_10, f_3_11, f_3_12, f_3_13, c_9, f_9_0, f_9_1, p_9_1, f_9_2, p_9_2, f_9_3, p_9_3, f_9_4, p_9_4, f_9_5, f_9_6, Option.some.injEq, exists_eq_left', exists_eq_left, Option.toList_some, Option.toList_none, List.cons_append, List.nil_append, true_and, and_true, Option.map_some, Option.map_none, t_isTold (d := d) (by omega) hT, t_hasPerson (d := d) (by omega) hT, t_hasMatter (d := d) (by omega) hT, t_hasSet (d := d) (by omega) hT hW, t_bitOf (d := d) (by omega), t_isClosed (d := d) (by omega) hT hW, t_sumOfAll (d := d) (by omega) hT hW, s_openOnes (d := d) (by omega) h9 hT hW hA, s_wishers (d := d) (by omega) h9 hT hW hA hAw, s_allCups (d := d) (by omega) h9 hT hW hA, h1, show ¬ ((1 : Int32) = 0) by decide, hy, if_true, if_false]
        · have hy4 : ¬ y ≤ 4 := by
            intro z
            obtain ⟨i, hi, rfl⟩ := nI_of hy
            exact gn i ((nI_leI (b := 4) hi (by omega)).mp z) rfl
          simp only [w_Top_sipped_0, w_Top_sipped_4, w_Top_sipped_8, w_Top_sipped_11, w_Top_sipped_15, w_Top_sipped_20, w_Top_sipped_23, w_Top_sipped_27, w_Top_sipped_32, c_1, f_1_0, f_1_1, p_1_1, f_1_2, f_1_3, f_1_4, f_1_5, f_1_6, p_1_6, f_1_7, f_1_8, f_1_9, f_1_10, f_1_11, f_1_12, f_1_13, f_1_14, c_3, f_3_0, p_3_0, f_3_1, p_3_1, f_3_2, p_3_2, f_3_3, p_3_3, f_3_4, p_3_4, f_3_5, p_3_5, f_3_6, p_3_6, f_3_7, p_3_7, f_3_8, p_3_8, f_3_9, f_3_10, f_3_11, f_3_12, f_3_13, c_9, f_9_0, f_9_1, p_9_1, f_9_2, p_9_2, f_9_3, p_9_3, f_9_4, p_9_4, f_9_5, f_9_6, Option.some.injEq, exists_eq_left', exists_eq_left, Option.toList_some, Option.toList_none, List.cons_append, List.nil_append, true_and, and_true, Option.map_some, Option.map_none, t_isTold (d := d) (by omega) hT, t_hasPerson (d := d) (by omega) hT, t_hasMatter (d := d) (by omega) hT, t_hasSet (d := d) (by omega) hT hW, t_bitOf (d := d) (by omega), t_isClosed (d := d) (by omega) hT hW, t_sumOfAll (d := d) (by omega) hT hW, s_openOnes (d := d) (by omega) h9 hT hW hA, s_wishers (d := d) (by omega) h9 hT hW hA hAw, s_allCups (d := d) (by omega) h9 hT hW hA, h1, show ¬ ((1 : Int32) = 0) by decide, hy, hy4, if_true, if_false]
      · intro d xs s hd hC; obtain ⟨hR, -⟩ := hC; have hT := hR.1
        obtain ⟨d, rfl⟩ := x_1 (d := d) (by omega)
        rw [x_ev_in rfl (Nat.le_of_ble_eq_true rfl)]
        rw [show x_ent (x_nL g_M 309) [.ref 110, .int (nI st), .int y] = [some (.ref 110), some (.int (nI st)), some (.int y), none, none, none, none, none, none, none] from rfl]
        simp only [w_Ref_sipped_0, w_Ref_sipped_5, w_Ref_sipped_8, w_Ref_sipped_17, w_Ref_sipped_20, w_Ref_sipped_23, w_Ref_sipped_34, w_Ref_sipped_39, w_Ref_sipped_41, w_Ref_sipped_49, w_Ref_sipped_61, w_Ref_sipped_65, w_Ref_sipped_81, w_Ref_sipped_86, w_Ref_sipped_92, w_Ref_sipped_94, w_Ref_sipped_95, w_Ref_sipped_103, w_Ref_sipped_105, w_Ref_sipped_106, w_Ref_sipped_114, w_Ref_sipped_117, w_Ref_sipped_121, w_Ref_sipped_122, w_Ref_sipped_129, w_Ref_sipped_135, w_Ref_sipped_136, w_Ref_sipped_142, w_Ref_sipped_149, w_Ref_sipped_153, w_Ref_sipped_157, w_Ref_sipped_161, w_Ref_sipped_162, w_Ref_sipped_171, c_110, f_110_0, p_110_0, f_110_1, f_110_2, f_110_3, f_110_4, f_110_5, p_110_5, f_110_6, f_110_7, p_110_7, f_110_8, p_110_8, f_110_9, p_110_9, f_110_10, p_110_10, f_110_11, p_110_11, f_110_12, p_110_12, f_110_13, p_110_13, f_110_14, f_110_15, f_110_16, p_110_16, f_110_17, f_110_18, p_110_18, f_110_19, p_110_19, f_110_20, f_110_21, p_110_21, f_110_22, p_110_22, f_110_23, f_110_24, f_110_25, p_110_25, f_110_26, f_110_27, f_110_28, f_110_29, f_110_30, f_110_31, p_110_31, f_110_32, p_110_32, f_110_33, p_110_33, f_110_34, p_110_34, f_110_35, f_110_36, f_110_37, f_110_38, Option.some.injEq, exists_eq_left', exists_eq_left, Option.toList_some, Option.toList_none, List.cons_append, List.nil_append, true_and, and_true, Option.map_some, Option.map_none, r_isTown (d := d) (by omega) hT, r_isPerson (d := d) (by omega) hT hW, r_isMatterI (d := d) (by omega) hT hW, r_isSet (d := d) (by omega) hT hW, r_allMatters (d := d) (by omega) hT hW, r_isClosed (d := d) (by omega) hT hW, r_sumOfAll (d := d) (by omega) hT hW, r_restsOf (d := d) (by omega) hT hW, r_in (d := d) (by omega), r_bit (d := d) (by omega), r_bits (d := d) (by omega), h1, show ¬ ((1 : Int32) = 0) by decide, if_false, e0, e4, g0, not_true_eq_false]
    · refine ⟨rws (wT W) (nI st) n (wA W), cAsk ?_, rAsk ?_⟩
      · intro d xs s hd hC; obtain ⟨⟨hT, hA, hn, hacts⟩, -⟩ := hC
        obtain ⟨d, rfl⟩ := x_1 (d := d) (by omega)
        obtain ⟨s', q1, q2⟩ := s_rowsTo (P := P) (d := d) (xs := xs) (by omega) hK hT hA hO (nI st) hn4
        refine ⟨s', ?_, q2.ke⟩
        have hy : ¬ nI n < 0 := nI_pos (by omega)
        have hy4 : nI n ≤ 4 := nI_le (b := 4) hn4 (by omega)
        rw [x_ev_in rfl (Nat.le_of_ble_eq_true rfl)]
        rw [show x_ent (x_nL g_M 163) [.ref 1, .int (nI st), .int (nI n)] = [some (.ref 1), some (.int (nI st)), some (.int (nI n))] from rfl]
        simp only [w_Top_sipped_0, w_Top_sipped_4, w_Top_sipped_8, w_Top_sipped_11, w_Top_sipped_15, w_Top_sipped_20, w_Top_sipped_23, w_Top_sipped_27, w_Top_sipped_32, c_1, f_1_0, f_1_1, p_1_1, f_1_2, f_1_3, f_1_4, f_1_5, f_1_6, p_1_6, f_1_7, f_1_8, f_1_9, f_1_10, f_1_11, f_1_12, f_1_13, f_1_14, c_3, f_3_0, p_3_0, f_3_1, p_3_1, f_3_2, p_3_2, f_3_3, p_3_3, f_3_4, p_3_4, f_3_5, p_3_5, f_3_6, p_3_6, f_3_7, p_3_7, f_3_8, p_3_8, f_3_9, f_3_10, f_3_11, f_3_12, f_3_13, c_9, f_9_0, f_9_1, p_9_1, f_9_2, p_9_2, f_9_3, p_9_3, f_9_4, p_9_4, f_9_5, f_9_6, c_48, f_48_0, f_48_1, f_48_2, f_48_3, p_48_3, f_48_4, p_48_4, Option.some.injEq, exists_eq_left', exists_eq_left, Option.toList_some, Option.toList_none, List.cons_append, List.nil_append, true_and, and_true, Option.map_some, Option.map_none, t_isTold (d := d) (by omega) hT, t_hasPerson (d := d) (by omega) hT, t_hasMatter (d := d) (by omega) hT, t_hasSet (d := d) (by omega) hT hW, t_bitOf (d := d) (by omega), t_isClosed (d := d) (by omega) hT hW, t_sumOfAll (d := d) (by omega) hT hW, s_openOnes (d := d) (by omega) h9 hT hW hA, s_wishers (d := d) (by omega) h9 hT hW hA hAw, s_allCups (d := d) (by omega) h9 hT hW hA, x_ev_iff q1, h1, show ¬ ((1 : Int32) = 0) by decide, hy, hy4, not_false_eq_true, if_true, if_false]
      · intro d xs s hd hC; obtain ⟨hR, -⟩ := hC; have hT := hR.1
        obtain ⟨d, rfl⟩ := x_1 (d := d) (by omega)
        have hpw := pow_le4 (tP (wT W)) w1 n hn4
        have kc := fun r => x_up (C := x_ev g_M P d) (k := 309) (r := r) (N := n) (F := fun i => (28, [some (.ref 110), some (.int (nI st)), some (.int (nI n)), some (.int (nI (tP (wT W) ^ i))), some (.int (nI i)), none, none, none, none, none], [], mkH xs s)) (fun i hi => by
          have hc : ¬ nI n ≤ nI i := nI_ge hi (by omega)
          simp only [w_Ref_sipped_0, w_Ref_sipped_5, w_Ref_sipped_8, w_Ref_sipped_17, w_Ref_sipped_20, w_Ref_sipped_23, w_Ref_sipped_34, w_Ref_sipped_39, w_Ref_sipped_41, w_Ref_sipped_49, w_Ref_sipped_61, w_Ref_sipped_65, w_Ref_sipped_81, w_Ref_sipped_86, w_Ref_sipped_92, w_Ref_sipped_94, w_Ref_sipped_95, w_Ref_sipped_103, w_Ref_sipped_105, w_Ref_sipped_106, w_Ref_sipped_114, w_Ref_sipped_117, w_Ref_sipped_121, w_Ref_sipped_122, w_Ref_sipped_129, w_Ref_sipped_135, w_Ref_sipped_136, w_Ref_sipped_142, w_Ref_sipped_149, w_Ref_sipped_153, w_Ref_sipped_157, w_Ref_sipped_161, w_Ref_sipped_162, w_Ref_sipped_171, w_Ref_sipped_28 (l4 := nI i), c_110, f_110_0, p_110_0, f_110_1, f_110_2, f_110_3, f_110_4, f_110_5, p_110_5, f_110_6, f_110_7, p_110_7, f_110_8, p_110_8, f_110_9, p_110_9, f_110_10, p_110_10, f_110_11, p_110_11, f_110_12, p_110_12, f_110_13, p_110_13, f_110_14, f_110_15, f_110_16, p_110_16, f_110_17, f_110_18, p_110_18, f_110_19, p_110_19, f_110_20, f_110_21, p_110_21, f_110_22, p_110_22, f_110_23, f_110_24, f_110_25, p_110_25, f_110_26, f_110_27, f_110_28, f_110_29, f_110_30, f_110_31, p_110_31, f_110_32, p_110_32, f_110_33, p_110_33, f_110_34, p_110_34, f_110_35, f_110_36, f_110_37, f_110_38, e_111, i_111, Option.some.injEq, exists_eq_left', exists_eq_left, Option.toList_some, Option.toList_none, List.cons_append, List.nil_append, true_and, and_true, Option.map_some, Option.map_none, hc, if_false, x_w3 hT, pk_mul, nI_1, Nat.pow_succ]) 0 (Nat.zero_le _)
        obtain ⟨⟨s', o6, o7, o8, o9⟩, ho, e⟩ := x_upY (C := x_ev g_M P d) (k := 309) (N := tP (wT W) ^ n) (β := xS × Option Value × Option Value × Option Value × Option Value) (R := fun _ z => offR s z.1) (F := fun c z => (55, [some (.ref 110), some (.int (nI st)), some (.int (nI n)), some (.int (nI (tP (wT W) ^ n))), some (.int (sm (fun c => vl (wT W) (nI st) n c (wA W)) c)), some (.int (nI c)), z.2.1, z.2.2.1, z.2.2.2.1, z.2.2.2.2], [], mkH xs z.1)) (fun c zo hc ho => by
          obtain ⟨z, o6, o7, o8, o9⟩ := zo
          have ho : offR s z := ho
          have hcc : ¬ nI (tP (wT W) ^ n) ≤ nI c := nI_ge hc (by omega)
          have hRz := refW_at (ho.1 111 (by omega) (by omega) (by omega)) hR
          obtain ⟨s1, e1, o1, hA1⟩ := r_asItIs (P := P) (d := d) (xs := xs) (by omega) hRz hK hr
          have hR1 := refW_at (o1.1 111 (by omega) (by omega) (by omega)) hRz
          have hin : ∃ s' l6 l8 o', offR s1 s' ∧ (∀ r, x_R (x_ev g_M P d) 309 (75, [some (.ref 110), some (.int (nI st)), some (.int (nI n)), some (.int (nI (tP (wT W) ^ n))), some (.int (sm (fun c => vl (wT W) (nI st) n c (wA W)) c)), some (.int (nI c)), some (.int (nI c)), some (.int 1), some (.int (nI 0)), o9], [], mkH xs s1) r ↔ x_R (x_ev g_M P d) 309 (142, [some (.ref 110), some (.int (nI st)), some (.int (nI n)), some (.int (nI (tP (wT W) ^ n))), some (.int (sm (fun c => vl (wT W) (nI st) n c (wA W)) c)), some (.int (nI c)), some (.int l6), some (.int (b01 (rc (wT W) n c (wA W)).isSome)), some (.int l8), o'], [], mkH xs s') r) ∧ ∀ B, rc (wT W) n c (wA W) = some B → refS s' (wT W) B ∧ aOk (wT W) B := by
            by_cases hP : 0 < tP (wT W)
            · exact r_codeL (P := P) (xs := xs) (by omega) hK hP hn4 n 0 c s1 (wA W) o9 (by omega) (by omega) hR1 hA1 hO
            · have hP0 : tP (wT W) = 0 := by omega
              have hn0 : n = 0 := by
                cases n with
                | zero => rfl
                | succ n => rw [hP0, Nat.zero_pow (by omega)] at hc; omega
              subst hn0
              refine ⟨s1, nI c, nI 0, o9, offR.rf, fun r => ?_, fun B hB => by cases hB; exact ⟨hA1, hO⟩⟩
              simp only [w_Ref_sipped_75 (l8 := nI 0), show nI 0 ≤ nI 0 from Int32.le_refl _, if_true]
              exact Iff.rfl
          obtain ⟨s2, l6, l8, o', z1, z2, z3⟩ := hin
          refine ⟨(s2, some (.int l6), some (.int (b01 (rc (wT W) n c (wA W)).isSome)), some (.int l8), o'), (ho.tr o1).tr z1, fun r => ?_⟩
          simp only [w_Ref_sipped_55 (l5 := nI c), w_Ref_sipped_61, w_Ref_sipped_65, c_110, f_110_0, p_110_0, f_110_1, f_110_2, f_110_3, f_110_4, f_110_5, p_110_5, f_110_6, f_110_7, p_110_7, f_110_8, p_110_8, f_110_9, p_110_9, f_110_10, p_110_10, f_110_11, p_110_11, f_110_12, p_110_12, f_110_13, p_110_13, f_110_14, f_110_15, f_110_16, p_110_16, f_110_17, f_110_18, p_110_18, f_110_19, p_110_19, f_110_20, f_110_21, p_110_21, f_110_22, p_110_22, f_110_23, f_110_24, f_110_25, p_110_25, f_110_26, f_110_27, f_110_28, f_110_29, f_110_30, f_110_31, p_110_31, f_110_32, p_110_32, f_110_33, p_110_33, f_110_34, p_110_34, f_110_35, f_110_36, f_110_37, f_110_38, Option.some.injEq, exists_eq_left', exists_eq_left, Option.toList_some, Option.toList_none, List.cons_append, List.nil_append, true_and, and_true, Option.map_some, Option.map_none, hcc, if_false, x_ev_iff e1]
          refine (z2 r).trans ?_
          cases hB : rc (wT W) n c (wA W) with
          | none =>
            simp only [w_Ref_sipped_0, w_Ref_sipped_5, w_Ref_sipped_8, w_Ref_sipped_17, w_Ref_sipped_20, w_Ref_sipped_23, w_Ref_sipped_34, w_Ref_sipped_39, w_Ref_sipped_41, w_Ref_sipped_49, w_Ref_sipped_61, w_Ref_sipped_65, w_Ref_sipped_81, w_Ref_sipped_86, w_Ref_sipped_92, w_Ref_sipped_94, w_Ref_sipped_95, w_Ref_sipped_103, w_Ref_sipped_105, w_Ref_sipped_106, w_Ref_sipped_114, w_Ref_sipped_117, w_Ref_sipped_121, w_Ref_sipped_122, w_Ref_sipped_129, w_Ref_sipped_135, w_Ref_sipped_136, w_Ref_sipped_142, w_Ref_sipped_149, w_Ref_sipped_153, w_Ref_sipped_157, w_Ref_sipped_161, w_Ref_sipped_162, w_Ref_sipped_171, Option.isSome_none, b01, Bool.false_eq_true, if_false, if_true, nI_1, sm, vl, hB]
          | some B =>
            obtain ⟨b1, b2⟩ := z3 B hB
            simp only [w_Ref_sipped_0, w_Ref_sipped_5, w_Ref_sipped_8, w_Ref_sipped_17, w_Ref_sipped_20, w_Ref_sipped_23, w_Ref_sipped_34, w_Ref_sipped_39, w_Ref_sipped_41, w_Ref_sipped_49, w_Ref_sipped_61, w_Ref_sipped_65, w_Ref_sipped_81, w_Ref_sipped_86, w_Ref_sipped_92, w_Ref_sipped_94, w_Ref_sipped_95, w_Ref_sipped_103, w_Ref_sipped_105, w_Ref_sipped_106, w_Ref_sipped_114, w_Ref_sipped_117, w_Ref_sipped_121, w_Ref_sipped_122, w_Ref_sipped_129, w_Ref_sipped_135, w_Ref_sipped_136, w_Ref_sipped_142, w_Ref_sipped_149, w_Ref_sipped_153, w_Ref_sipped_157, w_Ref_sipped_161, w_Ref_sipped_162, w_Ref_sipped_171, c_110, f_110_0, p_110_0, f_110_1, f_110_2, f_110_3, f_110_4, f_110_5, p_110_5, f_110_6, f_110_7, p_110_7, f_110_8, p_110_8, f_110_9, p_110_9, f_110_10, p_110_10, f_110_11, p_110_11, f_110_12, p_110_12, f_110_13, p_110_13, f_110_14, f_110_15, f_110_16, p_110_16, f_110_17, f_110_18, p_110_18, f_110_19, p_110_19, f_110_20, f_110_21, p_110_21, f_110_22, p_110_22, f_110_23, f_110_24, f_110_25, p_110_25, f_110_26, f_110_27, f_110_28, f_110_29, f_110_30, f_110_31, p_110_31, f_110_32, p_110_32, f_110_33, p_110_33, f_110_34, p_110_34, f_110_35, f_110_36, f_110_37, f_110_38, Option.some.injEq, exists_eq_left', exists_eq_left, Option.toList_some, Option.toList_none, List.cons_append, List.nil_append, true_and, and_true, Option.map_some, Option.map_none, Option.isSome_some, b01, if_true, show ¬ ((1 : Int32) = 0) by decide, if_false, r_settledNow (d := d) (by omega) b1 b2.1 hW, nI_1, sm, vl, hB]
            by_cases hb : msk B.1 = nI st
            · simp only [hb, not_true_eq_false, if_false, if_true]
            · simp only [hb, not_false_eq_true, if_true, if_false]) (tP (wT W) ^ n) 0 (s, none, none, none, none) (by omega) offR.rf
        refine ⟨s', ?_, offR.ke ho⟩
        rw [x_ev_in rfl (Nat.le_of_ble_eq_true rfl)]
        rw [show x_ent (x_nL g_M 309) [.ref 110, .int (nI st), .int (nI n)] = [some (.ref 110), some (.int (nI st)), some (.int (nI n)), none, none, none, none, none, none, none] from rfl]
        simp only [w_Ref_sipped_0, w_Ref_sipped_5, w_Ref_sipped_8, w_Ref_sipped_17, w_Ref_sipped_20, w_Ref_sipped_23, w_Ref_sipped_34, w_Ref_sipped_39, w_Ref_sipped_41, w_Ref_sipped_49, w_Ref_sipped_61, w_Ref_sipped_65, w_Ref_sipped_81, w_Ref_sipped_86, w_Ref_sipped_92, w_Ref_sipped_94, w_Ref_sipped_95, w_Ref_sipped_103, w_Ref_sipped_105, w_Ref_sipped_106, w_Ref_sipped_114, w_Ref_sipped_117, w_Ref_sipped_121, w_Ref_sipped_122, w_Ref_sipped_129, w_Ref_sipped_135, w_Ref_sipped_136, w_Ref_sipped_142, w_Ref_sipped_149, w_Ref_sipped_153, w_Ref_sipped_157, w_Ref_sipped_161, w_Ref_sipped_162, w_Ref_sipped_171, c_110, f_110_0, p_110_0, f_110_1, f_110_2, f_110_3, f_110_4, f_110_5, p_110_5, f_110_6, f_110_7, p_110_7, f_110_8, p_110_8, f_110_9, p_110_9, f_110_10, p_110_10, f_110_11, p_110_11, f_110_12, p_110_12, f_110_13, p_110_13, f_110_14, f_110_15, f_110_16, p_110_16, f_110_17, f_110_18, p_110_18, f_110_19, p_110_19, f_110_20, f_110_21, p_110_21, f_110_22, p_110_22, f_110_23, f_110_24, f_110_25, p_110_25, f_110_26, f_110_27, f_110_28, f_110_29, f_110_30, f_110_31, p_110_31, f_110_32, p_110_32, f_110_33, p_110_33, f_110_34, p_110_34, f_110_35, f_110_36, f_110_37, f_110_38, Option.some.injEq, exists_eq_left', exists_eq_left, Option.toList_some, Option.toList_none, List.cons_append, List.nil_append, true_and, and_true, Option.map_some, Option.map_none, r_isTown (d := d) (by omega) hT, r_isPerson (d := d) (by omega) hT hW, r_isMatterI (d := d) (by omega) hT hW, r_isSet (d := d) (by omega) hT hW, r_allMatters (d := d) (by omega) hT hW, r_isClosed (d := d) (by omega) hT hW, r_sumOfAll (d := d) (by omega) hT hW, r_restsOf (d := d) (by omega) hT hW, r_in (d := d) (by omega), r_bit (d := d) (by omega), r_bits (d := d) (by omega), h1, show ¬ ((1 : Int32) = 0) by decide, if_false, e0, e4, g1, not_false_eq_true, if_true]
        refine (kc _).mpr ?_
        simp only [w_Ref_sipped_28 (l4 := nI n), w_Ref_sipped_49, show nI n ≤ nI n from Int32.le_refl _, if_true]
        refine (e _).mpr ?_
        simp only [w_Ref_sipped_55 (l5 := nI (tP (wT W) ^ n)), w_Ref_sipped_171, show nI (tP (wT W) ^ n) ≤ nI (tP (wT W) ^ n) from Int32.le_refl _, if_true, vl_rws]
end SIPPED2
