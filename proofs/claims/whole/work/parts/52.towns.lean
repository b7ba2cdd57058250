/-! TOWNS as a family, images (own work; the first rows are printed by wip/gen/p52.py) -/
abbrev g_TP : List Nat := [3, 14, 87, 95, 103]
section TOWNS
variable {xs : List Int32} {s : xS} {p : Nat}
theorem tp5 (hp : p ∈ g_TP) : p = 3 ∨ p = 14 ∨ p = 87 ∨ p = 95 ∨ p = 103 := by
  simpa [g_TP] using hp
theorem tw_c (hp : p ∈ g_TP) : x_cls (mkH xs s) p 9 = true := by
  rcases tp5 hp with rfl | rfl | rfl | rfl | rfl
  · exact c_3
  · exact c_14
  · exact c_87
  · exact c_95
  · exact c_103
theorem tw_f0 (hp : p ∈ g_TP) : x_fl (mkH xs s) p 9 0 = some (.int (s.1 p 0)) := by
  rcases tp5 hp with rfl | rfl | rfl | rfl | rfl
  · exact f_3_0
  · exact f_14_0
  · exact f_87_0
  · exact f_95_0
  · exact f_103_0
theorem tw_p0 (hp : p ∈ g_TP) (v : Int32) : x_fp (mkH xs s) p 9 0 (.int v) = some (mkH xs (s_p s p 0 v)) := by
  rcases tp5 hp with rfl | rfl | rfl | rfl | rfl
  · exact p_3_0 v
  · exact p_14_0 v
  · exact p_87_0 v
  · exact p_95_0 v
  · exact p_103_0 v
theorem tw_f1 (hp : p ∈ g_TP) : x_fl (mkH xs s) p 9 1 = some (.int (s.1 p 1)) := by
  rcases tp5 hp with rfl | rfl | rfl | rfl | rfl
  · exact f_3_1
  · exact f_14_1
  · exact f_87_1
  · exact f_95_1
  · exact f_103_1
theorem tw_p1 (hp : p ∈ g_TP) (v : Int32) : x_fp (mkH xs s) p 9 1 (.int v) = some (mkH xs (s_p s p 1 v)) := by
  rcases tp5 hp with rfl | rfl | rfl | rfl | rfl
  · exact p_3_1 v
  · exact p_14_1 v
  · exact p_87_1 v
  · exact p_95_1 v
  · exact p_103_1 v
theorem tw_f2 (hp : p ∈ g_TP) : x_fl (mkH xs s) p 9 2 = some (.int (s.1 p 2)) := by
  rcases tp5 hp with rfl | rfl | rfl | rfl | rfl
  · exact f_3_2
  · exact f_14_2
  · exact f_87_2
  · exact f_95_2
  · exact f_103_2
theorem tw_p2 (hp : p ∈ g_TP) (v : Int32) : x_fp (mkH xs s) p 9 2 (.int v) = some (mkH xs (s_p s p 2 v)) := by
  rcases tp5 hp with rfl | rfl | rfl | rfl | rfl
  · exact p_3_2 v
  · exact p_14_2 v
  · exact p_87_2 v
  · exact p_95_2 v
  · exact p_103_2 v
theorem tw_f3 (hp : p ∈ g_TP) : x_fl (mkH xs s) p 9 3 = some (.int (s.1 p 3)) := by
  rcases tp5 hp with rfl | rfl | rfl | rfl | rfl
  · exact f_3_3
  · exact f_14_3
  · exact f_87_3
  · exact f_95_3
  · exact f_103_3
theorem tw_p3 (hp : p ∈ g_TP) (v : Int32) : x_fp (mkH xs s) p 9 3 (.int v) = some (mkH xs (s_p s p 3 v)) := by
  rcases tp5 hp with rfl | rfl | rfl | rfl | rfl
  · exact p_3_3 v
  · exact p_14_3 v
  · exact p_87_3 v
  · exact p_95_3 v
  · exact p_103_3 v
theorem tw_f4 (hp : p ∈ g_TP) : x_fl (mkH xs s) p 9 4 = some (.int (s.1 p 4)) := by
  rcases tp5 hp with rfl | rfl | rfl | rfl | rfl
  · exact f_3_4
  · exact f_14_4
  · exact f_87_4
  · exact f_95_4
  · exact f_103_4
theorem tw_p4 (hp : p ∈ g_TP) (v : Int32) : x_fp (mkH xs s) p 9 4 (.int v) = some (mkH xs (s_p s p 4 v)) := by
  rcases tp5 hp with rfl | rfl | rfl | rfl | rfl
  · exact p_3_4 v
  · exact p_14_4 v
  · exact p_87_4 v
  · exact p_95_4 v
  · exact p_103_4 v
theorem tw_f5 (hp : p ∈ g_TP) : x_fl (mkH xs s) p 9 5 = some (.int (s.1 p 5)) := by
  rcases tp5 hp with rfl | rfl | rfl | rfl | rfl
  · exact f_3_5
  · exact f_14_5
  · exact f_87_5
  · exact f_95_5
  · exact f_103_5
theorem tw_p5 (hp : p ∈ g_TP) (v : Int32) : x_fp (mkH xs s) p 9 5 (.int v) = some (mkH xs (s_p s p 5 v)) := by
  rcases tp5 hp with rfl | rfl | rfl | rfl | rfl
  · exact p_3_5 v
  · exact p_14_5 v
  · exact p_87_5 v
  · exact p_95_5 v
  · exact p_103_5 v
theorem tw_f6 (hp : p ∈ g_TP) : x_fl (mkH xs s) p 9 6 = some (.int (s.1 p 6)) := by
  rcases tp5 hp with rfl | rfl | rfl | rfl | rfl
  · exact f_3_6
  · exact f_14_6
  · exact f_87_6
  · exact f_95_6
  · exact f_103_6
theorem tw_p6 (hp : p ∈ g_TP) (v : Int32) : x_fp (mkH xs s) p 9 6 (.int v) = some (mkH xs (s_p s p 6 v)) := by
  rcases tp5 hp with rfl | rfl | rfl | rfl | rfl
  · exact p_3_6 v
  · exact p_14_6 v
  · exact p_87_6 v
  · exact p_95_6 v
  · exact p_103_6 v
theorem tw_f7 (hp : p ∈ g_TP) : x_fl (mkH xs s) p 9 7 = some (.int (s.1 p 7)) := by
  rcases tp5 hp with rfl | rfl | rfl | rfl | rfl
  · exact f_3_7
  · exact f_14_7
  · exact f_87_7
  · exact f_95_7
  · exact f_103_7
theorem tw_p7 (hp : p ∈ g_TP) (v : Int32) : x_fp (mkH xs s) p 9 7 (.int v) = some (mkH xs (s_p s p 7 v)) := by
  rcases tp5 hp with rfl | rfl | rfl | rfl | rfl
  · exact p_3_7 v
  · exact p_14_7 v
  · exact p_87_7 v
  · exact p_95_7 v
  · exact p_103_7 v
theorem tw_f8 (hp : p ∈ g_TP) : x_fl (mkH xs s) p 9 8 = some (.int (s.1 p 8)) := by
  rcases tp5 hp with rfl | rfl | rfl | rfl | rfl
  · exact f_3_8
  · exact f_14_8
  · exact f_87_8
  · exact f_95_8
  · exact f_103_8
theorem tw_p8 (hp : p ∈ g_TP) (v : Int32) : x_fp (mkH xs s) p 9 8 (.int v) = some (mkH xs (s_p s p 8 v)) := by
  rcases tp5 hp with rfl | rfl | rfl | rfl | rfl
  · exact p_3_8 v
  · exact p_14_8 v
  · exact p_87_8 v
  · exact p_95_8 v
  · exact p_103_8 v
theorem tw_f9 (hp : p ∈ g_TP) : x_fl (mkH xs s) p 9 9 = some (.ref (p + 1)) := by
  rcases tp5 hp with rfl | rfl | rfl | rfl | rfl
  · exact f_3_9
  · exact f_14_9
  · exact f_87_9
  · exact f_95_9
  · exact f_103_9
theorem tw_f10 (hp : p ∈ g_TP) : x_fl (mkH xs s) p 9 10 = some (.ref (p + 2)) := by
  rcases tp5 hp with rfl | rfl | rfl | rfl | rfl
  · exact f_3_10
  · exact f_14_10
  · exact f_87_10
  · exact f_95_10
  · exact f_103_10
theorem tw_f11 (hp : p ∈ g_TP) : x_fl (mkH xs s) p 9 11 = some (.ref (p + 3)) := by
  rcases tp5 hp with rfl | rfl | rfl | rfl | rfl
  · exact f_3_11
  · exact f_14_11
  · exact f_87_11
  · exact f_95_11
  · exact f_103_11
theorem tw_f12 (hp : p ∈ g_TP) : x_fl (mkH xs s) p 9 12 = some (.ref (p + 4)) := by
  rcases tp5 hp with rfl | rfl | rfl | rfl | rfl
  · exact f_3_12
  · exact f_14_12
  · exact f_87_12
  · exact f_95_12
  · exact f_103_12
theorem tw_f13 (hp : p ∈ g_TP) : x_fl (mkH xs s) p 9 13 = some (.ref (p + 5)) := by
  rcases tp5 hp with rfl | rfl | rfl | rfl | rfl
  · exact f_3_13
  · exact f_14_13
  · exact f_87_13
  · exact f_95_13
  · exact f_103_13
theorem tw_g1 (hp : p ∈ g_TP) : ∀ s : xS, g_cell (p + 1) s = xI 0 ((List.range 6).map (s.1 (p + 1))) := by
  intro s
  rcases tp5 hp with rfl | rfl | rfl | rfl | rfl <;> rfl
theorem tw_g2 (hp : p ∈ g_TP) : ∀ s : xS, g_cell (p + 2) s = xI 0 ((List.range 6).map (s.1 (p + 2))) := by
  intro s
  rcases tp5 hp with rfl | rfl | rfl | rfl | rfl <;> rfl
theorem tw_g3 (hp : p ∈ g_TP) : ∀ s : xS, g_cell (p + 3) s = xI 0 ((List.range 16).map (s.1 (p + 3))) := by
  intro s
  rcases tp5 hp with rfl | rfl | rfl | rfl | rfl <;> rfl
theorem tw_g4 (hp : p ∈ g_TP) : ∀ s : xS, g_cell (p + 4) s = xI 0 ((List.range 8).map (s.1 (p + 4))) := by
  intro s
  rcases tp5 hp with rfl | rfl | rfl | rfl | rfl <;> rfl
theorem tw_g5 (hp : p ∈ g_TP) : ∀ s : xS, g_cell (p + 5) s = xI 0 ((List.range 48).map (s.1 (p + 5))) := by
  intro s
  rcases tp5 hp with rfl | rfl | rfl | rfl | rfl <;> rfl
theorem tp_lo (hp : p ∈ g_TP) : 3 ≤ p ∧ p + 5 < 110 := by
  rcases tp5 hp with rfl | rfl | rfl | rfl | rfl <;> decide
theorem tp_ap : ∀ p ∈ g_TP, ∀ p' ∈ g_TP, p ≠ p' → p + 5 < p' ∨ p' + 5 < p := by decide
theorem tw_cp1 {p' : Nat} (hp : p ∈ g_TP) (hp' : p' ∈ g_TP) : x_cp (mkH xs s) (p' + 1) 0 (p + 1) 0 6 = some (mkH xs (s_c s (p' + 1) 0 (p + 1) 0 6)) := by
  have h1 := tp_lo hp
  have h2 := tp_lo hp'
  have := mk_cp (xs := xs) (s := s) (f := p' + 1) (d := p + 1) (nf := 6) (nd := 6) (by omega) (by omega) (by omega) (by omega) (tw_g1 hp') (tw_g1 hp) (sp := 0) (dp := 0) (n := 6) (by decide) (by decide) (by decide) (by decide) (by decide)
  exact this
theorem tw_cp2 {p' : Nat} (hp : p ∈ g_TP) (hp' : p' ∈ g_TP) : x_cp (mkH xs s) (p' + 2) 0 (p + 2) 0 6 = some (mkH xs (s_c s (p' + 2) 0 (p + 2) 0 6)) := by
  have h1 := tp_lo hp
  have h2 := tp_lo hp'
  have := mk_cp (xs := xs) (s := s) (f := p' + 2) (d := p + 2) (nf := 6) (nd := 6) (by omega) (by omega) (by omega) (by omega) (tw_g2 hp') (tw_g2 hp) (sp := 0) (dp := 0) (n := 6) (by decide) (by decide) (by decide) (by decide) (by decide)
  exact this
theorem tw_cp3 {p' : Nat} (hp : p ∈ g_TP) (hp' : p' ∈ g_TP) : x_cp (mkH xs s) (p' + 3) 0 (p + 3) 0 16 = some (mkH xs (s_c s (p' + 3) 0 (p + 3) 0 16)) := by
  have h1 := tp_lo hp
  have h2 := tp_lo hp'
  have := mk_cp (xs := xs) (s := s) (f := p' + 3) (d := p + 3) (nf := 16) (nd := 16) (by omega) (by omega) (by omega) (by omega) (tw_g3 hp') (tw_g3 hp) (sp := 0) (dp := 0) (n := 16) (by decide) (by decide) (by decide) (by decide) (by decide)
  exact this
theorem tw_cp4 {p' : Nat} (hp : p ∈ g_TP) (hp' : p' ∈ g_TP) : x_cp (mkH xs s) (p' + 4) 0 (p + 4) 0 8 = some (mkH xs (s_c s (p' + 4) 0 (p + 4) 0 8)) := by
  have h1 := tp_lo hp
  have h2 := tp_lo hp'
  have := mk_cp (xs := xs) (s := s) (f := p' + 4) (d := p + 4) (nf := 8) (nd := 8) (by omega) (by omega) (by omega) (by omega) (tw_g4 hp') (tw_g4 hp) (sp := 0) (dp := 0) (n := 8) (by decide) (by decide) (by decide) (by decide) (by decide)
  exact this
theorem tw_cp5 {p' : Nat} (hp : p ∈ g_TP) (hp' : p' ∈ g_TP) : x_cp (mkH xs s) (p' + 5) 0 (p + 5) 0 48 = some (mkH xs (s_c s (p' + 5) 0 (p + 5) 0 48)) := by
  have h1 := tp_lo hp
  have h2 := tp_lo hp'
  have := mk_cp (xs := xs) (s := s) (f := p' + 5) (d := p + 5) (nf := 48) (nd := 48) (by omega) (by omega) (by omega) (by omega) (tw_g5 hp') (tw_g5 hp) (sp := 0) (dp := 0) (n := 48) (by decide) (by decide) (by decide) (by decide) (by decide)
  exact this
theorem im_c {k : Nat} (hk : k < 3) : x_cls (mkH xs s) (86 + 8 * k) 2 = true := by
  rcases (show k = 0 ∨ k = 1 ∨ k = 2 by omega) with rfl | rfl | rfl
  · exact c_86
  · exact c_94
  · exact c_102
theorem im_0 {k : Nat} (hk : k < 3) : x_fl (mkH xs s) (86 + 8 * k) 2 0 = some (.int (s.1 (86 + 8 * k) 0)) := by
  rcases (show k = 0 ∨ k = 1 ∨ k = 2 by omega) with rfl | rfl | rfl
  · exact f_86_0
  · exact f_94_0
  · exact f_102_0
theorem im_1 {k : Nat} (hk : k < 3) : x_fl (mkH xs s) (86 + 8 * k) 2 1 = some (.ref (87 + 8 * k)) := by
  rcases (show k = 0 ∨ k = 1 ∨ k = 2 by omega) with rfl | rfl | rfl
  · exact f_86_1
  · exact f_94_1
  · exact f_102_1
theorem im_2 {k : Nat} (hk : k < 3) : x_fl (mkH xs s) (86 + 8 * k) 2 2 = some (.ref (93 + 8 * k)) := by
  rcases (show k = 0 ∨ k = 1 ∨ k = 2 by omega) with rfl | rfl | rfl
  · exact f_86_2
  · exact f_94_2
  · exact f_102_2
theorem im_3 {k : Nat} (hk : k < 3) : x_fl (mkH xs s) (86 + 8 * k) 2 3 = some (.int (s.1 (86 + 8 * k) 3)) := by
  rcases (show k = 0 ∨ k = 1 ∨ k = 2 by omega) with rfl | rfl | rfl
  · exact f_86_3
  · exact f_94_3
  · exact f_102_3
theorem im_p0 {k : Nat} (hk : k < 3) : x_fp (mkH xs s) (86 + 8 * k) 2 0 (.int 1) = some (mkH xs (s_p s (86 + 8 * k) 0 1)) := by
  rcases (show k = 0 ∨ k = 1 ∨ k = 2 by omega) with rfl | rfl | rfl
  · exact p_86_0_1
  · exact p_94_0_1
  · exact p_102_0_1
theorem im_p3 {k : Nat} (hk : k < 3) (v : Int32) : x_fp (mkH xs s) (86 + 8 * k) 2 3 (.int v) = some (mkH xs (s_p s (86 + 8 * k) 3 v)) := by
  rcases (show k = 0 ∨ k = 1 ∨ k = 2 by omega) with rfl | rfl | rfl
  · exact p_86_3 v
  · exact p_94_3 v
  · exact p_102_3 v
theorem im_g {k : Nat} (hk : k < 3) : ∀ s : xS, g_cell (93 + 8 * k) s = xI 0 ((List.range 60).map (s.1 (93 + 8 * k))) := by
  intro s
  rcases (show k = 0 ∨ k = 1 ∨ k = 2 by omega) with rfl | rfl | rfl <;> rfl
theorem im_tp {k : Nat} (hk : k < 3) : 87 + 8 * k ∈ g_TP := by
  rcases (show k = 0 ∨ k = 1 ∨ k = 2 by omega) with rfl | rfl | rfl <;> decide
theorem im_q {k : Nat} (hk : k < 3) : x_rd (fun k => 86 + 8 * k) 3 (nI k) = some (86 + 8 * k) := x_rd_nI hk (by omega)
theorem im_cp1 {k : Nat} (hk : k < 3) : x_cp (mkH xs s) 12 0 (93 + 8 * k) 0 60 = some (mkH xs (s_c s 12 0 (93 + 8 * k) 0 60)) := by
  have := mk_cp (xs := xs) (s := s) (f := 12) (d := 93 + 8 * k) (nf := 60) (nd := 60) (by omega) (by omega) (by omega) (by omega) (fun _ => rfl) (im_g hk) (sp := 0) (dp := 0) (n := 60) (by decide) (by decide) (by decide) (by decide) (by decide)
  exact this
theorem im_cp2 {k : Nat} (hk : k < 3) : x_cp (mkH xs s) (93 + 8 * k) 0 12 0 60 = some (mkH xs (s_c s (93 + 8 * k) 0 12 0 60)) := by
  have := mk_cp (xs := xs) (s := s) (f := 93 + 8 * k) (d := 12) (nf := 60) (nd := 60) (by omega) (by omega) (by omega) (by omega) (im_g hk) (fun _ => rfl) (sp := 0) (dp := 0) (n := 60) (by decide) (by decide) (by decide) (by decide) (by decide)
  exact this
end TOWNS
section TOWNS2
variable {P : Nat → List Value → Option Value} {d : Nat} {xs : List Int32} {s : xS} {T : Tw}
/-- the TOWN at a in the cells from b on -/
theorem clsT_cp {s s' : xS} {a b : Nat} {T : Tw} (hW : tWf T) (h0 : ∀ k, k < 9 → s'.1 b k = s.1 a k) (h1 : ∀ k, k < 6 → s'.1 (b + 1) k = s.1 (a + 1) k) (h2 : ∀ k, k < 6 → s'.1 (b + 2) k = s.1 (a + 2) k) (h3 : ∀ k, k < 16 → s'.1 (b + 3) k = s.1 (a + 3) k) (h4 : ∀ k, k < 8 → s'.1 (b + 4) k = s.1 (a + 4) k) (h5 : ∀ k, k < 48 → s'.1 (b + 5) k = s.1 (a + 5) k) (hT : clsT s a T) : clsT s' b T := by
  have w1 := hW.1
  have w2 := hW.2.1
  obtain ⟨⟨t0, t1, t2, t3, t4, t5⟩, t6, t7, t8, t9, t10, t11, t12, t13⟩ := hT
  refine ⟨⟨?_, ?_, ?_, ?_, ?_, ?_⟩, ?_, ?_, ?_, fun p hp => ?_, fun p hp => ?_, fun m hm => ?_, fun m hm => ?_, fun p hp m hm => ?_⟩
  · rw [h0 0 (by omega)]; exact t0
  · rw [h0 1 (by omega)]; exact t1
  · rw [h0 2 (by omega)]; exact t2
  · rw [h0 3 (by omega)]; exact t3
  · rw [h0 4 (by omega)]; exact t4
  · rw [h0 5 (by omega)]; exact t5
  · rw [h0 6 (by omega)]; exact t6
  · rw [h0 7 (by omega)]; exact t7
  · rw [h0 8 (by omega)]; exact t8
  · rw [h1 p (by omega)]; exact t9 p hp
  · rw [h2 p (by omega)]; exact t10 p hp
  · rw [h3 (2 * m) (by omega), h3 (2 * m + 1) (by omega)]; exact t11 m hm
  · rw [h4 m (by omega)]; exact t12 m hm
  · rw [h5 (8 * p + m) (by omega)]; exact t13 p hp m hm
set_option maxHeartbeats 8000000 in
theorem t_copyFrom (hd : 1 ≤ d) {p p' : Nat} (hp : p ∈ g_TP) (hp' : p' ∈ g_TP) (hne : p ≠ p') : ∃ s', x_ev g_M P d 82 [.ref p, .ref p'] (mkH xs s) (none, mkH xs s') ∧ (∀ q, q < p ∨ p + 5 < q → s'.1 q = s.1 q) ∧ s'.2 = s.2 ∧ ∀ T, tWf T → clsT s p' T → clsT s' p T := by
  have hap := tp_ap p hp p' hp' hne
  generalize hz : s_p (s_p (s_p (s_p (s_p (s_p (s_p (s_p (s_p s p 0 (s.1 p' 0)) p 1 (s.1 p' 1)) p 2 (s.1 p' 2)) p 3 (s.1 p' 3)) p 4 (s.1 p' 4)) p 5 (s.1 p' 5)) p 6 (s.1 p' 6)) p 7 (s.1 p' 7)) p 8 (s.1 p' 8) = z
  have hn1 : ¬ p' = p := fun e => hne e.symm
  have zp : ∀ k, k < 9 → z.1 p k = s.1 p' k := by
    intro k hk
    rw [← hz]
    rcases (show k = 0 ∨ k = 1 ∨ k = 2 ∨ k = 3 ∨ k = 4 ∨ k = 5 ∨ k = 6 ∨ k = 7 ∨ k = 8 by omega) with rfl | rfl | rfl | rfl | rfl | rfl | rfl | rfl | rfl <;> simp [s_p]
  have zo : ∀ q, q ≠ p → z.1 q = s.1 q := fun q hq => by
    rw [← hz]
    funext k
    simp [s_p, hq]
  have zl : z.2 = s.2 := by rw [← hz]; rfl
  generalize hy : s_c (s_c (s_c (s_c (s_c z (p' + 1) 0 (p + 1) 0 6) (p' + 2) 0 (p + 2) 0 6) (p' + 3) 0 (p + 3) 0 16) (p' + 4) 0 (p + 4) 0 8) (p' + 5) 0 (p + 5) 0 48 = y
  have n2 : ¬ p' + 2 = p + 1 := by omega
  have n3 : ¬ p' + 3 = p + 1 ∧ ¬ p' + 3 = p + 2 := by omega
  have n4 : ¬ p' + 4 = p + 1 ∧ ¬ p' + 4 = p + 2 ∧ ¬ p' + 4 = p + 3 := by omega
  have n5 : ¬ p' + 5 = p + 1 ∧ ¬ p' + 5 = p + 2 ∧ ¬ p' + 5 = p + 3 ∧ ¬ p' + 5 = p + 4 := by omega
  have n6 : ¬ p' + 1 = p ∧ ¬ p' + 2 = p ∧ ¬ p' + 3 = p ∧ ¬ p' + 4 = p ∧ ¬ p' + 5 = p := by omega
  refine ⟨y, ?_, fun q hq => ?_, ?_, fun T hW hT => ?_⟩
  · obtain ⟨d, rfl⟩ := x_1 (d := d) (by omega)
    rw [x_ev_in rfl (Nat.le_of_ble_eq_true rfl)]
    rw [show x_ent (x_nL g_M 82) [.ref p, .ref p'] = [some (.ref p), some (.ref p')] from rfl]
    have e1 : ∀ v0, (s_p s p 0 v0).1 p' 1 = s.1 p' 1 := fun v0 => by simp [s_p, hn1]
    have e2 : ∀ v0 v1, (s_p (s_p s p 0 v0) p 1 v1).1 p' 2 = s.1 p' 2 := fun v0 v1 => by simp [s_p, hn1]
    have e3 : ∀ v0 v1 v2, (s_p (s_p (s_p s p 0 v0) p 1 v1) p 2 v2).1 p' 3 = s.1 p' 3 := fun v0 v1 v2 => by simp [s_p, hn1]
    have e4 : ∀ v0 v1 v2 v3, (s_p (s_p (s_p (s_p s p 0 v0) p 1 v1) p 2 v2) p 3 v3).1 p' 4 = s.1 p' 4 := fun v0 v1 v2 v3 => by simp [s_p, hn1]
    have e5 : ∀ v0 v1 v2 v3 v4, (s_p (s_p (s_p (s_p (s_p s p 0 v0) p 1 v1) p 2 v2) p 3 v3) p 4 v4).1 p' 5 = s.1 p' 5 := fun v0 v1 v2 v3 v4 => by simp [s_p, hn1]
    have e6 : ∀ v0 v1 v2 v3 v4 v5, (s_p (s_p (s_p (s_p (s_p (s_p s p 0 v0) p 1 v1) p 2 v2) p 3 v3) p 4 v4) p 5 v5).1 p' 6 = s.1 p' 6 := fun v0 v1 v2 v3 v4 v5 => by simp [s_p, hn1]
    have e7 : ∀ v0 v1 v2 v3 v4 v5 v6, (s_p (s_p (s_p (s_p (s_p (s_p (s_p s p 0 v0) p 1 v1) p 2 v2) p 3 v3) p 4 v4) p 5 v5) p 6 v6).1 p' 7 = s.1 p' 7 := fun v0 v1 v2 v3 v4 v5 v6 => by simp [s_p, hn1]
    have e8 : ∀ v0 v1 v2 v3 v4 v5 v6 v7, (s_p (s_p (s_p (s_p (s_p (s_p (s_p (s_p s p 0 v0) p 1 v1) p 2 v2) p 3 v3) p 4 v4) p 5 v5) p 6 v6) p 7 v7).1 p' 8 = s.1 p' 8 := fun v0 v1 v2 v3 v4 v5 v6 v7 => by simp [s_p, hn1]
    simp only [w_Town_copyFrom_0, w_Town_copyFrom_5, w_Town_copyFrom_8, w_Town_copyFrom_13, w_Town_copyFrom_16, w_Town_copyFrom_21, w_Town_copyFrom_24, w_Town_copyFrom_29, w_Town_copyFrom_32, w_Town_copyFrom_37, w_Town_copyFrom_40, w_Town_copyFrom_45, w_Town_copyFrom_48, w_Town_copyFrom_53, w_Town_copyFrom_56, w_Town_copyFrom_61, w_Town_copyFrom_64, w_Town_copyFrom_69, w_Town_copyFrom_72, w_Town_copyFrom_76, w_Town_copyFrom_81, w_Town_copyFrom_87, w_Town_copyFrom_91, w_Town_copyFrom_96, w_Town_copyFrom_102, w_Town_copyFrom_106, w_Town_copyFrom_111, w_Town_copyFrom_117, w_Town_copyFrom_121, w_Town_copyFrom_126, w_Town_copyFrom_132, w_Town_copyFrom_136, w_Town_copyFrom_141, w_Town_copyFrom_147, tw_f0 hp', tw_f1 hp', tw_f2 hp', tw_f3 hp', tw_f4 hp', tw_f5 hp', tw_f6 hp', tw_f7 hp', tw_f8 hp', tw_p0 hp, tw_p1 hp, tw_p2 hp, tw_p3 hp, tw_p4 hp, tw_p5 hp, tw_p6 hp, tw_p7 hp, tw_p8 hp, tw_f9 hp, tw_f10 hp, tw_f11 hp, tw_f12 hp, tw_f13 hp, tw_f9 hp', tw_f10 hp', tw_f11 hp', tw_f12 hp', tw_f13 hp', Option.some.injEq, exists_eq_left', exists_eq_left, Option.toList_some, Option.toList_none, List.cons_append, List.nil_append, true_and, and_true, Option.map_some, Option.map_none, e1, e2, e3, e4, e5, e6, e7, e8, hz, tw_cp1 hp hp', tw_cp2 hp hp', tw_cp3 hp hp', tw_cp4 hp hp', tw_cp5 hp hp', hy]
  · rw [← zo q (by omega), ← hy]
    funext k
    have g1 : ¬ q = p + 1 := by omega
    have g2 : ¬ q = p + 2 := by omega
    have g3 : ¬ q = p + 3 := by omega
    have g4 : ¬ q = p + 4 := by omega
    have g5 : ¬ q = p + 5 := by omega
    simp [s_c, g1, g2, g3, g4, g5]
  · rw [← zl, ← hy]; rfl
  · refine clsT_cp hW (fun k hk => ?_) (fun k hk => ?_) (fun k hk => ?_) (fun k hk => ?_) (fun k hk => ?_) (fun k hk => ?_) hT
    · rw [← zp k hk, ← hy]
      simp [s_c]
    · rw [← zo (p' + 1) (by omega), ← hy]
      simp [s_c, hk]
    · rw [← zo (p' + 2) (by omega), ← hy]
      simp [s_c, hk, n2]
    · rw [← zo (p' + 3) (by omega), ← hy]
      simp [s_c, hk, n3]
    · rw [← zo (p' + 4) (by omega), ← hy]
      simp [s_c, hk, n4]
    · rw [← zo (p' + 5) (by omega), ← hy]
      simp [s_c, hk, n5]
end TOWNS2
