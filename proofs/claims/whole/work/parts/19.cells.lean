/-! THE CELLS of the two objects, as numbers by cell and place (own work; the list is printed by wip/gen/p19.py) -/
abbrev xS : Type := (Nat → Nat → Int32) × (Nat → Nat → Int64)
def g_lay : List ((Nat → Int32) → (Nat → Int64) → xC) := [fun _ _ => xI 9 [],
  fun i l => xO 11 [.ref 2, .int (i 1), .ref 13, .ref 3, .ref 9, .ref 12, .int (i 6), .ref 20, .ref 25, .ref 31, .ref 48, .ref 65, .ref 72, .ref 76, .ref 85],
  fun i _ => xI 1 ((List.range 900).map i),
  fun i l => xO 9 [.int (i 0), .int (i 1), .int (i 2), .int (i 3), .int (i 4), .int (i 5), .int (i 6), .int (i 7), .int (i 8), .ref 4, .ref 5, .ref 6, .ref 7, .ref 8],
  fun i _ => xI 0 ((List.range 6).map i),
  fun i _ => xI 0 ((List.range 6).map i),
  fun i _ => xI 0 ((List.range 16).map i),
  fun i _ => xI 0 ((List.range 8).map i),
  fun i _ => xI 0 ((List.range 48).map i),
  fun i l => xO 8 [.ref 3, .int (i 1), .int (i 2), .int (i 3), .int (i 4), .ref 10, .ref 11],
  fun i _ => xI 0 ((List.range 8).map i),
  fun i _ => xI 0 ((List.range 6).map i),
  fun i _ => xI 0 ((List.range 60).map i),
  fun i l => xO 4 [.ref 2, .ref 14, .int (i 2), .int (i 3), .int (i 4), .int (i 5), .int (i 6), .int (i 7)],
  fun i l => xO 9 [.int (i 0), .int (i 1), .int (i 2), .int (i 3), .int (i 4), .int (i 5), .int (i 6), .int (i 7), .int (i 8), .ref 15, .ref 16, .ref 17, .ref 18, .ref 19],
  fun i _ => xI 0 ((List.range 6).map i),
  fun i _ => xI 0 ((List.range 6).map i),
  fun i _ => xI 0 ((List.range 16).map i),
  fun i _ => xI 0 ((List.range 8).map i),
  fun i _ => xI 0 ((List.range 48).map i),
  fun i l => xO 0 [.ref 3, .ref 22, .ref 21, .int (i 3), .int (i 4)],
  fun i _ => xI 0 ((List.range 80).map i),
  fun i l => xO 8 [.ref 3, .int (i 1), .int (i 2), .int (i 3), .int (i 4), .ref 23, .ref 24],
  fun i _ => xI 0 ((List.range 8).map i),
  fun i _ => xI 0 ((List.range 6).map i),
  fun i l => xO 5 [.ref 3, .ref 9, .ref 26, .ref 27, .ref 28, .ref 29, .ref 30, .int (i 7)],
  fun i _ => xI 0 ((List.range 256).map i),
  fun i _ => xI 0 ((List.range 8).map i),
  fun i _ => xI 0 ((List.range 256).map i),
  fun i _ => xI 0 ((List.range 1536).map i),
  fun i _ => xI 0 ((List.range 8).map i),
  fun i l => xO 1 [.ref 3, .ref 32, .int (i 2), .int (i 3), .int (i 4), .int (i 5)],
  fun _ _ => xQ 4 [some 33, some 36, some 39, some 42, some 45],
  fun i l => xO 8 [.ref 3, .int (i 1), .int (i 2), .int (i 3), .int (i 4), .ref 34, .ref 35],
  fun i _ => xI 0 ((List.range 8).map i),
  fun i _ => xI 0 ((List.range 6).map i),
  fun i l => xO 8 [.ref 3, .int (i 1), .int (i 2), .int (i 3), .int (i 4), .ref 37, .ref 38],
  fun i _ => xI 0 ((List.range 8).map i),
  fun i _ => xI 0 ((List.range 6).map i),
  fun i l => xO 8 [.ref 3, .int (i 1), .int (i 2), .int (i 3), .int (i 4), .ref 40, .ref 41],
  fun i _ => xI 0 ((List.range 8).map i),
  fun i _ => xI 0 ((List.range 6).map i),
  fun i l => xO 8 [.ref 3, .int (i 1), .int (i 2), .int (i 3), .int (i 4), .ref 43, .ref 44],
  fun i _ => xI 0 ((List.range 8).map i),
  fun i _ => xI 0 ((List.range 6).map i),
  fun i l => xO 8 [.ref 3, .int (i 1), .int (i 2), .int (i 3), .int (i 4), .ref 46, .ref 47],
  fun i _ => xI 0 ((List.range 8).map i),
  fun i _ => xI 0 ((List.range 6).map i),
  fun i l => xO 6 [.ref 3, .ref 9, .ref 49, .int (i 3), .int (i 4)],
  fun _ _ => xQ 4 [some 50, some 53, some 56, some 59, some 62],
  fun i l => xO 8 [.ref 3, .int (i 1), .int (i 2), .int (i 3), .int (i 4), .ref 51, .ref 52],
  fun i _ => xI 0 ((List.range 8).map i),
  fun i _ => xI 0 ((List.range 6).map i),
  fun i l => xO 8 [.ref 3, .int (i 1), .int (i 2), .int (i 3), .int (i 4), .ref 54, .ref 55],
  fun i _ => xI 0 ((List.range 8).map i),
  fun i _ => xI 0 ((List.range 6).map i),
  fun i l => xO 8 [.ref 3, .int (i 1), .int (i 2), .int (i 3), .int (i 4), .ref 57, .ref 58],
  fun i _ => xI 0 ((List.range 8).map i),
  fun i _ => xI 0 ((List.range 6).map i),
  fun i l => xO 8 [.ref 3, .int (i 1), .int (i 2), .int (i 3), .int (i 4), .ref 60, .ref 61],
  fun i _ => xI 0 ((List.range 8).map i),
  fun i _ => xI 0 ((List.range 6).map i),
  fun i l => xO 8 [.ref 3, .int (i 1), .int (i 2), .int (i 3), .int (i 4), .ref 63, .ref 64],
  fun i _ => xI 0 ((List.range 8).map i),
  fun i _ => xI 0 ((List.range 6).map i),
  fun i l => xO 3 [.ref 66, .ref 69],
  fun i l => xO 8 [.ref 3, .int (i 1), .int (i 2), .int (i 3), .int (i 4), .ref 67, .ref 68],
  fun i _ => xI 0 ((List.range 8).map i),
  fun i _ => xI 0 ((List.range 6).map i),
  fun i l => xO 8 [.ref 3, .int (i 1), .int (i 2), .int (i 3), .int (i 4), .ref 70, .ref 71],
  fun i _ => xI 0 ((List.range 8).map i),
  fun i _ => xI 0 ((List.range 6).map i),
  fun i l => xO 10 [.ref 3, .ref 73, .long (l 2), .int (i 3), .int (i 4)],
  fun i l => xO 8 [.ref 3, .int (i 1), .int (i 2), .int (i 3), .int (i 4), .ref 74, .ref 75],
  fun i _ => xI 0 ((List.range 8).map i),
  fun i _ => xI 0 ((List.range 6).map i),
  fun _ _ => xQ 5 [some 77, some 79, some 81, some 83],
  fun i l => xO 7 [.int (i 0), .int (i 1), .int (i 2), .ref 78],
  fun _ l => xL ((List.range 60).map l),
  fun i l => xO 7 [.int (i 0), .int (i 1), .int (i 2), .ref 80],
  fun _ l => xL ((List.range 60).map l),
  fun i l => xO 7 [.int (i 0), .int (i 1), .int (i 2), .ref 82],
  fun _ l => xL ((List.range 60).map l),
  fun i l => xO 7 [.int (i 0), .int (i 1), .int (i 2), .ref 84],
  fun _ l => xL ((List.range 60).map l),
  fun _ _ => xQ 6 [some 86, some 94, some 102],
  fun i l => xO 2 [.int (i 0), .ref 87, .ref 93, .int (i 3)],
  fun i l => xO 9 [.int (i 0), .int (i 1), .int (i 2), .int (i 3), .int (i 4), .int (i 5), .int (i 6), .int (i 7), .int (i 8), .ref 88, .ref 89, .ref 90, .ref 91, .ref 92],
  fun i _ => xI 0 ((List.range 6).map i),
  fun i _ => xI 0 ((List.range 6).map i),
  fun i _ => xI 0 ((List.range 16).map i),
  fun i _ => xI 0 ((List.range 8).map i),
  fun i _ => xI 0 ((List.range 48).map i),
  fun i _ => xI 0 ((List.range 60).map i),
  fun i l => xO 2 [.int (i 0), .ref 95, .ref 101, .int (i 3)],
  fun i l => xO 9 [.int (i 0), .int (i 1), .int (i 2), .int (i 3), .int (i 4), .int (i 5), .int (i 6), .int (i 7), .int (i 8), .ref 96, .ref 97, .ref 98, .ref 99, .ref 100],
  fun i _ => xI 0 ((List.range 6).map i),
  fun i _ => xI 0 ((List.range 6).map i),
  fun i _ => xI 0 ((List.range 16).map i),
  fun i _ => xI 0 ((List.range 8).map i),
  fun i _ => xI 0 ((List.range 48).map i),
  fun i _ => xI 0 ((List.range 60).map i),
  fun i l => xO 2 [.int (i 0), .ref 103, .ref 109, .int (i 3)],
  fun i l => xO 9 [.int (i 0), .int (i 1), .int (i 2), .int (i 3), .int (i 4), .int (i 5), .int (i 6), .int (i 7), .int (i 8), .ref 104, .ref 105, .ref 106, .ref 107, .ref 108],
  fun i _ => xI 0 ((List.range 6).map i),
  fun i _ => xI 0 ((List.range 6).map i),
  fun i _ => xI 0 ((List.range 16).map i),
  fun i _ => xI 0 ((List.range 8).map i),
  fun i _ => xI 0 ((List.range 48).map i),
  fun i _ => xI 0 ((List.range 60).map i),
  fun i l => xO 12 [.int (i 0), .ref 111, .ref 112, .ref 113, .ref 114, .int (i 5), .ref 115, .int (i 7), .int (i 8), .int (i 9), .int (i 10), .int (i 11), .int (i 12), .int (i 13), .ref 116, .ref 117, .int (i 16), .ref 118, .int (i 18), .int (i 19), .ref 119, .int (i 21), .int (i 22), .ref 120, .ref 121, .int (i 25), .ref 122, .ref 123, .ref 124, .ref 125, .ref 126, .int (i 31), .long (l 32), .int (i 33), .int (i 34), .ref 127, .ref 128, .ref 129, .ref 130],
  fun i _ => xI 0 ((List.range 135).map i),
  fun i _ => xI 0 ((List.range 405).map i),
  fun i _ => xI 2 ((List.range 3).map i),
  fun i _ => xI 1 ((List.range 900).map i),
  fun i _ => xI 0 ((List.range 5).map i),
  fun i _ => xI 0 ((List.range 135).map i),
  fun i _ => xI 0 ((List.range 8).map i),
  fun i _ => xI 0 ((List.range 6).map i),
  fun i _ => xI 0 ((List.range 1000).map i),
  fun i _ => xI 0 ((List.range 8).map i),
  fun i _ => xI 0 ((List.range 8).map i),
  fun i _ => xI 2 ((List.range 256).map i),
  fun i _ => xI 0 ((List.range 85).map i),
  fun i _ => xI 0 ((List.range 5).map i),
  fun i _ => xI 0 ((List.range 5).map i),
  fun i _ => xI 0 ((List.range 5).map i),
  fun i _ => xI 0 ((List.range 4).map i),
  fun i _ => xI 0 ((List.range 4).map i),
  fun _ l => xL ((List.range 240).map l),
  fun _ l => xL ((List.range 60).map l)]
def g_cell (a : Nat) (s : xS) : xC := (g_lay.getD a (fun _ _ => xI 9 [])) (s.1 a) (s.2 a)
def mkH (xs : List Int32) (s : xS) : xH := (List.range 131).map (fun a => if a = 0 then xI 9 xs else g_cell a s)
def s_p (s : xS) (a j : Nat) (v : Int32) : xS := (fun q k => if q = a ∧ k = j then v else s.1 q k, s.2)
def s_l (s : xS) (a j : Nat) (v : Int64) : xS := (s.1, fun q k => if q = a ∧ k = j then v else s.2 q k)
def s_c (s : xS) (f sp d dp n : Nat) : xS := (fun q k => if q = d ∧ dp ≤ k ∧ k < dp + n then s.1 f (sp + (k - dp)) else s.1 q k, s.2)
def s_cl (s : xS) (f sp d dp n : Nat) : xS := (s.1, fun q k => if q = d ∧ dp ≤ k ∧ k < dp + n then s.2 f (sp + (k - dp)) else s.2 q k)
/-- at a place of a row of a length -/
def x_rd {α : Type} (f : Nat → α) (len : Nat) (i : Int32) : Option α := if i < 0 ∨ len ≤ i.toNatClampNeg then none else some (f i.toNatClampNeg)
section MK
variable {xs : List Int32} {s : xS} {a : Nat}
theorem mk_len : (mkH xs s).length = 131 := by simp [mkH]
theorem mk_get (ha : a < 131) (h0 : a ≠ 0) : (mkH xs s)[a]? = some (g_cell a s) := by
  unfold mkH
  rw [List.getElem?_map, List.getElem?_range ha]
  simp [h0]
theorem mk_set {s' : xS} {c : xC} (ha : a < 131) (h0 : a ≠ 0) (hc : g_cell a s' = c) (h1 : ∀ q, q ≠ a → s'.1 q = s.1 q) (h2 : ∀ q, q ≠ a → s'.2 q = s.2 q) : (mkH xs s).set a c = mkH xs s' := by
  apply List.ext_getElem?
  intro q
  rw [List.getElem?_set]
  by_cases hq : a = q
  · subst hq
    rw [if_pos rfl, if_pos (by rw [mk_len]; exact ha), mk_get ha h0, hc]
  · rw [if_neg hq]
    unfold mkH
    rw [List.getElem?_map, List.getElem?_map]
    by_cases hl : q < 131
    · rw [List.getElem?_range hl]
      simp only [Option.map_some]
      by_cases hz : q = 0
      · simp [hz]
      · simp only [hz, if_false]
        unfold g_cell
        rw [h1 q (fun z => hq z.symm), h2 q (fun z => hq z.symm)]
    · rw [List.getElem?_eq_none (by rw [List.length_range]; omega)]
      rfl
theorem s_p_o {j : Nat} {v : Int32} : (∀ q, q ≠ a → (s_p s a j v).1 q = s.1 q) ∧ ∀ q, q ≠ a → (s_p s a j v).2 q = s.2 q := by
  refine ⟨fun q hq => ?_, fun q hq => rfl⟩
  funext k
  simp [s_p, hq]
theorem s_l_o {j : Nat} {v : Int64} : (∀ q, q ≠ a → (s_l s a j v).1 q = s.1 q) ∧ ∀ q, q ≠ a → (s_l s a j v).2 q = s.2 q := by
  refine ⟨fun q hq => rfl, fun q hq => ?_⟩
  funext k
  simp [s_l, hq]
theorem s_c_o {f sp dp n : Nat} : (∀ q, q ≠ a → (s_c s f sp a dp n).1 q = s.1 q) ∧ ∀ q, q ≠ a → (s_c s f sp a dp n).2 q = s.2 q := by
  refine ⟨fun q hq => ?_, fun q hq => rfl⟩
  funext k
  simp [s_c, hq]
theorem s_cl_o {f sp dp n : Nat} : (∀ q, q ≠ a → (s_cl s f sp a dp n).1 q = s.1 q) ∧ ∀ q, q ≠ a → (s_cl s f sp a dp n).2 q = s.2 q := by
  refine ⟨fun q hq => rfl, fun q hq => ?_⟩
  funext k
  simp [s_cl, hq]
theorem x_ix_range {α : Type} (f : Nat → α) (n : Nat) (i : Int32) : x_ix ((List.range n).map f) i = x_rd f n i := by
  unfold x_ix x_rd
  by_cases h1 : i < 0
  · simp [h1]
  · by_cases h2 : n ≤ i.toNatClampNeg
    · simp [h1, h2]
    · simp [h1, h2, List.getElem?_range (Nat.not_le.mp h2)]
theorem x_set_range {α : Type} (f : Nat → α) (n j : Nat) (v : α) : ((List.range n).map f).set j v = (List.range n).map (fun k => if k = j then v else f k) := by
  apply List.ext_getElem?
  intro q
  rw [List.getElem?_set]
  by_cases hl : q < n
  · by_cases hq : j = q
    · subst hq
      simp [hl]
    · rw [if_neg hq, List.getElem?_map, List.getElem?_map, List.getElem?_range hl]
      have hq2 : ¬ q = j := fun z => hq z.symm
      simp [hq2]
  · rw [List.getElem?_eq_none (by simp; omega)]
    by_cases hq : j = q
    · subst hq
      simp [hl]
    · rw [if_neg hq, List.getElem?_eq_none (by simp; omega)]
/-- a row of ints -/
theorem mk_ie {n kd : Nat} (ha : a < 131) (h0 : a ≠ 0) (hk : kd = 0 ∨ kd = 9) (hc : ∀ s : xS, g_cell a s = xI kd ((List.range n).map (s.1 a))) (i : Int32) : x_ie (mkH xs s) a i = x_rd (s.1 a) n i := by
  unfold x_ie x_ia
  rw [mk_get ha h0, hc]
  simp only [hk, if_true, Option.bind_some]
  exact x_ix_range _ _ _
theorem mk_be {n kd : Nat} (ha : a < 131) (h0 : a ≠ 0) (hk : kd = 1 ∨ kd = 2) (hc : ∀ s : xS, g_cell a s = xI kd ((List.range n).map (s.1 a))) (i : Int32) : x_be (mkH xs s) a i = x_rd (s.1 a) n i := by
  unfold x_be x_ba
  rw [mk_get ha h0, hc]
  simp only [hk, if_true, Option.bind_some]
  exact x_ix_range _ _ _
theorem mk_le {n : Nat} (ha : a < 131) (h0 : a ≠ 0) (hc : ∀ s : xS, g_cell a s = xL ((List.range n).map (s.2 a))) (i : Int32) : x_le (mkH xs s) a i = x_rd (s.2 a) n i := by
  unfold x_le x_la
  rw [mk_get ha h0, hc]
  simp only [Option.bind_some]
  exact x_ix_range _ _ _
theorem mk_ip {n : Nat} (ha : a < 131) (h0 : a ≠ 0) (hc : ∀ s : xS, g_cell a s = xI 0 ((List.range n).map (s.1 a))) (i v : Int32) : x_ip (mkH xs s) a i v = (x_rd (s.1 a) n i).map (fun _ => mkH xs (s_p s a i.toNatClampNeg v)) := by
  unfold x_ip x_iw
  rw [mk_get ha h0, hc]
  simp only [if_true, Option.bind_some]
  rw [x_ix_range]
  congr 1
  funext _
  rw [x_set_range]
  refine mk_set ha h0 ?_ s_p_o.1 s_p_o.2
  rw [hc]
  congr 3
  funext k
  simp [s_p]
theorem mk_bp {n kd : Nat} (ha : a < 131) (h0 : a ≠ 0) (hk : kd = 1 ∨ kd = 2) (hc : ∀ s : xS, g_cell a s = xI kd ((List.range n).map (s.1 a))) (i v : Int32) : x_bp (mkH xs s) a i v = (x_rd (s.1 a) n i).map (fun _ => mkH xs (s_p s a i.toNatClampNeg (x_nr kd v))) := by
  unfold x_bp x_ba
  rw [mk_get ha h0, hc]
  simp only [hk, if_true, Option.bind_some]
  rw [x_ix_range]
  congr 1
  funext _
  rw [x_set_range]
  refine mk_set ha h0 ?_ s_p_o.1 s_p_o.2
  rw [hc]
  congr 3
  funext k
  simp [s_p]
theorem mk_lp {n : Nat} (ha : a < 131) (h0 : a ≠ 0) (hc : ∀ s : xS, g_cell a s = xL ((List.range n).map (s.2 a))) (i : Int32) (v : Int64) : x_lp (mkH xs s) a i v = (x_rd (s.2 a) n i).map (fun _ => mkH xs (s_l s a i.toNatClampNeg v)) := by
  unfold x_lp x_la
  rw [mk_get ha h0, hc]
  simp only [Option.bind_some]
  rw [x_ix_range]
  congr 1
  funext _
  rw [x_set_range]
  refine mk_set ha h0 ?_ s_l_o.1 s_l_o.2
  rw [hc]
  congr 3
  funext k
  simp [s_l]
theorem mk_fl {ci j : Nat} {fs : List Value} {v : Value} (ha : a < 131) (h0 : a ≠ 0) (hc : g_cell a s = xO ci fs) (hv : fs[j]? = some v) : x_fl (mkH xs s) a ci j = some v := by
  unfold x_fl
  rw [mk_get ha h0, hc]
  simp [hv]
theorem mk_fp {ci j : Nat} {fs : List Value} {v : Value} {s' : xS} (ha : a < 131) (h0 : a ≠ 0) (hc : g_cell a s = xO ci fs) (hj : j < fs.length) (hok : x_ok (g_fld ci j).1 v = true) (hc' : g_cell a s' = xO ci (fs.set j v)) (h1 : (∀ q, q ≠ a → s'.1 q = s.1 q) ∧ ∀ q, q ≠ a → s'.2 q = s.2 q) : x_fp (mkH xs s) a ci j v = some (mkH xs s') := by
  unfold x_fp
  rw [mk_get ha h0, hc]
  simp only
  rw [if_pos ⟨trivial, hj, hok⟩, mk_set ha h0 hc' h1.1 h1.2]
theorem mk_cls {ci : Nat} {fs : List Value} (ha : a < 131) (h0 : a ≠ 0) (hc : g_cell a s = xO ci fs) : x_cls (mkH xs s) a ci = true := by
  unfold x_cls
  rw [mk_get ha h0, hc]
  simp
theorem mk_qe {kd n : Nat} {f : Nat → Nat} (ha : a < 131) (h0 : a ≠ 0) (hk : (g_el kd).isSome = true) (hc : g_cell a s = xQ kd ((List.range n).map (fun k => some (f k)))) (i : Int32) : x_qe (mkH xs s) a i = x_rd f n i := by
  unfold x_qe x_qa
  rw [mk_get ha h0, hc]
  simp only [hk, if_true, Option.bind_some]
  rw [x_ix_range]
  unfold x_rd
  split <;> rfl
theorem x_ok_int (x : Int32) : x_ok .int (.int x) = true := by
  simp only [x_ok, Bool.and_eq_true, decide_eq_true_eq]
  exact ⟨vp_nar_int x, rfl⟩
theorem x_ok_long (x : Int64) : x_ok .long (.long x) = true := by
  simp only [x_ok, Bool.and_eq_true, decide_eq_true_eq]
  exact ⟨rfl, rfl⟩
end MK
