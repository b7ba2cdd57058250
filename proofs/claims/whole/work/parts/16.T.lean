/-! THE TABLES are what the abstract machine asks of them (own work, places by wip/gen/p16.py) -/
theorem x_lays {C : String} {T : u_T} {N : Nat} (pl : List Nat) (h : ∀ k, k < N → lw_tbl[pl.getD k 0]? = some (u_lay C T k)) : ∀ w ∈ u_ws C T N, w ∈ g_all := by
  intro w hw
  obtain ⟨k, hk, rfl⟩ := List.mem_map.mp hw
  refine g_in (List.mem_of_getElem? (h k (List.mem_range.mp hk))) ?_
  unfold u_lay
  split <;> rfl
def x_clok (ci : Nat) (q : vw_C) : Prop := q.1 = g_nm ci ∧ (∀ w ∈ u_ws q.1 q.2.1 q.2.2, w ∈ g_all) ∧ (∀ k, k < q.2.2 → parseFieldDescriptor (q.2.1 k).2.2.1 = some (x_ft g_M ci k)) ∧ (∀ a, a < q.2.2 → ∀ b, b < q.2.2 → a ≠ b → (q.2.1 a).2.1 ≠ (q.2.1 b).2.1) ∧ Cond.instantiable q.1 q.2.2 ∈ g_all ∧ Cond.initialized q.1 ∈ g_all ∧ ∀ k, k < q.2.2 → (q.2.1 k).1 = q.1 ∧ (q.2.1 k).2.2.2 = x_ff g_M ci k
theorem g_c0 : x_clok 0 ("SecondWell$Course", g_T0, 5) := ⟨by decide +kernel, x_lays [331, 333, 335, 337, 339] (by decide +kernel), by decide +kernel, by decide +kernel, (g_in (List.mem_of_getElem? (i := 315) (by decide +kernel)) (by decide +kernel)), (g_in (List.mem_of_getElem? (i := 121) (by decide +kernel)) (by decide +kernel)), by decide +kernel⟩
theorem g_c1 : x_clok 1 ("SecondWell$Game", g_T1, 6) := ⟨by decide +kernel, x_lays [389, 391, 393, 395, 397, 399] (by decide +kernel), by decide +kernel, by decide +kernel, (g_in (List.mem_of_getElem? (i := 374) (by decide +kernel)) (by decide +kernel)), (g_in (List.mem_of_getElem? (i := 123) (by decide +kernel)) (by decide +kernel)), by decide +kernel⟩
theorem g_c2 : x_clok 2 ("SecondWell$Image", g_T2, 4) := ⟨by decide +kernel, x_lays [511, 513, 515, 517] (by decide +kernel), by decide +kernel, by decide +kernel, (g_in (List.mem_of_getElem? (i := 499) (by decide +kernel)) (by decide +kernel)), (g_in (List.mem_of_getElem? (i := 128) (by decide +kernel)) (by decide +kernel)), by decide +kernel⟩
theorem g_c3 : x_clok 3 ("SecondWell$Minutes", g_T3, 2) := ⟨by decide +kernel, x_lays [438, 440] (by decide +kernel), by decide +kernel, by decide +kernel, (g_in (List.mem_of_getElem? (i := 429) (by decide +kernel)) (by decide +kernel)), (g_in (List.mem_of_getElem? (i := 125) (by decide +kernel)) (by decide +kernel)), by decide +kernel⟩
theorem g_c4 : x_clok 4 ("SecondWell$Reader", g_T4, 8) := ⟨by decide +kernel, x_lays [297, 299, 301, 303, 305, 307, 309, 311] (by decide +kernel), by decide +kernel, by decide +kernel, (g_in (List.mem_of_getElem? (i := 279) (by decide +kernel)) (by decide +kernel)), (g_in (List.mem_of_getElem? (i := 120) (by decide +kernel)) (by decide +kernel)), by decide +kernel⟩
theorem g_c5 : x_clok 5 ("SecondWell$Sets", g_T5, 8) := ⟨by decide +kernel, x_lays [356, 358, 360, 362, 364, 366, 368, 370] (by decide +kernel), by decide +kernel, by decide +kernel, (g_in (List.mem_of_getElem? (i := 343) (by decide +kernel)) (by decide +kernel)), (g_in (List.mem_of_getElem? (i := 122) (by decide +kernel)) (by decide +kernel)), by decide +kernel⟩
theorem g_c6 : x_clok 6 ("SecondWell$Sips", g_T6, 5) := ⟨by decide +kernel, x_lays [417, 419, 421, 423, 425] (by decide +kernel), by decide +kernel, by decide +kernel, (g_in (List.mem_of_getElem? (i := 403) (by decide +kernel)) (by decide +kernel)), (g_in (List.mem_of_getElem? (i := 124) (by decide +kernel)) (by decide +kernel)), by decide +kernel⟩
theorem g_c7 : x_clok 7 ("SecondWell$Slot", g_T7, 4) := ⟨by decide +kernel, x_lays [487, 489, 491, 493] (by decide +kernel), by decide +kernel, by decide +kernel, (g_in (List.mem_of_getElem? (i := 472) (by decide +kernel)) (by decide +kernel)), (g_in (List.mem_of_getElem? (i := 127) (by decide +kernel)) (by decide +kernel)), by decide +kernel⟩
theorem g_c8 : x_clok 8 ("SecondWell$State", g_T8, 7) := ⟨by decide +kernel, x_lays [263, 265, 267, 269, 271, 273, 275] (by decide +kernel), by decide +kernel, by decide +kernel, (g_in (List.mem_of_getElem? (i := 240) (by decide +kernel)) (by decide +kernel)), (g_in (List.mem_of_getElem? (i := 119) (by decide +kernel)) (by decide +kernel)), by decide +kernel⟩
theorem g_c9 : x_clok 9 ("SecondWell$Town", g_T9, 14) := ⟨by decide +kernel, x_lays [208, 210, 212, 214, 216, 218, 220, 222, 224, 226, 228, 230, 232, 234] (by decide +kernel), by decide +kernel, by decide +kernel, (g_in (List.mem_of_getElem? (i := 147) (by decide +kernel)) (by decide +kernel)), (g_in (List.mem_of_getElem? (i := 118) (by decide +kernel)) (by decide +kernel)), by decide +kernel⟩
theorem g_c10 : x_clok 10 ("SecondWell$Years", g_T10, 5) := ⟨by decide +kernel, x_lays [459, 461, 463, 465, 467] (by decide +kernel), by decide +kernel, by decide +kernel, (g_in (List.mem_of_getElem? (i := 444) (by decide +kernel)) (by decide +kernel)), (g_in (List.mem_of_getElem? (i := 126) (by decide +kernel)) (by decide +kernel)), by decide +kernel⟩
theorem g_c11 : x_clok 11 ("SecondWell", g_T11, 15) := ⟨by decide +kernel, x_lays [535, 537, 539, 541, 543, 545, 547, 549, 551, 553, 555, 557, 559, 561, 563] (by decide +kernel), by decide +kernel, by decide +kernel, (g_in (List.mem_of_getElem? (i := 139) (by decide +kernel)) (by decide +kernel)), (g_in (List.mem_of_getElem? (i := 117) (by decide +kernel)) (by decide +kernel)), by decide +kernel⟩
theorem g_c12 : x_clok 12 ("SecondWellModel", g_T12, 39) := ⟨by decide +kernel, x_lays [1463, 1465, 1467, 1469, 1471, 1473, 1475, 1477, 1479, 1481, 1483, 1485, 1487, 1489, 1491, 1493, 1495, 1497, 1499, 1501, 1503, 1505, 1507, 1509, 1511, 1513, 1515, 1517, 1519, 1521, 1523, 1525, 1527, 1529, 1531, 1533, 1535, 1537, 1539] (by decide +kernel), by decide +kernel, by decide +kernel, (g_in (List.mem_of_getElem? (i := 1420) (by decide +kernel)) (by decide +kernel)), (g_in (List.mem_of_getElem? (i := 129) (by decide +kernel)) (by decide +kernel)), by decide +kernel⟩
theorem x_lookup {α : Type} {a : Nat} {b : α} : ∀ {l : List (Nat × α)}, l.lookup a = some b → (a, b) ∈ l := by
  intro l
  induction l with
  | nil => intro h; cases h
  | cons q l ih =>
    obtain ⟨c, d⟩ := q
    intro h
    rw [List.lookup] at h
    split at h
    · rename_i e
      cases h
      rw [show a = c by simpa using e]
      exact List.mem_cons_self
    · exact List.mem_cons_of_mem _ (ih h)
theorem g_pool_ok : ∀ (o : Nat) (e : Nat × Nat × Nat × Nat), e ∈ g_pools.getD o [] → x_pok o e
  | 0, e, h => po_0 e h
  | 1, e, h => po_1 e h
  | 2, e, h => po_2 e h
  | 3, e, h => po_3 e h
  | 4, e, h => po_4 e h
  | 5, e, h => po_5 e h
  | 6, e, h => po_6 e h
  | 7, e, h => po_7 e h
  | 8, e, h => po_8 e h
  | 9, e, h => po_9 e h
  | 10, e, h => po_10 e h
  | 11, e, h => po_11 e h
  | 12, e, h => po_12 e h
  | 13, e, h => po_13 e h
  | 14, e, h => po_14 e h
  | 15, e, h => po_15 e h
  | 16, e, h => po_16 e h
  | 17, e, h => po_17 e h
  | n + 18, e, h => by
    rw [List.getD_eq_getElem?_getD, List.getElem?_eq_none (by show 18 ≤ n + 18; omega)] at h
    cases h
theorem g_con_ok : ∀ (o : Nat) (e : Nat × Value), e ∈ g_cons.getD o [] → x_cok o e
  | 0, e, h => co_0_ e h
  | 1, e, h => co_1_ e h
  | 2, e, h => co_2_ e h
  | 3, e, h => co_3_ e h
  | 4, e, h => co_4_ e h
  | 5, e, h => co_5_ e h
  | 6, e, h => co_6_ e h
  | 7, e, h => co_7_ e h
  | 8, e, h => co_8_ e h
  | 9, e, h => co_9_ e h
  | 10, e, h => co_10_ e h
  | 11, e, h => co_11_ e h
  | 12, e, h => co_12_ e h
  | 13, e, h => co_13_ e h
  | 14, e, h => co_14_ e h
  | 15, e, h => co_15_ e h
  | 16, e, h => co_16_ e h
  | 17, e, h => co_17_ e h
  | n + 18, e, h => by
    rw [List.getD_eq_getElem?_getD, List.getElem?_eq_none (by show 18 ≤ n + 18; omega)] at h
    cases h
theorem g_pl_ok {o idx : Nat} {e : Nat × Nat × Nat} (h : x_pl g_M o idx = some e) : x_pok o (idx, e) := g_pool_ok o _ (x_lookup h)
theorem g_kc_ok {o idx : Nat} {v : Value} (h : x_kc g_M o idx = some v) : x_cok o (idx, v) := g_con_ok o _ (x_lookup h)
theorem g_cl_ok : ∀ (ci : Nat) (q : vw_C), g_cl[ci]? = some q → x_clok ci q
  | 0, q, h => by cases h; exact g_c0
  | 1, q, h => by cases h; exact g_c1
  | 2, q, h => by cases h; exact g_c2
  | 3, q, h => by cases h; exact g_c3
  | 4, q, h => by cases h; exact g_c4
  | 5, q, h => by cases h; exact g_c5
  | 6, q, h => by cases h; exact g_c6
  | 7, q, h => by cases h; exact g_c7
  | 8, q, h => by cases h; exact g_c8
  | 9, q, h => by cases h; exact g_c9
  | 10, q, h => by cases h; exact g_c10
  | 11, q, h => by cases h; exact g_c11
  | 12, q, h => by cases h; exact g_c12
  | n + 13, q, h => by
    rw [List.getElem?_eq_none (by show 13 ≤ n + 13; omega)] at h
    cases h
theorem g_good : ∀ w ∈ g_all, goodWord w = true := fun w h => (List.mem_filter.mp h).2
theorem g_fe_ok (j pc : Nat) (i : Instr) (h : x_fe g_M j pc = some i) : ∃ n, decode (g_bc j) pc = .ok (i, n) ∧ (x_ln i = 0 ∨ n = x_ln i) := by
  have h1 := x_lookup (show (g_row j).2.2.1.lookup pc = some i from h)
  have hr : x_rok (g_row j) := by
    unfold g_row
    rw [List.getD_eq_getElem?_getD]
    cases hj : g_ms[j]? with
    | none => rfl
    | some r => exact g_ok r (List.mem_of_getElem? hj)
  have h2 := List.all_eq_true.mp hr _ h1
  show ∃ n, decode (g_row j).2.1 pc = .ok (i, n) ∧ _
  simp only at h2
  split at h2
  · rename_i i2 n hd
    simp only [Bool.and_eq_true, decide_eq_true_eq, Bool.or_eq_true, beq_iff_eq] at h2
    obtain ⟨rfl, h3⟩ := h2
    exact ⟨n, hd, h3⟩
  · cases h2
theorem g_pl0 {o idx ci k : Nat} (h : x_pl g_M o idx = some (0, ci, k)) : x_p0 o idx ci k := g_pl_ok h
theorem g_pl1 {o idx k z : Nat} (h : x_pl g_M o idx = some (1, k, z)) : x_p1 o idx k := g_pl_ok h
theorem g_pl2 {o idx k z : Nat} (h : x_pl g_M o idx = some (2, k, z)) : x_p2 o idx k := g_pl_ok h
theorem g_pl3 {o idx k z : Nat} (h : x_pl g_M o idx = some (3, k, z)) : x_p3 o idx k := g_pl_ok h
theorem g_pl4 {o idx k z : Nat} (h : x_pl g_M o idx = some (4, k, z)) : x_p4 o idx k := g_pl_ok h
theorem g_pl5 {o idx : Nat} {z : Nat × Nat} (h : x_pl g_M o idx = some (5, z)) : x_p5 o idx := g_pl_ok h
theorem g_pl6 {o idx ci k : Nat} (h : x_pl g_M o idx = some (6, ci, k)) : x_p6 o idx ci k := g_pl_ok h
theorem g_pl7 {o idx k z : Nat} (h : x_pl g_M o (idx + 100000) = some (7, k, z)) : x_p7 o idx k := by
  have h1 : x_p7 o (idx + 100000 - 100000) k := g_pl_ok h
  rw [Nat.add_sub_cancel] at h1
  exact h1
theorem g_pl8 {o idx : Nat} {z : Nat × Nat} (h : x_pl g_M o idx = some (8, z)) : x_p8 o idx := g_pl_ok h
theorem g_pl9 {o idx k z : Nat} (h : x_pl g_M o idx = some (9, k, z)) : x_p9 o idx k := g_pl_ok h
theorem g_pl10 {o idx : Nat} {z : Nat × Nat} (h : x_pl g_M o idx = some (10, z)) : x_p10 o idx := g_pl_ok h
theorem g_pl11 {o idx : Nat} {z : Nat × Nat} (h : x_pl g_M o idx = some (11, z)) : x_p11 o idx := g_pl_ok h
theorem g_kci {o idx : Nat} {v : Int32} (h : x_kc g_M o idx = some (.int v)) : Cond.constant (g_nm o) idx v ∈ g_all := g_kc_ok h
theorem g_kcl {o idx : Nat} {v : Int64} (h : x_kc g_M o idx = some (.long v)) : Cond.constantLong (g_nm o) idx v ∈ g_all := g_kc_ok h
set_option maxRecDepth 100000 in
theorem g_el_ok {kd ci : Nat} (h : x_el g_M kd = some ci) : ∃ q : vw_C, g_cl[ci]? = some q ∧ g_tys[kd]? = some (.object q.1) := by
  have h1 : g_el kd = some ci := h
  unfold g_el at h1
  split at h1
  · cases h1; exact ⟨_, rfl, rfl⟩
  · cases h1; exact ⟨_, rfl, rfl⟩
  · cases h1; exact ⟨_, rfl, rfl⟩
  · cases h1
theorem g_T : x_T g_M g_nm g_yn g_bc g_all g_cl g_tys :=
  ⟨g_fe_ok, g_cl_ok, fun o idx ci k h => g_pl0 h, fun o idx ci n h => g_pl6 h, fun o idx kd z h => g_pl7 h,
   ⟨rfl, rfl, rfl, rfl, (g_in (List.mem_of_getElem? (i := 238) (by decide +kernel)) (by decide +kernel)), (g_in (List.mem_of_getElem? (i := 237) (by decide +kernel)) (by decide +kernel)), (g_in (List.mem_of_getElem? (i := 1542) (by decide +kernel)) (by decide +kernel)), (g_in (List.mem_of_getElem? (i := 496) (by decide +kernel)) (by decide +kernel)), fun kd ci h => g_el_ok h⟩, ⟨fun o idx v h => g_kci h, fun o idx v h => g_kcl h⟩,
   fun o idx z h => g_pl5 h, ⟨fun o idx z h => g_pl8 h, fun o idx z h => g_pl10 h, fun o idx z h => g_pl11 h⟩,
   ⟨fun o idx k z h => g_pl1 h, fun o idx k z h => g_pl2 h, fun o idx k z h => g_pl3 h, fun o idx k z h => g_pl4 h, fun o idx k z h => g_pl9 h⟩, g_good⟩
