/-! THE TABLES of the program, and that they say what the claim's tables say (printed by wip/gen/p13.py) -/
def g_all : List Cond := lw_tbl.filter goodWord
theorem g_in {w : Cond} (h : w ∈ lw_tbl) (hg : goodWord w = true) : w ∈ g_all := List.mem_filter.mpr ⟨h, hg⟩
def g_nms : List String := ["SecondWell$Course", "SecondWell$Game", "SecondWell$Image", "SecondWell$Minutes", "SecondWell$Reader", "SecondWell$Sets", "SecondWell$Sips", "SecondWell$Slot", "SecondWell$State", "SecondWell$Town", "SecondWell$Years", "SecondWell", "SecondWellModel", "SecondWellLaw", "java/lang/Integer", "java/lang/Math", "java/lang/String", "java/util/Arrays"]
def g_nm (o : Nat) : String := g_nms.getD o ""
def g_T0 : u_T := fun k => match k with
  | 0 => ("SecondWell$Course", "town", "LSecondWell$Town;", true)
  | 1 => ("SecondWell$Course", "state", "LSecondWell$State;", true)
  | 2 => ("SecondWell$Course", "taken", "[I", true)
  | 3 => ("SecondWell$Course", "steps", "I", false)
  | _ => ("SecondWell$Course", "drinks", "I", false)
def g_T1 : u_T := fun k => match k with
  | 0 => ("SecondWell$Game", "town", "LSecondWell$Town;", true)
  | 1 => ("SecondWell$Game", "states", "[LSecondWell$State;", true)
  | 2 => ("SecondWell$Game", "first", "I", false)
  | 3 => ("SecondWell$Game", "second", "I", false)
  | 4 => ("SecondWell$Game", "turns", "I", false)
  | _ => ("SecondWell$Game", "firstAct", "I", false)
def g_T2 : u_T := fun k => match k with
  | 0 => ("SecondWell$Image", "has", "Z", false)
  | 1 => ("SecondWell$Image", "town", "LSecondWell$Town;", true)
  | 2 => ("SecondWell$Image", "acts", "[I", true)
  | _ => ("SecondWell$Image", "actCount", "I", false)
def g_T3 : u_T := fun k => match k with
  | 0 => ("SecondWell$Minutes", "state", "LSecondWell$State;", true)
  | _ => ("SecondWell$Minutes", "other", "LSecondWell$State;", true)
def g_T4 : u_T := fun k => match k with
  | 0 => ("SecondWell$Reader", "bytes", "[B", true)
  | 1 => ("SecondWell$Reader", "made", "LSecondWell$Town;", true)
  | 2 => ("SecondWell$Reader", "length", "I", false)
  | 3 => ("SecondWell$Reader", "start", "I", false)
  | 4 => ("SecondWell$Reader", "past", "I", false)
  | 5 => ("SecondWell$Reader", "kind", "I", false)
  | 6 => ("SecondWell$Reader", "fault", "I", false)
  | _ => ("SecondWell$Reader", "place", "I", false)
def g_T5 : u_T := fun k => match k with
  | 0 => ("SecondWell$Sets", "town", "LSecondWell$Town;", true)
  | 1 => ("SecondWell$Sets", "now", "LSecondWell$State;", true)
  | 2 => ("SecondWell$Sets", "ways", "[I", true)
  | 3 => ("SecondWell$Sets", "wishers", "[I", true)
  | 4 => ("SecondWell$Sets", "firm", "[I", true)
  | 5 => ("SecondWell$Sets", "sums", "[I", true)
  | 6 => ("SecondWell$Sets", "rows", "[I", true)
  | _ => ("SecondWell$Sets", "firmCount", "I", false)
def g_T6 : u_T := fun k => match k with
  | 0 => ("SecondWell$Sips", "town", "LSecondWell$Town;", true)
  | 1 => ("SecondWell$Sips", "now", "LSecondWell$State;", true)
  | 2 => ("SecondWell$Sips", "states", "[LSecondWell$State;", true)
  | 3 => ("SecondWell$Sips", "times", "I", false)
  | _ => ("SecondWell$Sips", "leftAtWorst", "I", false)
def g_T7 : u_T := fun k => match k with
  | 0 => ("SecondWell$Slot", "has", "Z", false)
  | 1 => ("SecondWell$Slot", "width", "I", false)
  | 2 => ("SecondWell$Slot", "many", "I", false)
  | _ => ("SecondWell$Slot", "numbers", "[J", true)
def g_T8 : u_T := fun k => match k with
  | 0 => ("SecondWell$State", "town", "LSecondWell$Town;", true)
  | 1 => ("SecondWell$State", "settled", "I", false)
  | 2 => ("SecondWell$State", "drunk", "I", false)
  | 3 => ("SecondWell$State", "level", "I", false)
  | 4 => ("SecondWell$State", "many", "I", false)
  | 5 => ("SecondWell$State", "order", "[I", true)
  | _ => ("SecondWell$State", "cups", "[I", true)
def g_T9 : u_T := fun k => match k with
  | 0 => ("SecondWell$Town", "lines", "I", false)
  | 1 => ("SecondWell$Town", "level", "I", false)
  | 2 => ("SecondWell$Town", "spring", "I", false)
  | 3 => ("SecondWell$Town", "frost", "I", false)
  | 4 => ("SecondWell$Town", "people", "I", false)
  | 5 => ("SecondWell$Town", "matters", "I", false)
  | 6 => ("SecondWell$Town", "stubborn", "I", false)
  | 7 => ("SecondWell$Town", "dry", "I", false)
  | 8 => ("SecondWell$Town", "jug", "I", false)
  | 9 => ("SecondWell$Town", "cups", "[I", true)
  | 10 => ("SecondWell$Town", "mine", "[I", true)
  | 11 => ("SecondWell$Town", "parties", "[I", true)
  | 12 => ("SecondWell$Town", "on", "[I", true)
  | _ => ("SecondWell$Town", "gains", "[I", true)
def g_T10 : u_T := fun k => match k with
  | 0 => ("SecondWell$Years", "town", "LSecondWell$Town;", true)
  | 1 => ("SecondWell$Years", "state", "LSecondWell$State;", true)
  | 2 => ("SecondWell$Years", "x", "J", false)
  | 3 => ("SecondWell$Years", "drinks", "I", false)
  | _ => ("SecondWell$Years", "frosts", "I", false)
def g_T11 : u_T := fun k => match k with
  | 0 => ("SecondWell", "tape", "[B", true)
  | 1 => ("SecondWell", "tapeBytes", "I", false)
  | 2 => ("SecondWell", "reader", "LSecondWell$Reader;", true)
  | 3 => ("SecondWell", "told", "LSecondWell$Town;", true)
  | 4 => ("SecondWell", "now", "LSecondWell$State;", true)
  | 5 => ("SecondWell", "acts", "[I", true)
  | 6 => ("SecondWell", "actCount", "I", false)
  | 7 => ("SecondWell", "course", "LSecondWell$Course;", true)
  | 8 => ("SecondWell", "sets", "LSecondWell$Sets;", true)
  | 9 => ("SecondWell", "game", "LSecondWell$Game;", true)
  | 10 => ("SecondWell", "sips", "LSecondWell$Sips;", true)
  | 11 => ("SecondWell", "minutes", "LSecondWell$Minutes;", true)
  | 12 => ("SecondWell", "years", "LSecondWell$Years;", true)
  | 13 => ("SecondWell", "slots", "[LSecondWell$Slot;", true)
  | _ => ("SecondWell", "images", "[LSecondWell$Image;", true)
def g_T12 : u_T := fun k => match k with
  | 0 => ("SecondWellModel", "thrown", "I", false)
  | 1 => ("SecondWellModel", "world", "[I", true)
  | 2 => ("SecondWellModel", "images", "[I", true)
  | 3 => ("SecondWellModel", "hasImage", "[Z", true)
  | 4 => ("SecondWellModel", "tape", "[B", true)
  | 5 => ("SecondWellModel", "taped", "I", false)
  | 6 => ("SecondWellModel", "five", "[I", true)
  | 7 => ("SecondWellModel", "size", "I", false)
  | 8 => ("SecondWellModel", "at", "I", false)
  | 9 => ("SecondWellModel", "from", "I", false)
  | 10 => ("SecondWellModel", "token", "I", false)
  | 11 => ("SecondWellModel", "value", "I", false)
  | 12 => ("SecondWellModel", "faultKind", "I", false)
  | 13 => ("SecondWellModel", "faultPlace", "I", false)
  | 14 => ("SecondWellModel", "fresh", "[I", true)
  | 15 => ("SecondWellModel", "row", "[I", true)
  | 16 => ("SecondWellModel", "rowMany", "I", false)
  | 17 => ("SecondWellModel", "cup", "[I", true)
  | 18 => ("SecondWellModel", "level", "I", false)
  | 19 => ("SecondWellModel", "drunk", "I", false)
  | 20 => ("SecondWellModel", "course", "[I", true)
  | 21 => ("SecondWellModel", "courseMany", "I", false)
  | 22 => ("SecondWellModel", "sipMany", "I", false)
  | 23 => ("SecondWellModel", "long0", "[I", true)
  | 24 => ("SecondWellModel", "firstRow", "[I", true)
  | 25 => ("SecondWellModel", "weakSwing", "I", false)
  | 26 => ("SecondWellModel", "areFirm", "[Z", true)
  | 27 => ("SecondWellModel", "deep", "[I", true)
  | 28 => ("SecondWellModel", "nextAct", "[I", true)
  | 29 => ("SecondWellModel", "bestAct", "[I", true)
  | 30 => ("SecondWellModel", "bestOf", "[I", true)
  | 31 => ("SecondWellModel", "askWorst", "I", false)
  | 32 => ("SecondWellModel", "drawX", "J", false)
  | 33 => ("SecondWellModel", "drankOften", "I", false)
  | 34 => ("SecondWellModel", "frostDays", "I", false)
  | 35 => ("SecondWellModel", "many", "[I", true)
  | 36 => ("SecondWellModel", "width", "[I", true)
  | 37 => ("SecondWellModel", "numbers", "[J", true)
  | _ => ("SecondWellModel", "moving", "[J", true)
abbrev g_cl : List vw_C := [("SecondWell$Course", g_T0, 5), ("SecondWell$Game", g_T1, 6), ("SecondWell$Image", g_T2, 4), ("SecondWell$Minutes", g_T3, 2), ("SecondWell$Reader", g_T4, 8), ("SecondWell$Sets", g_T5, 8), ("SecondWell$Sips", g_T6, 5), ("SecondWell$Slot", g_T7, 4), ("SecondWell$State", g_T8, 7), ("SecondWell$Town", g_T9, 14), ("SecondWell$Years", g_T10, 5), ("SecondWell", g_T11, 15), ("SecondWellModel", g_T12, 39)]
def g_fts : List (List (FieldType × Bool)) := [[(.object "SecondWell$Town", true), (.object "SecondWell$State", true), (.array .int, true), (.int, false), (.int, false)],
  [(.object "SecondWell$Town", true), (.array (.object "SecondWell$State"), true), (.int, false), (.int, false), (.int, false), (.int, false)],
  [(.boolean, false), (.object "SecondWell$Town", true), (.array .int, true), (.int, false)],
  [(.object "SecondWell$State", true), (.object "SecondWell$State", true)],
  [(.array .byte, true), (.object "SecondWell$Town", true), (.int, false), (.int, false), (.int, false), (.int, false), (.int, false), (.int, false)],
  [(.object "SecondWell$Town", true), (.object "SecondWell$State", true), (.array .int, true), (.array .int, true), (.array .int, true), (.array .int, true), (.array .int, true), (.int, false)],
  [(.object "SecondWell$Town", true), (.object "SecondWell$State", true), (.array (.object "SecondWell$State"), true), (.int, false), (.int, false)],
  [(.boolean, false), (.int, false), (.int, false), (.array .long, true)],
  [(.object "SecondWell$Town", true), (.int, false), (.int, false), (.int, false), (.int, false), (.array .int, true), (.array .int, true)],
  [(.int, false), (.int, false), (.int, false), (.int, false), (.int, false), (.int, false), (.int, false), (.int, false), (.int, false), (.array .int, true), (.array .int, true), (.array .int, true), (.array .int, true), (.array .int, true)],
  [(.object "SecondWell$Town", true), (.object "SecondWell$State", true), (.long, false), (.int, false), (.int, false)],
  [(.array .byte, true), (.int, false), (.object "SecondWell$Reader", true), (.object "SecondWell$Town", true), (.object "SecondWell$State", true), (.array .int, true), (.int, false), (.object "SecondWell$Course", true), (.object "SecondWell$Sets", true), (.object "SecondWell$Game", true), (.object "SecondWell$Sips", true), (.object "SecondWell$Minutes", true), (.object "SecondWell$Years", true), (.array (.object "SecondWell$Slot"), true), (.array (.object "SecondWell$Image"), true)],
  [(.int, false), (.array .int, true), (.array .int, true), (.array .boolean, true), (.array .byte, true), (.int, false), (.array .int, true), (.int, false), (.int, false), (.int, false), (.int, false), (.int, false), (.int, false), (.int, false), (.array .int, true), (.array .int, true), (.int, false), (.array .int, true), (.int, false), (.int, false), (.array .int, true), (.int, false), (.int, false), (.array .int, true), (.array .int, true), (.int, false), (.array .boolean, true), (.array .int, true), (.array .int, true), (.array .int, true), (.array .int, true), (.int, false), (.long, false), (.int, false), (.int, false), (.array .int, true), (.array .int, true), (.array .long, true), (.array .long, true)]]
def g_fld (ci k : Nat) : FieldType × Bool := (g_fts.getD ci []).getD k (.int, false)
abbrev g_tys : List FieldType := [.int, .byte, .boolean, .long, .object "SecondWell$State", .object "SecondWell$Slot", .object "SecondWell$Image"]
def g_el (kd : Nat) : Option Nat := match kd with
  | 4 => some 8
  | 5 => some 7
  | 6 => some 2
  | _ => none
def g_pool_0 : List (Nat × Nat × Nat × Nat) := [(3, 5, 0, 0), (11, 0, 0, 2), (15, 0, 0, 0), (19, 6, 8, 7), (21, 2, 66, 0), (24, 0, 0, 1), (28, 1, 68, 0), (32, 0, 0, 3), (36, 0, 0, 4), (39, 1, 2, 0), (43, 1, 77, 0), (47, 0, 9, 4), (52, 1, 73, 0), (55, 0, 9, 5), (58, 1, 69, 0), (61, 1, 3, 0), (64, 1, 89, 0), (68, 1, 91, 0)]
def g_con_0 : List (Nat × Value) := []
def g_pool_1 : List (Nat × Nat × Nat × Nat) := [(3, 5, 0, 0), (9, 6, 8, 7), (11, 0, 1, 1), (17, 0, 1, 0), (21, 2, 66, 0), (24, 0, 1, 2), (28, 0, 1, 3), (31, 0, 1, 4), (34, 0, 1, 5), (37, 1, 68, 0), (41, 1, 6, 0), (45, 0, 8, 1), (48, 1, 93, 0), (54, 1, 7, 0), (58, 1, 87, 0), (62, 0, 9, 10), (66, 9, 117, 0), (69, 1, 77, 0), (100009, 7, 4, 0)]
def g_con_1 : List (Nat × Value) := []
def g_pool_2 : List (Nat × Nat × Nat × Nat) := [(3, 5, 0, 0), (9, 6, 9, 14), (11, 4, 80, 0), (12, 0, 2, 1), (18, 0, 2, 2), (22, 0, 2, 0), (26, 1, 82, 0), (30, 8, 0, 0), (36, 0, 2, 3)]
def g_con_2 : List (Nat × Value) := []
def g_pool_3 : List (Nat × Nat × Nat × Nat) := [(3, 5, 0, 0), (9, 6, 8, 7), (11, 2, 66, 0), (14, 0, 3, 0), (20, 0, 3, 1), (23, 0, 7, 2), (29, 0, 7, 3), (33, 1, 76, 0), (37, 1, 16, 0), (41, 0, 8, 1), (44, 9, 117, 0), (48, 1, 67, 0), (51, 1, 77, 0), (55, 11, 0, 0)]
def g_con_3 : List (Nat × Value) := []
def g_pool_4 : List (Nat × Nat × Nat × Nat) := [(3, 5, 0, 0), (9, 6, 9, 14), (11, 4, 80, 0), (12, 0, 4, 1), (18, 0, 4, 7), (22, 0, 4, 0), (26, 0, 4, 2), (29, 0, 4, 4), (32, 0, 4, 6), (35, 1, 81, 0), (38, 1, 32, 0), (41, 0, 4, 5), (44, 1, 20, 0), (47, 0, 9, 0), (50, 1, 21, 0), (55, 1, 30, 0), (59, 1, 22, 0), (64, 1, 23, 0), (67, 1, 31, 0), (73, 1, 28, 0), (79, 1, 29, 0), (83, 0, 9, 1), (87, 0, 9, 2), (91, 0, 9, 3), (93, 0, 9, 4), (100, 1, 83, 0), (104, 0, 9, 5), (107, 1, 27, 0), (111, 1, 84, 0), (115, 1, 24, 0), (118, 1, 25, 0), (121, 1, 26, 0), (124, 0, 9, 7), (127, 0, 9, 8), (134, 0, 9, 12), (141, 0, 4, 3), (144, 11, 0, 0), (149, 1, 340, 0), (153, 1, 341, 0)]
def g_con_4 : List (Nat × Value) := [(53, .ref 1000004), (62, .ref 1000007), (71, .ref 1000000), (77, .ref 1000001), (85, .ref 1000002), (89, .ref 1000003), (96, .ref 1000005), (98, .ref 1000006), (130, .ref 1000010), (132, .ref 1000011), (133, .ref 1000012), (137, .ref 1000008), (139, .ref 1000009)]
def g_pool_5 : List (Nat × Nat × Nat × Nat) := [(3, 5, 0, 0), (9, 0, 5, 2), (15, 0, 5, 3), (18, 0, 5, 4), (21, 0, 5, 5), (24, 0, 5, 6), (27, 0, 5, 0), (31, 0, 5, 1), (35, 0, 9, 5), (41, 1, 38, 0), (45, 1, 36, 0), (49, 1, 37, 0), (53, 9, 117, 0), (56, 0, 9, 12), (59, 1, 89, 0), (62, 0, 9, 10), (65, 0, 8, 3), (70, 0, 8, 6), (73, 1, 39, 0), (77, 1, 95, 0), (80, 1, 90, 0), (83, 0, 9, 7), (86, 1, 96, 0), (89, 1, 97, 0), (92, 3, 338, 0), (98, 1, 35, 0), (101, 1, 41, 0), (104, 1, 34, 0), (108, 1, 94, 0), (111, 1, 98, 0), (115, 10, 0, 0), (120, 1, 100, 0), (123, 1, 99, 0), (126, 1, 48, 0), (129, 0, 5, 7), (132, 1, 47, 0), (135, 1, 49, 0), (138, 0, 9, 4), (141, 1, 93, 0), (144, 1, 53, 0), (147, 3, 339, 0)]
def g_con_5 : List (Nat × Value) := []
def g_pool_6 : List (Nat × Nat × Nat × Nat) := [(3, 5, 0, 0), (9, 6, 8, 7), (11, 0, 6, 2), (17, 0, 6, 0), (21, 0, 6, 1), (25, 2, 66, 0), (28, 1, 68, 0), (32, 0, 6, 3), (36, 1, 77, 0), (40, 0, 8, 1), (43, 0, 9, 4), (48, 1, 56, 0), (52, 1, 59, 0), (56, 0, 6, 4), (59, 1, 72, 0), (62, 0, 9, 5), (65, 1, 61, 0), (68, 9, 117, 0), (72, 10, 0, 0), (100009, 7, 4, 0)]
def g_con_6 : List (Nat × Value) := []
def g_pool_7 : List (Nat × Nat × Nat × Nat) := [(3, 5, 0, 0), (9, 0, 7, 3), (15, 0, 7, 0), (19, 0, 7, 1), (23, 0, 7, 2), (26, 3, 342, 0)]
def g_con_7 : List (Nat × Value) := []
def g_pool_8 : List (Nat × Nat × Nat × Nat) := [(3, 5, 0, 0), (9, 0, 8, 5), (15, 0, 8, 6), (18, 0, 8, 0), (22, 0, 8, 1), (26, 0, 8, 2), (29, 0, 9, 1), (34, 0, 8, 3), (35, 0, 8, 4), (38, 0, 9, 9), (39, 8, 0, 0), (45, 9, 117, 0), (49, 0, 9, 12), (52, 0, 9, 5), (55, 1, 69, 0), (59, 0, 9, 10), (62, 1, 71, 0), (66, 0, 9, 7), (69, 1, 90, 0), (72, 1, 95, 0), (75, 1, 93, 0), (78, 1, 97, 0), (82, 1, 72, 0), (85, 1, 96, 0), (88, 0, 9, 4), (91, 1, 73, 0), (98, 1, 87, 0), (101, 1, 78, 0), (104, 1, 86, 0), (107, 1, 79, 0), (110, 0, 9, 2), (113, 11, 0, 0)]
def g_con_8 : List (Nat × Value) := [(94, .long 10), (96, .long 20)]
def g_pool_9 : List (Nat × Nat × Nat × Nat) := [(3, 5, 0, 0), (9, 0, 9, 9), (15, 0, 9, 10), (18, 0, 9, 11), (21, 0, 9, 12), (24, 0, 9, 13), (27, 0, 9, 0), (31, 0, 9, 1), (34, 0, 9, 2), (37, 0, 9, 3), (40, 0, 9, 4), (43, 0, 9, 5), (46, 0, 9, 6), (49, 0, 9, 7), (52, 0, 9, 8), (55, 3, 343, 0), (61, 8, 0, 0), (67, 1, 92, 0), (71, 1, 85, 0), (75, 1, 93, 0), (79, 9, 117, 0), (82, 1, 95, 0)]
def g_con_9 : List (Nat × Value) := []
def g_pool_10 : List (Nat × Nat × Nat × Nat) := [(3, 5, 0, 0), (9, 0, 10, 0), (15, 6, 8, 7), (17, 2, 66, 0), (20, 0, 10, 1), (24, 0, 9, 2), (30, 11, 0, 0), (36, 1, 102, 0), (39, 1, 68, 0), (43, 0, 10, 2), (47, 0, 10, 3), (50, 0, 10, 4), (53, 1, 105, 0), (56, 1, 77, 0), (60, 1, 106, 0), (64, 0, 9, 3), (67, 0, 9, 4), (70, 1, 73, 0), (73, 1, 107, 0), (85, 0, 9, 5), (88, 0, 9, 10), (92, 9, 117, 0), (95, 1, 69, 0), (98, 1, 108, 0), (102, 1, 91, 0), (105, 1, 90, 0)]
def g_con_10 : List (Nat × Value) := [(77, .long 1103515245), (79, .long 12345), (81, .long 2147483647), (83, .long 65536)]
def g_pool_11 : List (Nat × Nat × Nat × Nat) := [(1, 5, 0, 0), (9, 6, 9, 14), (11, 4, 80, 0), (12, 6, 8, 7), (14, 2, 66, 0), (17, 0, 11, 0), (21, 0, 11, 3), (25, 0, 11, 4), (29, 0, 11, 5), (33, 6, 4, 8), (35, 2, 18, 0), (38, 0, 11, 2), (42, 6, 0, 5), (44, 2, 0, 0), (45, 0, 11, 7), (49, 6, 5, 8), (51, 2, 33, 0), (54, 0, 11, 8), (58, 6, 1, 6), (60, 2, 4, 0), (61, 0, 11, 9), (65, 6, 6, 5), (67, 2, 54, 0), (68, 0, 11, 10), (72, 6, 3, 2), (74, 2, 11, 0), (75, 0, 11, 11), (79, 6, 10, 5), (81, 2, 101, 0), (82, 0, 11, 12), (86, 6, 7, 4), (88, 0, 11, 13), (92, 4, 62, 0), (93, 6, 2, 4), (95, 0, 11, 14), (99, 4, 8, 0), (100, 0, 11, 1), (104, 1, 111, 0), (108, 1, 19, 0), (112, 0, 4, 1), (115, 1, 82, 0), (118, 0, 11, 6), (121, 1, 67, 0), (124, 0, 4, 6), (127, 0, 4, 7), (130, 1, 86, 0), (134, 0, 8, 6), (137, 0, 9, 6), (140, 3, 117, 0), (144, 0, 9, 10), (147, 0, 8, 1), (150, 1, 93, 0), (153, 1, 87, 0), (156, 1, 89, 0), (159, 1, 91, 0), (162, 0, 9, 12), (165, 0, 9, 7), (168, 0, 9, 8), (171, 0, 8, 2), (174, 1, 85, 0), (178, 0, 8, 3), (181, 0, 8, 4), (184, 0, 8, 5), (187, 1, 70, 0), (191, 1, 71, 0), (194, 1, 95, 0), (197, 1, 96, 0), (200, 1, 72, 0), (203, 1, 74, 0), (206, 1, 130, 0), (209, 1, 77, 0), (212, 1, 133, 0), (215, 1, 1, 0), (219, 0, 0, 3), (222, 0, 0, 2), (225, 0, 0, 1), (228, 0, 0, 4), (231, 1, 88, 0), (234, 1, 35, 0), (237, 1, 40, 0), (240, 1, 42, 0), (243, 1, 98, 0), (246, 1, 43, 0), (249, 1, 99, 0), (252, 1, 100, 0), (255, 1, 44, 0), (258, 1, 45, 0), (261, 1, 55, 0), (264, 0, 6, 3), (267, 1, 46, 0), (270, 1, 47, 0), (273, 1, 49, 0), (276, 1, 50, 0), (279, 1, 48, 0), (282, 1, 51, 0), (285, 1, 52, 0), (288, 1, 161, 0), (292, 1, 5, 0), (296, 0, 1, 5), (299, 1, 57, 0), (302, 1, 58, 0), (305, 1, 60, 0), (308, 0, 6, 4), (311, 1, 170, 0), (314, 1, 13, 0), (318, 1, 14, 0), (321, 1, 15, 0), (325, 1, 17, 0), (329, 3, 171, 0), (332, 0, 7, 0), (336, 1, 12, 0), (340, 1, 102, 0), (343, 1, 103, 0), (346, 1, 75, 0), (349, 1, 176, 0), (353, 1, 104, 0), (357, 0, 10, 1), (358, 0, 10, 3), (359, 0, 10, 4), (362, 0, 9, 4), (366, 1, 92, 0), (370, 3, 180, 0), (374, 0, 9, 5), (377, 0, 9, 2), (380, 0, 9, 3), (383, 0, 9, 0), (386, 1, 182, 0), (389, 1, 9, 0), (393, 0, 2, 0), (394, 1, 10, 0), (398, 1, 63, 0), (402, 0, 7, 2), (403, 0, 7, 3), (407, 1, 64, 0), (411, 0, 7, 1), (414, 1, 65, 0), (417, 8, 0, 0), (100086, 7, 5, 0), (100093, 7, 6, 0)]
def g_con_11 : List (Nat × Value) := [(365, .int 2000000000)]
def g_pool_12 : List (Nat × Nat × Nat × Nat) := [(3, 5, 0, 0), (9, 0, 12, 1), (13, 0, 12, 2), (16, 0, 12, 3), (20, 0, 12, 4), (24, 0, 12, 6), (27, 0, 12, 13), (31, 0, 12, 14), (34, 0, 12, 15), (37, 0, 12, 17), (40, 0, 12, 20), (43, 0, 12, 23), (46, 0, 12, 24), (49, 0, 12, 26), (52, 0, 12, 27), (55, 0, 12, 28), (58, 0, 12, 29), (61, 0, 12, 30), (64, 0, 12, 35), (67, 0, 12, 36), (70, 0, 12, 37), (74, 0, 12, 38), (82, 3, 189, 0), (86, 1, 194, 0), (90, 1, 197, 0), (94, 1, 199, 0), (98, 3, 191, 0), (101, 1, 203, 0), (104, 0, 12, 5), (107, 0, 12, 7), (110, 0, 12, 8), (113, 1, 208, 0), (117, 0, 12, 9), (120, 0, 12, 10), (131, 0, 12, 11), (135, 11, 0, 0), (140, 0, 12, 12), (143, 1, 210, 0), (146, 1, 340, 0), (151, 1, 341, 0), (155, 1, 212, 0), (159, 1, 209, 0), (162, 1, 213, 0), (165, 1, 211, 0), (169, 1, 214, 0), (173, 1, 215, 0), (178, 1, 216, 0), (188, 1, 220, 0), (191, 1, 218, 0), (196, 1, 221, 0), (207, 1, 219, 0), (210, 1, 222, 0), (221, 1, 223, 0), (224, 1, 224, 0), (227, 0, 12, 16), (230, 0, 12, 18), (232, 0, 12, 19), (235, 1, 226, 0), (238, 1, 239, 0), (241, 1, 228, 0), (244, 1, 204, 0), (247, 1, 200, 0), (251, 1, 231, 0), (254, 1, 201, 0), (258, 1, 233, 0), (261, 1, 202, 0), (264, 1, 230, 0), (267, 1, 232, 0), (271, 1, 234, 0), (274, 3, 190, 0), (277, 1, 236, 0), (280, 1, 237, 0), (283, 1, 238, 0), (286, 1, 196, 0), (294, 1, 229, 0), (297, 1, 195, 0), (302, 1, 227, 0), (307, 1, 235, 0), (310, 1, 253, 0), (313, 0, 12, 21), (316, 0, 12, 22), (319, 1, 260, 0), (322, 1, 261, 0), (325, 1, 198, 0), (328, 1, 267, 0), (331, 1, 270, 0), (334, 1, 272, 0), (337, 10, 0, 0), (340, 1, 276, 0), (343, 1, 284, 0), (347, 1, 280, 0), (350, 1, 282, 0), (353, 1, 281, 0), (356, 1, 283, 0), (359, 1, 285, 0), (363, 1, 205, 0), (366, 0, 12, 25), (369, 1, 289, 0), (372, 1, 290, 0), (375, 1, 296, 0), (378, 1, 299, 0), (381, 1, 302, 0), (384, 1, 300, 0), (387, 1, 303, 0), (391, 1, 301, 0), (396, 1, 305, 0), (399, 1, 304, 0), (403, 0, 12, 31), (406, 1, 310, 0), (409, 3, 333, 0), (412, 1, 313, 0), (416, 1, 240, 0), (419, 1, 241, 0), (422, 1, 314, 0), (425, 1, 315, 0), (430, 1, 320, 0), (435, 0, 12, 32), (445, 0, 12, 33), (448, 0, 12, 34), (451, 1, 324, 0), (454, 1, 325, 0), (462, 1, 327, 0), (465, 1, 326, 0), (471, 3, 334, 0)]
def g_con_12 : List (Nat × Value) := [(80, .long 2), (123, .long 97), (125, .long 122), (127, .long 48), (129, .long 57), (134, .int 99999), (176, .ref 1000005), (182, .ref 1000006), (184, .ref 1000009), (186, .ref 1000008), (194, .ref 1000010), (199, .ref 1000011), (201, .ref 1000012), (203, .ref 1000004), (205, .ref 1000007), (213, .ref 1000000), (215, .ref 1000001), (217, .ref 1000002), (219, .ref 1000003), (290, .long 10), (292, .long 20), (300, .long 3), (305, .long 8), (394, .long 4), (428, .long 99), (433, .long 1103515245), (439, .long 12345), (441, .long 2147483648), (443, .long 65536), (458, .long 2000000000), (460, .long 60), (469, .long (-99))]
def g_pool_13 : List (Nat × Nat × Nat × Nat) := [(7, 6, 11, 15), (9, 2, 109, 0), (10, 6, 12, 39), (12, 2, 188, 0), (13, 1, 110, 0), (17, 1, 206, 0), (18, 1, 112, 0), (22, 1, 207, 0), (23, 1, 113, 0), (27, 1, 225, 0), (28, 1, 114, 0), (31, 1, 217, 0), (32, 1, 115, 0), (36, 1, 242, 0), (37, 1, 116, 0), (40, 1, 243, 0), (41, 1, 118, 0), (44, 1, 244, 0), (45, 1, 119, 0), (48, 1, 245, 0), (49, 1, 120, 0), (52, 1, 246, 0), (53, 1, 121, 0), (56, 1, 247, 0), (57, 1, 122, 0), (60, 1, 248, 0), (61, 1, 123, 0), (64, 1, 249, 0), (65, 1, 124, 0), (68, 1, 250, 0), (69, 1, 125, 0), (72, 1, 251, 0), (73, 1, 126, 0), (76, 1, 252, 0), (77, 1, 127, 0), (80, 1, 254, 0), (81, 1, 128, 0), (84, 1, 255, 0), (85, 1, 129, 0), (88, 1, 256, 0), (89, 1, 131, 0), (92, 1, 257, 0), (93, 1, 132, 0), (96, 1, 258, 0), (97, 1, 134, 0), (100, 1, 259, 0), (101, 1, 135, 0), (104, 1, 262, 0), (105, 1, 136, 0), (108, 1, 263, 0), (109, 1, 137, 0), (112, 1, 264, 0), (113, 1, 138, 0), (116, 1, 265, 0), (117, 1, 139, 0), (120, 1, 266, 0), (121, 1, 140, 0), (124, 1, 286, 0), (125, 1, 141, 0), (128, 1, 287, 0), (129, 1, 142, 0), (132, 1, 288, 0), (133, 1, 143, 0), (136, 1, 268, 0), (137, 1, 144, 0), (140, 1, 269, 0), (141, 1, 145, 0), (144, 1, 271, 0), (145, 1, 146, 0), (148, 1, 273, 0), (149, 1, 147, 0), (152, 1, 274, 0), (153, 1, 148, 0), (156, 1, 275, 0), (157, 1, 149, 0), (160, 1, 277, 0), (161, 1, 150, 0), (164, 1, 278, 0), (165, 1, 151, 0), (168, 1, 279, 0), (169, 1, 152, 0), (172, 1, 291, 0), (173, 1, 153, 0), (176, 1, 292, 0), (177, 1, 154, 0), (180, 1, 293, 0), (181, 1, 155, 0), (184, 1, 294, 0), (185, 1, 156, 0), (188, 1, 295, 0), (189, 1, 157, 0), (192, 1, 297, 0), (193, 1, 158, 0), (196, 1, 298, 0), (197, 1, 159, 0), (201, 1, 306, 0), (202, 1, 160, 0), (205, 1, 307, 0), (206, 1, 162, 0), (209, 1, 308, 0), (210, 1, 163, 0), (213, 1, 309, 0), (214, 1, 164, 0), (217, 1, 311, 0), (218, 1, 165, 0), (221, 1, 312, 0), (222, 1, 166, 0), (225, 1, 316, 0), (226, 1, 167, 0), (229, 1, 317, 0), (230, 1, 168, 0), (233, 1, 318, 0), (234, 1, 169, 0), (237, 1, 319, 0), (238, 1, 172, 0), (241, 1, 321, 0), (242, 1, 173, 0), (245, 1, 322, 0), (246, 1, 174, 0), (249, 1, 323, 0), (250, 1, 175, 0), (253, 1, 328, 0), (254, 1, 177, 0), (258, 1, 329, 0), (259, 1, 178, 0), (262, 1, 330, 0), (263, 1, 179, 0), (266, 1, 331, 0), (267, 1, 181, 0), (270, 1, 332, 0), (271, 1, 183, 0), (274, 1, 192, 0), (275, 1, 184, 0), (278, 1, 193, 0), (279, 1, 185, 0), (282, 1, 335, 0), (285, 1, 186, 0), (289, 1, 336, 0), (290, 1, 187, 0), (293, 1, 337, 0)]
def g_con_13 : List (Nat × Value) := [(283, .long 4294967295)]
def g_pool_14 : List (Nat × Nat × Nat × Nat) := []
def g_con_14 : List (Nat × Value) := [(265, .int 1431655765), (266, .int 858993459), (267, .int 252645135)]
def g_pool_15 : List (Nat × Nat × Nat × Nat) := []
def g_con_15 : List (Nat × Value) := []
def g_pool_16 : List (Nat × Nat × Nat × Nat) := []
def g_con_16 : List (Nat × Value) := []
def g_pool_17 : List (Nat × Nat × Nat × Nat) := []
def g_con_17 : List (Nat × Value) := []
def g_pools : List (List (Nat × Nat × Nat × Nat)) := [g_pool_0, g_pool_1, g_pool_2, g_pool_3, g_pool_4, g_pool_5, g_pool_6, g_pool_7, g_pool_8, g_pool_9, g_pool_10, g_pool_11, g_pool_12, g_pool_13, g_pool_14, g_pool_15, g_pool_16, g_pool_17]
def g_cons : List (List (Nat × Value)) := [g_con_0, g_con_1, g_con_2, g_con_3, g_con_4, g_con_5, g_con_6, g_con_7, g_con_8, g_con_9, g_con_10, g_con_11, g_con_12, g_con_13, g_con_14, g_con_15, g_con_16, g_con_17]
def g_pl (o idx : Nat) : Option (Nat × Nat × Nat) := (g_pools.getD o []).lookup idx
def g_kc (o idx : Nat) : Option Value := (g_cons.getD o []).lookup idx
def g_row (j : Nat) : xRow := g_ms.getD j (⟨"", "", ""⟩, ByteArray.empty, [], (0, 0, 0, false, false, none))
def g_fe (j pc : Nat) : Option Instr := (g_row j).2.2.1.lookup pc
def g_yn (j : Nat) : MethodName := (g_row j).1
def g_bc (j : Nat) : ByteArray := (g_row j).2.1
def g_M : xM := (g_fe, g_pl, g_kc, fun j => (g_row j).2.2.2, g_fld, g_el)
abbrev x_p0 (o idx ci k : Nat) : Prop := ∃ q : vw_C, g_cl[ci]? = some q ∧ k < q.2.2 ∧ Cond.fieldLink (g_nm o) idx q.1 (q.2.1 k).2.1 (q.2.1 k).2.2.1 ∈ g_all
abbrev x_p6 (o idx ci n : Nat) : Prop := ∃ q : vw_C, g_cl[ci]? = some q ∧ q.2.2 = n ∧ Cond.classLink (g_nm o) idx q.1 ∈ g_all
abbrev x_p7 (o idx kd : Nat) : Prop := ∃ C : String, g_tys[kd]? = some (.object C) ∧ Cond.classLink (g_nm o) idx C ∈ g_all
abbrev x_p5 (o idx : Nat) : Prop := Cond.methodLink (g_nm o) idx Lib.objectInit ∈ g_all ∧ Cond.instanceMethod Lib.objectInit ∈ g_all ∧ Cond.code Lib.objectInit ⟨#[0xb1]⟩ 1 none ∈ g_all
abbrev x_p8 (o idx : Nat) : Prop := Cond.methodLink (g_nm o) idx arraycopyName ∈ g_all ∧ Cond.native arraycopyName ∈ g_all ∧ Cond.static arraycopyName ∈ g_all ∧ Cond.initialized "java/lang/System" ∈ g_all
abbrev x_p10 (o idx : Nat) : Prop := Cond.methodLink (g_nm o) idx Lib.Math.max.name ∈ g_all ∧ Cond.static Lib.Math.max.name ∈ g_all ∧ Cond.initialized "java/lang/Math" ∈ g_all ∧ Cond.code Lib.Math.max.name Lib.Math.max.code 2 (some .int) ∈ g_all
abbrev x_p11 (o idx : Nat) : Prop := Cond.methodLink (g_nm o) idx Lib.Math.min.name ∈ g_all ∧ Cond.static Lib.Math.min.name ∈ g_all ∧ Cond.initialized "java/lang/Math" ∈ g_all ∧ Cond.code Lib.Math.min.name Lib.Math.min.code 2 (some .int) ∈ g_all
abbrev x_mk (k : Nat) : Prop := x_mok g_M g_nm g_yn g_bc g_all k
abbrev x_p1 (o idx k : Nat) : Prop := x_mk k ∧ Cond.methodLink (g_nm o) idx (g_yn k) ∈ g_all ∧ Cond.instanceMethod (g_yn k) ∈ g_all ∧ Cond.selects (g_yn k).cls (g_yn k) (g_yn k) ∈ g_all
abbrev x_p2 (o idx k : Nat) : Prop := x_mk k ∧ Cond.methodLink (g_nm o) idx (g_yn k) ∈ g_all ∧ Cond.instanceMethod (g_yn k) ∈ g_all ∧ (g_yn k).name = "<init>" ∧ x_rt g_M k = none
abbrev x_p3 (o idx k : Nat) : Prop := x_mk k ∧ Cond.methodLink (g_nm o) idx (g_yn k) ∈ g_all ∧ Cond.static (g_yn k) ∈ g_all
abbrev x_p4 (o idx k : Nat) : Prop := x_mk k ∧ Cond.instanceMethod (g_yn k) ∈ g_all ∧ (g_yn k).name = "<init>" ∧ x_rt g_M k = none
abbrev x_p9 (o idx k : Nat) : Prop := x_mk k ∧ Cond.static (g_yn k) ∈ g_all
def x_pok (o : Nat) (e : Nat × Nat × Nat × Nat) : Prop := match e.2.1 with
  | 0 => x_p0 o e.1 e.2.2.1 e.2.2.2
  | 1 => x_p1 o e.1 e.2.2.1
  | 2 => x_p2 o e.1 e.2.2.1
  | 3 => x_p3 o e.1 e.2.2.1
  | 4 => x_p4 o e.1 e.2.2.1
  | 5 => x_p5 o e.1
  | 6 => x_p6 o e.1 e.2.2.1 e.2.2.2
  | 7 => x_p7 o (e.1 - 100000) e.2.2.1
  | 8 => x_p8 o e.1
  | 9 => x_p9 o e.1 e.2.2.1
  | 10 => x_p10 o e.1
  | 11 => x_p11 o e.1
  | _ => True
