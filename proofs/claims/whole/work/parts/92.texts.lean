/-! THE TEXTS outside, and String's members by law (own work; the words' places are printed by wip/gen/p92.py) -/
def zy_pre : MethodName := ⟨"jdk/internal/util/Preconditions", "checkIndex", "(IILjava/util/function/BiFunction;)I"⟩
abbrev zc_pre : ByteArray := prog_22_method_11_code
theorem zm_pre : Cond.code zy_pre zc_pre 3 (some .int) ∈ g_all := g_in (List.mem_of_getElem? (i := 642) (by decide +kernel)) (by decide +kernel)
theorem zd_pre_0 : decode zc_pre 0 = .ok (.iload_n 0, 1) := by decide +kernel
theorem zd_pre_1 : decode zc_pre 1 = .ok (.ifCond .lt 8, 3) := by decide +kernel
theorem zd_pre_4 : decode zc_pre 4 = .ok (.iload_n 0, 1) := by decide +kernel
theorem zd_pre_5 : decode zc_pre 5 = .ok (.iload_n 1, 1) := by decide +kernel
theorem zd_pre_6 : decode zc_pre 6 = .ok (.if_icmp .lt 10, 3) := by decide +kernel
theorem zd_pre_16 : decode zc_pre 16 = .ok (.iload_n 0, 1) := by decide +kernel
theorem zd_pre_17 : decode zc_pre 17 = .ok (.ireturn, 1) := by decide +kernel
def zy_chk : MethodName := ⟨"java/lang/String", "checkIndex", "(II)V"⟩
abbrev zc_chk : ByteArray := prog_17_method_155_code
theorem zm_chk : Cond.code zy_chk zc_chk 2 none ∈ g_all := g_in (List.mem_of_getElem? (i := 637) (by decide +kernel)) (by decide +kernel)
theorem zd_chk_0 : decode zc_chk 0 = .ok (.iload_n 0, 1) := by decide +kernel
theorem zd_chk_1 : decode zc_chk 1 = .ok (.iload_n 1, 1) := by decide +kernel
theorem zd_chk_2 : decode zc_chk 2 = .ok (.getstatic 1053, 3) := by decide +kernel
theorem zd_chk_5 : decode zc_chk 5 = .ok (.invokestatic 1059, 3) := by decide +kernel
theorem zd_chk_8 : decode zc_chk 8 = .ok (.pop, 1) := by decide +kernel
theorem zd_chk_9 : decode zc_chk 9 = .ok (.return_, 1) := by decide +kernel
def zy_lat : MethodName := ⟨"java/lang/StringLatin1", "charAt", "([BI)C"⟩
abbrev zc_lat : ByteArray := prog_18_method_2_code
theorem zm_lat : Cond.code zy_lat zc_lat 2 (some .char) ∈ g_all := g_in (List.mem_of_getElem? (i := 634) (by decide +kernel)) (by decide +kernel)
theorem zd_lat_0 : decode zc_lat 0 = .ok (.iload_n 1, 1) := by decide +kernel
theorem zd_lat_1 : decode zc_lat 1 = .ok (.aload_n 0, 1) := by decide +kernel
theorem zd_lat_2 : decode zc_lat 2 = .ok (.arraylength, 1) := by decide +kernel
theorem zd_lat_3 : decode zc_lat 3 = .ok (.invokestatic 9, 3) := by decide +kernel
theorem zd_lat_6 : decode zc_lat 6 = .ok (.aload_n 0, 1) := by decide +kernel
theorem zd_lat_7 : decode zc_lat 7 = .ok (.iload_n 1, 1) := by decide +kernel
theorem zd_lat_8 : decode zc_lat 8 = .ok (.baload, 1) := by decide +kernel
theorem zd_lat_9 : decode zc_lat 9 = .ok (.sipush 255, 3) := by decide +kernel
theorem zd_lat_12 : decode zc_lat 12 = .ok (.iand, 1) := by decide +kernel
theorem zd_lat_13 : decode zc_lat 13 = .ok (.i2c, 1) := by decide +kernel
theorem zd_lat_14 : decode zc_lat 14 = .ok (.ireturn, 1) := by decide +kernel
def zy_isl : MethodName := ⟨"java/lang/String", "isLatin1", "()Z"⟩
abbrev zc_isl : ByteArray := prog_17_method_154_code
theorem zm_isl : Cond.code zy_isl zc_isl 1 (some .boolean) ∈ g_all := g_in (List.mem_of_getElem? (i := 631) (by decide +kernel)) (by decide +kernel)
theorem zd_isl_0 : decode zc_isl 0 = .ok (.getstatic 38, 3) := by decide +kernel
theorem zd_isl_3 : decode zc_isl 3 = .ok (.ifCond .eq 14, 3) := by decide +kernel
theorem zd_isl_6 : decode zc_isl 6 = .ok (.aload_n 0, 1) := by decide +kernel
theorem zd_isl_7 : decode zc_isl 7 = .ok (.getfield 15, 3) := by decide +kernel
theorem zd_isl_10 : decode zc_isl 10 = .ok (.ifCond .ne 7, 3) := by decide +kernel
theorem zd_isl_13 : decode zc_isl 13 = .ok (.iconst 1, 1) := by decide +kernel
theorem zd_isl_14 : decode zc_isl 14 = .ok (.goto 4, 3) := by decide +kernel
theorem zd_isl_18 : decode zc_isl 18 = .ok (.ireturn, 1) := by decide +kernel
def zy_cod : MethodName := ⟨"java/lang/String", "coder", "()B"⟩
abbrev zc_cod : ByteArray := prog_17_method_152_code
theorem zm_cod : Cond.code zy_cod zc_cod 1 (some .byte) ∈ g_all := g_in (List.mem_of_getElem? (i := 621) (by decide +kernel)) (by decide +kernel)
theorem zd_cod_0 : decode zc_cod 0 = .ok (.getstatic 38, 3) := by decide +kernel
theorem zd_cod_3 : decode zc_cod 3 = .ok (.ifCond .eq 10, 3) := by decide +kernel
theorem zd_cod_6 : decode zc_cod 6 = .ok (.aload_n 0, 1) := by decide +kernel
theorem zd_cod_7 : decode zc_cod 7 = .ok (.getfield 15, 3) := by decide +kernel
theorem zd_cod_10 : decode zc_cod 10 = .ok (.goto 4, 3) := by decide +kernel
theorem zd_cod_14 : decode zc_cod 14 = .ok (.ireturn, 1) := by decide +kernel
def zy_len : MethodName := ⟨"java/lang/String", "length", "()I"⟩
abbrev zc_len : ByteArray := prog_17_method_54_code
theorem zm_len : Cond.code zy_len zc_len 1 (some .int) ∈ g_all := g_in (List.mem_of_getElem? (i := 617) (by decide +kernel)) (by decide +kernel)
theorem zd_len_0 : decode zc_len 0 = .ok (.aload_n 0, 1) := by decide +kernel
theorem zd_len_1 : decode zc_len 1 = .ok (.getfield 9, 3) := by decide +kernel
theorem zd_len_4 : decode zc_len 4 = .ok (.arraylength, 1) := by decide +kernel
theorem zd_len_5 : decode zc_len 5 = .ok (.aload_n 0, 1) := by decide +kernel
theorem zd_len_6 : decode zc_len 6 = .ok (.invokevirtual 335, 3) := by decide +kernel
theorem zd_len_9 : decode zc_len 9 = .ok (.ishr, 1) := by decide +kernel
theorem zd_len_10 : decode zc_len 10 = .ok (.ireturn, 1) := by decide +kernel
def zy_cha : MethodName := ⟨"java/lang/String", "charAt", "(I)C"⟩
abbrev zc_cha : ByteArray := prog_17_method_56_code
theorem zm_cha : Cond.code zy_cha zc_cha 2 (some .char) ∈ g_all := g_in (List.mem_of_getElem? (i := 627) (by decide +kernel)) (by decide +kernel)
theorem zd_cha_0 : decode zc_cha 0 = .ok (.aload_n 0, 1) := by decide +kernel
theorem zd_cha_1 : decode zc_cha 1 = .ok (.invokevirtual 492, 3) := by decide +kernel
theorem zd_cha_4 : decode zc_cha 4 = .ok (.ifCond .eq 12, 3) := by decide +kernel
theorem zd_cha_7 : decode zc_cha 7 = .ok (.aload_n 0, 1) := by decide +kernel
theorem zd_cha_8 : decode zc_cha 8 = .ok (.getfield 9, 3) := by decide +kernel
theorem zd_cha_11 : decode zc_cha 11 = .ok (.iload_n 1, 1) := by decide +kernel
theorem zd_cha_12 : decode zc_cha 12 = .ok (.invokestatic 495, 3) := by decide +kernel
theorem zd_cha_15 : decode zc_cha 15 = .ok (.ireturn, 1) := by decide +kernel
theorem zl_pre : Cond.methodLink "java/lang/String" 1059 zy_pre ∈ g_all := g_in (List.mem_of_getElem? (i := 640) (by decide +kernel)) (by decide +kernel)
theorem zl_chk : Cond.methodLink "java/lang/StringLatin1" 9 zy_chk ∈ g_all := g_in (List.mem_of_getElem? (i := 635) (by decide +kernel)) (by decide +kernel)
theorem zl_lat : Cond.methodLink "java/lang/String" 495 zy_lat ∈ g_all := g_in (List.mem_of_getElem? (i := 632) (by decide +kernel)) (by decide +kernel)
theorem zl_isl : Cond.methodLink "java/lang/String" 492 zy_isl ∈ g_all := g_in (List.mem_of_getElem? (i := 628) (by decide +kernel)) (by decide +kernel)
theorem zl_cod : Cond.methodLink "java/lang/String" 335 zy_cod ∈ g_all := g_in (List.mem_of_getElem? (i := 618) (by decide +kernel)) (by decide +kernel)
theorem zs_pre : Cond.static zy_pre ∈ g_all := g_in (List.mem_of_getElem? (i := 641) (by decide +kernel)) (by decide +kernel)
theorem zs_chk : Cond.static zy_chk ∈ g_all := g_in (List.mem_of_getElem? (i := 636) (by decide +kernel)) (by decide +kernel)
theorem zs_lat : Cond.static zy_lat ∈ g_all := g_in (List.mem_of_getElem? (i := 633) (by decide +kernel)) (by decide +kernel)
theorem zi_isl : Cond.instanceMethod zy_isl ∈ g_all := g_in (List.mem_of_getElem? (i := 629) (by decide +kernel)) (by decide +kernel)
theorem ze_isl : Cond.selects "java/lang/String" zy_isl zy_isl ∈ g_all := g_in (List.mem_of_getElem? (i := 630) (by decide +kernel)) (by decide +kernel)
theorem zi_cod : Cond.instanceMethod zy_cod ∈ g_all := g_in (List.mem_of_getElem? (i := 619) (by decide +kernel)) (by decide +kernel)
theorem ze_cod : Cond.selects "java/lang/String" zy_cod zy_cod ∈ g_all := g_in (List.mem_of_getElem? (i := 620) (by decide +kernel)) (by decide +kernel)
theorem zn_S : Cond.initialized "java/lang/String" ∈ g_all := g_in (List.mem_of_getElem? (i := 131) (by decide +kernel)) (by decide +kernel)
theorem zn_L : Cond.initialized "java/lang/StringLatin1" ∈ g_all := g_in (List.mem_of_getElem? (i := 132) (by decide +kernel)) (by decide +kernel)
theorem zn_P : Cond.initialized "jdk/internal/util/Preconditions" ∈ g_all := g_in (List.mem_of_getElem? (i := 133) (by decide +kernel)) (by decide +kernel)
theorem zf_cs : Cond.fieldLink "java/lang/String" 38 "java/lang/String" "COMPACT_STRINGS" "Z" ∈ g_all := g_in (List.mem_of_getElem? (i := 622) (by decide +kernel)) (by decide +kernel)
theorem zf_co : Cond.fieldLink "java/lang/String" 15 "java/lang/String" "coder" "B" ∈ g_all := g_in (List.mem_of_getElem? (i := 2172) (by decide +kernel)) (by decide +kernel)
theorem zf_va : Cond.fieldLink "java/lang/String" 9 "java/lang/String" "value" "[B" ∈ g_all := g_in (List.mem_of_getElem? (i := 2171) (by decide +kernel)) (by decide +kernel)
theorem zf_si : Cond.fieldLink "java/lang/String" 1053 "jdk/internal/util/Preconditions" "SIOOBE_FORMATTER" "Ljava/util/function/BiFunction;" ∈ g_all := g_in (List.mem_of_getElem? (i := 638) (by decide +kernel)) (by decide +kernel)
theorem zt_cs : Cond.laysStatic "java/lang/String" "COMPACT_STRINGS" "Z" ∈ lw_tbl := List.mem_of_getElem? (i := 623) (by decide +kernel)
theorem zt_si : Cond.laysStatic "jdk/internal/util/Preconditions" "SIOOBE_FORMATTER" "Ljava/util/function/BiFunction;" ∈ lw_tbl := List.mem_of_getElem? (i := 639) (by decide +kernel)
def zx_b : Nat → List Nat
  | 0 => [119, 101, 108, 108]
  | 1 => [108, 101, 118, 101, 108]
  | 2 => [115, 112, 114, 105, 110, 103]
  | 3 => [102, 114, 111, 115, 116]
  | 4 => [112, 101, 114, 115, 111, 110]
  | 5 => [99, 117, 112, 115]
  | 6 => [115, 116, 117, 98, 98, 111, 114, 110]
  | 7 => [109, 97, 116, 116, 101, 114]
  | 8 => [108, 111, 115, 101, 115]
  | 9 => [103, 97, 105, 110, 115]
  | 10 => [111, 110]
  | 11 => [100, 114, 121]
  | 12 => [106, 117, 103]
  | _ => []
/-- class, entry, number of the text, the text -/
def zx_lits : List (Nat × Nat × Nat × String) := [(4, 71, 0, "well"), (4, 77, 1, "level"), (4, 85, 2, "spring"), (4, 89, 3, "frost"), (4, 53, 4, "person"), (4, 96, 5, "cups"), (4, 98, 6, "stubborn"), (4, 62, 7, "matter"), (4, 137, 8, "loses"), (4, 139, 9, "gains"), (4, 130, 10, "on"), (4, 132, 11, "dry"), (4, 133, 12, "jug"), (12, 213, 0, "well"), (12, 215, 1, "level"), (12, 217, 2, "spring"), (12, 219, 3, "frost"), (12, 203, 4, "person"), (12, 205, 7, "matter"), (12, 176, 5, "cups"), (12, 182, 6, "stubborn"), (12, 184, 9, "gains"), (12, 186, 8, "loses"), (12, 194, 10, "on"), (12, 199, 11, "dry"), (12, 201, 12, "jug")]
/-- links among nest mates: class, entry, method -/
def zx_nest : List (Nat × Nat × Nat) := [(11, 11, 80), (4, 11, 80), (11, 92, 62), (11, 99, 8), (2, 11, 80), (8, 45, 117), (5, 53, 117), (9, 79, 117), (1, 66, 117), (6, 68, 117), (3, 44, 117), (10, 92, 117)]
def zx_arr : List String := ["SecondWell$State", "SecondWell$Slot", "SecondWell$Image"]
theorem zx_lits_in : ∀ q ∈ zx_lits, Cond.stringRef (g_nm q.1) q.2.1 q.2.2.2 ∈ lw_tbl := List.forall_mem_cons.mpr ⟨List.mem_of_getElem? (i := 605) (by decide +kernel), List.forall_mem_cons.mpr ⟨List.mem_of_getElem? (i := 666) (by decide +kernel), List.forall_mem_cons.mpr ⟨List.mem_of_getElem? (i := 674) (by decide +kernel), List.forall_mem_cons.mpr ⟨List.mem_of_getElem? (i := 675) (by decide +kernel), List.forall_mem_cons.mpr ⟨List.mem_of_getElem? (i := 676) (by decide +kernel), List.forall_mem_cons.mpr ⟨List.mem_of_getElem? (i := 681) (by decide +kernel), List.forall_mem_cons.mpr ⟨List.mem_of_getElem? (i := 682) (by decide +kernel), List.forall_mem_cons.mpr ⟨List.mem_of_getElem? (i := 687) (by decide +kernel), List.forall_mem_cons.mpr ⟨List.mem_of_getElem? (i := 696) (by decide +kernel), List.forall_mem_cons.mpr ⟨List.mem_of_getElem? (i := 697) (by decide +kernel), List.forall_mem_cons.mpr ⟨List.mem_of_getElem? (i := 714) (by decide +kernel), List.forall_mem_cons.mpr ⟨List.mem_of_getElem? (i := 715) (by decide +kernel), List.forall_mem_cons.mpr ⟨List.mem_of_getElem? (i := 716) (by decide +kernel), List.forall_mem_cons.mpr ⟨List.mem_of_getElem? (i := 1593) (by decide +kernel), List.forall_mem_cons.mpr ⟨List.mem_of_getElem? (i := 1612) (by decide +kernel), List.forall_mem_cons.mpr ⟨List.mem_of_getElem? (i := 1621) (by decide +kernel), List.forall_mem_cons.mpr ⟨List.mem_of_getElem? (i := 1622) (by decide +kernel), List.forall_mem_cons.mpr ⟨List.mem_of_getElem? (i := 1627) (by decide +kernel), List.forall_mem_cons.mpr ⟨List.mem_of_getElem? (i := 1628) (by decide +kernel), List.forall_mem_cons.mpr ⟨List.mem_of_getElem? (i := 1633) (by decide +kernel), List.forall_mem_cons.mpr ⟨List.mem_of_getElem? (i := 1634) (by decide +kernel), List.forall_mem_cons.mpr ⟨List.mem_of_getElem? (i := 1643) (by decide +kernel), List.forall_mem_cons.mpr ⟨List.mem_of_getElem? (i := 1644) (by decide +kernel), List.forall_mem_cons.mpr ⟨List.mem_of_getElem? (i := 1649) (by decide +kernel), List.forall_mem_cons.mpr ⟨List.mem_of_getElem? (i := 1654) (by decide +kernel), List.forall_mem_cons.mpr ⟨List.mem_of_getElem? (i := 1655) (by decide +kernel), fun _ h => absurd h List.not_mem_nil⟩⟩⟩⟩⟩⟩⟩⟩⟩⟩⟩⟩⟩⟩⟩⟩⟩⟩⟩⟩⟩⟩⟩⟩⟩⟩
theorem zx_nest_in : ∀ q ∈ zx_nest, Cond.methodLinkNest (g_nm q.1) q.2.1 (g_yn q.2.2) "SecondWell" ∈ lw_tbl := List.forall_mem_cons.mpr ⟨List.mem_of_getElem? (i := 148) (by decide +kernel), List.forall_mem_cons.mpr ⟨List.mem_of_getElem? (i := 285) (by decide +kernel), List.forall_mem_cons.mpr ⟨List.mem_of_getElem? (i := 473) (by decide +kernel), List.forall_mem_cons.mpr ⟨List.mem_of_getElem? (i := 500) (by decide +kernel), List.forall_mem_cons.mpr ⟨List.mem_of_getElem? (i := 505) (by decide +kernel), List.forall_mem_cons.mpr ⟨List.mem_of_getElem? (i := 796) (by decide +kernel), List.forall_mem_cons.mpr ⟨List.mem_of_getElem? (i := 960) (by decide +kernel), List.forall_mem_cons.mpr ⟨List.mem_of_getElem? (i := 1021) (by decide +kernel), List.forall_mem_cons.mpr ⟨List.mem_of_getElem? (i := 1177) (by decide +kernel), List.forall_mem_cons.mpr ⟨List.mem_of_getElem? (i := 1220) (by decide +kernel), List.forall_mem_cons.mpr ⟨List.mem_of_getElem? (i := 1273) (by decide +kernel), List.forall_mem_cons.mpr ⟨List.mem_of_getElem? (i := 1341) (by decide +kernel), fun _ h => absurd h List.not_mem_nil⟩⟩⟩⟩⟩⟩⟩⟩⟩⟩⟩⟩
theorem zx_arr_in : ∀ C ∈ zx_arr, Cond.arrayOver (.object C) ∈ lw_tbl := List.forall_mem_cons.mpr ⟨List.mem_of_getElem? (i := 380) (by decide +kernel), List.forall_mem_cons.mpr ⟨List.mem_of_getElem? (i := 471) (by decide +kernel), List.forall_mem_cons.mpr ⟨List.mem_of_getElem? (i := 498) (by decide +kernel), fun _ h => absurd h List.not_mem_nil⟩⟩⟩
/-- what stands outside: the texts, links among nest mates, rows of references, two statics -/
def zx_E (ad : Nat → Nat) (B : Nat) (zv : Value) (U : State) : Prop :=
  (∀ q ∈ zx_lits, vk_R (g_nm q.1) q.2.1 q.2.2.2 (ad (x_lim + q.2.2.1)) U) ∧ (∀ q ∈ zx_nest, va_Nw (.methodLinkNest (g_nm q.1) q.2.1 (g_yn q.2.2) "SecondWell") U) ∧ (∀ C ∈ zx_arr, va_AO C U) ∧
  (∀ w, w < 13 → va_O "java/lang/String" (ad (x_lim + w)) (x_A B) U U.heap ∧ va_OF "java/lang/String" "coder" "B" (.int 0) (ad (x_lim + w)) (x_A B) U U.heap ∧ va_OF "java/lang/String" "value" "[B" (.ref (ad (x_lim + 100 + w))) (ad (x_lim + w)) (x_A B) U U.heap ∧ va_T .byte (ad (x_lim + 100 + w)) (zx_b w).length (fun j => .int (nI ((zx_b w).getD j 0))) (x_A B) U U.heap) ∧
  va_Z "java/lang/String" "COMPACT_STRINGS" "Z" (.int 1) (x_A B) U U.heap ∧ va_Z "jdk/internal/util/Preconditions" "SIOOBE_FORMATTER" "Ljava/util/function/BiFunction;" (x_v ad zv) (x_A B) U U.heap
theorem zx_Eo (ad : Nat → Nat) (B : Nat) (zv : Value) : x_Eo B (zx_E ad B zv) := by
  refine ⟨fun U g mk a h => ?_, fun u U h hW hB hq => ?_⟩
  · obtain ⟨h1, h2, h3, h4, h5, h6⟩ := h
    refine ⟨fun q hq => (h1 q hq).same rfl, fun q hq => (h2 q hq).same rfl rfl, fun C hC => va_AO.moved (Vm.Alike.refl _) (h3 C hC), fun w hw => ?_, ?_, ?_⟩
    · obtain ⟨a1, a2, a3, a4⟩ := h4 w hw
      exact ⟨va_O.moved (Vm.Alike.refl _) a1, va_OF.moved (Vm.Alike.refl _) a2, va_OF.moved (Vm.Alike.refl _) a3, va_T.moved (Vm.Alike.refl _) a4⟩
    · exact va_Z.moved (Vm.Alike.refl _) h5
    · exact va_Z.moved (Vm.Alike.refl _) h6
  · obtain ⟨h1, h2, h3, h4, h5, h6⟩ := h
    have hk : ∀ a : Nat, a < u.heap.size → ¬ x_A B a → U.heap[a]? = u.heap[a]? := fun a _ ha => hq a (by unfold x_A at ha; omega)
    refine ⟨fun q hq => (h1 q hq).warm hW, fun q hq => (h2 q hq).warmM hW, fun C hC => va_AO.moved hW.alike (h3 C hC), fun w hw => ?_, ?_, ?_⟩
    · obtain ⟨a1, a2, a3, a4⟩ := h4 w hw
      exact ⟨va_O.moved hW.alike (a1.kept hk), va_OF.moved hW.alike (a2.kept hk), va_OF.moved hW.alike (a3.kept hk), va_T.moved hW.alike (a4.kept hk)⟩
    · exact va_Z.moved hW.alike (h5.kept hk)
    · exact va_Z.moved hW.alike (h6.kept hk)
def zx_ck1 : Bool := (List.range 18).all fun o => (g_cons.getD o []).all fun e => match e.2 with
  | .ref r => zx_lits.any (fun q => q.1 == o && (q.2.1 == e.1 && x_lim + q.2.2.1 == r))
  | _ => true
theorem zx_ck1_ok : zx_ck1 = true := by decide +kernel
def zx_ck2 : Bool := (List.range 18).all fun o => (g_pools.getD o []).all fun e => if e.2.1 = 4 ∨ e.2.1 = 9 then zx_nest.contains (o, e.1, e.2.2.1) else true
theorem zx_ck2_ok : zx_ck2 = true := by decide +kernel
theorem zx_o {α : Type} {ls : List (List α)} (h : ls.length = 18) {o : Nat} {e : α} (he : e ∈ ls.getD o []) : o ∈ List.range 18 := by
  rw [List.mem_range]
  rcases Nat.lt_or_ge o 18 with q | q
  · exact q
  · rw [List.getD_eq_getElem?_getD, List.getElem?_eq_none (by omega)] at he
    cases he
theorem zx_LS {b B : Nat} {ext : Nat → Nat} {zv : Value} : x_LS g_M g_nm g_yn g_tys b B ext (zx_E (x_ad b B ext) B zv) := by
  refine ⟨fun o idx r h => ?_, fun o idx t k z h ht U hU => ?_, fun o idx kd z C h hC U hU => ?_⟩
  · have h1 : (idx, Value.ref r) ∈ g_cons.getD o [] := x_lookup h
    have h2 := List.all_eq_true.mp (List.all_eq_true.mp zx_ck1_ok o (zx_o rfl h1)) _ h1
    simp only at h2
    obtain ⟨q, hq, h3⟩ := List.any_eq_true.mp h2
    simp only [Bool.and_eq_true, beq_iff_eq] at h3
    obtain ⟨e1, e2, e3⟩ := h3
    refine ⟨q.2.2.2, fun U hU => ?_⟩
    have := hU.1 q hq
    rw [e1, e2, e3] at this
    exact this
  · have h1 : (idx, t, k, z) ∈ g_pools.getD o [] := x_lookup h
    have h2 := List.all_eq_true.mp (List.all_eq_true.mp zx_ck2_ok o (zx_o rfl h1)) _ h1
    simp only [ht, if_true] at h2
    exact hU.2.1 _ (List.contains_iff_mem.mp h2)
  · refine hU.2.2.1 C ?_
    have hk : kd < 7 := (List.getElem?_eq_some_iff.mp hC).1
    have : ∀ kd, kd < 7 → ∀ C, g_tys[kd]? = some (.object C) → C ∈ zx_arr := by
      intro kd hkd C hC
      rcases (show kd = 0 ∨ kd = 1 ∨ kd = 2 ∨ kd = 3 ∨ kd = 4 ∨ kd = 5 ∨ kd = 6 by omega) with rfl | rfl | rfl | rfl | rfl | rfl | rfl
      · cases hC
      · cases hC
      · cases hC
      · cases hC
      · cases hC; decide
      · cases hC; decide
      · cases hC; decide
    exact this kd hk C hC
section STR
variable {l : Launch} {D : va_G} {cA : Nat → ClassId} {b B : Nat} {ext : Nat → Nat} {zv : Value} {h : xH} {E : State → Prop}
theorem zx_open {y : MethodName} {cc : ByteArray} {n : Nat} {ret : Option FieldType} {rm : Room} {as : List Value} {v : Option Value} (hy : plainName y.cls = true) (hwd : x_wd as ≤ n)
    (body : ∀ (p : Program) (e : Env) (s : State) (m : MethodId) (args : Array Value) (below : List Frame) (meth : Method) (c : Code) (ls : Array Slot), p.tables.exec = Jvm.exec → c.code = cc → c.maxLocals = n → meth.sig.returnType = ret → meth.locks = false → s.vm.findClass y.cls = some m.cls → (∀ w ∈ g_all, w.before args s = true) → x_w g_cl D cA b B ext h s.heap → x_Kn g_cl g_tys D cA s → E s → B < s.heap.size → lv_has ls n (lv_args 0 (as.map (x_v (x_ad b B ext)))) →
      W p l e rm s m args below meth c s.heap [] 0 0 (MQ below (x_Qc g_cl D cA b B ext (v, h)) args s 0 0 (x_A B)) (F0 m 0 ls [])) :
    Met l y (Cond.code y cc n ret :: g_all) rm (x_Pc g_cl g_tys D cA b B ext E as h) (x_Qc g_cl D cA b B ext (v, h)) 0 0 (x_A B) := by
  refine Met.ofW (cc := cc) (maxL := n) (ret := ret) hy rfl ?_
  intro p e s m args below meth c s₁ Bd hml hv
  obtain ⟨rfl, hw, hK, hEs⟩ := hv
  have hts := atoms_spec (ws := Cond.code y cc n ret :: g_all) Bd.pre
  have hown : s.vm.findClass y.cls = some m.cls := findClass_of_methodNamed Bd.named
  have h0 : 0 < h.length := by
    obtain ⟨xs, hx0⟩ := hw.2.2.2.1
    exact (List.getElem?_eq_some_iff.mp hx0).1
  have hB : B < s.heap.size := by rw [hw.1]; omega
  have hl := lv_entry (as.map (x_v (x_ad b B ext))) (n := n) (by rw [x_lg_len]; exact hwd)
  rw [lg_entry_eq]
  exact body p e s m _ below meth c _ Bd.exec Bd.bytes hml Bd.returns Bd.notSynchronized hown (fun w hw => hts w (List.mem_cons_of_mem _ hw)) hw hK hEs hB hl
section CALL
variable {p : Program} {e : Env} {R : Room} {s : State} {m : MethodId} {args : Array Value} {below : List Frame} {meth : Method} {c : Code} {Q : State → Prop} {H : Heap} {locs : List Loc} {ls : Array Slot} {cells slots pc nL : Nat} {cc : ByteArray} {own : String}
theorem zx_stat {y : MethodName} {cc' : ByteArray} {n idx d : Nat} {ret : Option FieldType} {as rest : List Value} {v : Option Value} (hx : p.tables.exec = Jvm.exec) (hb : c.code = cc) (hml : c.maxLocals = nL) (hown : s.vm.findClass own = some m.cls) (hts : ∀ w ∈ g_all, w.before args s = true) (hE : x_Eo B E) (hEs : E s) (hB : B < s.heap.size) (hK : x_Kn g_cl g_tys D cA s)
    (hM : Met l y (Cond.code y cc' n ret :: g_all) (x_rm d 0 0) (x_Pc g_cl g_tys D cA b B ext E as h) (x_Qc g_cl D cA b B ext (v, h)) 0 0 (x_A B)) (h1 : Cond.code y cc' n ret ∈ g_all) (h2 : Cond.methodLink own idx y ∈ g_all) (h3 : Cond.static y ∈ g_all) (h4 : Cond.initialized y.cls ∈ g_all)
    (h5 : y.cls ≠ "java/lang/invoke/MethodHandle" ∧ y.cls ≠ "java/lang/invoke/VarHandle" ∧ (parseMethodDescriptor y.desc).map (fun d => d.parameters.length) = some as.length) (h6 : n ≤ 40) (hR : d + 1 ≤ R.frames ∧ (d + 1) * 59 ≤ R.locals) (hc : cells ≤ R.cells ∧ slots ≤ R.slots) (hw : x_w g_cl D cA b B ext h H) (hS : va_S (x_A B) s.heap H locs) (hsz : ls.size = nL) (hsum : (rest.map fun v => v.category).sum ≤ 8) (hd : decode cc pc = .ok (.invokestatic idx, 3))
    (kk : ∀ (H1 : Heap) (locs1 : List Loc), x_w g_cl D cA b B ext h H1 → va_S (x_A B) s.heap H1 locs1 → W p l e R s m args below meth c H1 locs1 cells slots Q (F0 m (pc + 3) ls ((v.map (x_v (x_ad b B ext))).toList ++ rest))) :
    W p l e R s m args below meth c H locs cells slots Q (F0 m pc ls ((as.map (x_v (x_ad b B ext))).reverse ++ rest)) := by
  have hRR : (x_rm d 0 0).frames + 1 ≤ R.frames ∧ 8 + (n + 11) + (x_rm d 0 0).locals ≤ R.locals := ⟨hR.1, by show 8 + (n + 11) + d * 59 ≤ R.locals; have := hR.2; omega⟩
  have cw := va_cwS (own := own) (index := idx) (R := R) (rm := x_rm d 0 0) (mc := 0) (ms := 0) as.length hts (x_goodIn g_T (va_wsS own idx y (Cond.code y cc' n ret :: g_all)) (fun w hw => by
    unfold va_wsS at hw
    rcases List.mem_append.mp hw with hw | hw
    · simp only [List.mem_cons, List.not_mem_nil, or_false] at hw
      rcases hw with rfl | rfl | rfl
      · exact h2
      · exact h3
      · exact h4
    · exact (List.mem_cons.mp hw).elim (fun z => by rw [z]; exact h1) id)) rfl rfl rfl h5 hRR
  have hrun := va_runS (l := l) (e := e) (below := below) (meth := meth) (locs := locs) (cells := cells) (slots := slots) (H := H) (As := as.map (x_v (x_ad b B ext))) (rest := rest) (g := F0 m pc ls ((as.map (x_v (x_ad b B ext))).reverse ++ rest)) (nL := nL) (cc := cc) (Ts := g_all) ⟨hx, hb, hml, hown, hts⟩ hM cw ⟨x_blind hE _, x_enter hE hEs hB hK hw hS as⟩ rfl (by rw [List.length_map]) hsz rfl (by show 2 * 0 + _ ≤ 8; omega) hd ⟨by omega, by omega⟩
  exact x_after hrun hS kk
theorem zx_virt {y : MethodName} {cc' : ByteArray} {n idx d r : Nat} {ret : Option FieldType} {as rest : List Value} {v : Option Value} (hx : p.tables.exec = Jvm.exec) (hb : c.code = cc) (hml : c.maxLocals = nL) (hown : s.vm.findClass own = some m.cls) (hts : ∀ w ∈ g_all, w.before args s = true) (hE : x_Eo B E) (hEs : E s) (hB : B < s.heap.size) (hK : x_Kn g_cl g_tys D cA s)
    (hM : Met l y (Cond.code y cc' n ret :: g_all) (x_rm d 0 0) (x_Pc g_cl g_tys D cA b B ext E (.ref r :: as) h) (x_Qc g_cl D cA b B ext (v, h)) 0 0 (x_A B)) (h1 : Cond.code y cc' n ret ∈ g_all) (h2 : Cond.methodLink own idx y ∈ g_all) (h3 : Cond.instanceMethod y ∈ g_all) (h3' : Cond.selects y.cls y y ∈ g_all) (h4 : Cond.initialized y.cls ∈ g_all)
    (h5 : y.cls ≠ "java/lang/invoke/MethodHandle" ∧ y.cls ≠ "java/lang/invoke/VarHandle" ∧ (parseMethodDescriptor y.desc).map (fun d => d.parameters.length) = some as.length) (h6 : n ≤ 40) (hcell : va_O y.cls (x_ad b B ext r) (x_A B) s s.heap) (hR : d + 1 ≤ R.frames ∧ (d + 1) * 59 ≤ R.locals) (hc : cells ≤ R.cells ∧ slots ≤ R.slots) (hw : x_w g_cl D cA b B ext h H) (hS : va_S (x_A B) s.heap H locs) (hsz : ls.size = nL) (hsum : (rest.map fun v => v.category).sum ≤ 8) (hd : decode cc pc = .ok (.invokevirtual idx, 3))
    (kk : ∀ (H1 : Heap) (locs1 : List Loc), x_w g_cl D cA b B ext h H1 → va_S (x_A B) s.heap H1 locs1 → W p l e R s m args below meth c H1 locs1 cells slots Q (F0 m (pc + 3) ls ((v.map (x_v (x_ad b B ext))).toList ++ rest))) :
    W p l e R s m args below meth c H locs cells slots Q (F0 m pc ls ((as.map (x_v (x_ad b B ext))).reverse ++ .ref (x_ad b B ext r) :: rest)) := by
  have hRR : (x_rm d 0 0).frames + 1 ≤ R.frames ∧ 8 + (n + 11) + (x_rm d 0 0).locals ≤ R.locals := ⟨hR.1, by show 8 + (n + 11) + d * 59 ≤ R.locals; have := hR.2; omega⟩
  have cw := cwV (C := y.cls) (own := own) (index := idx) (R := R) (rm := x_rm d 0 0) (mc := 0) (ms := 0) as.length hts (x_goodIn g_T (wsV own idx y.cls y (Cond.code y cc' n ret :: g_all)) (fun w hw => by
    unfold wsV at hw
    rcases List.mem_append.mp hw with hw | hw
    · simp only [List.mem_cons, List.not_mem_nil, or_false] at hw
      rcases hw with rfl | rfl | rfl | rfl
      · exact h2
      · exact h3
      · exact h3'
      · exact h4
    · exact (List.mem_cons.mp hw).elim (fun z => by rw [z]; exact h1) id)) rfl rfl rfl ⟨rfl, h5⟩ hRR
  have hcl : ∃ cellB : Cell, H[x_ad b B ext r]? = some cellB ∧ cellB.vm.isStatics = false ∧ s.vm.findClass y.cls = some cellB.cls := by
    obtain ⟨cell, z1, z2, z3, -⟩ := hcell.kept hS.2.1
    exact ⟨cell, z1, z2, z3⟩
  have hrun := va_runV (l := l) (e := e) (below := below) (meth := meth) (locs := locs) (cells := cells) (slots := slots) (H := H) (b := x_ad b B ext r) (As := as.map (x_v (x_ad b B ext))) (rest := rest) (g := F0 m pc ls ((as.map (x_v (x_ad b B ext))).reverse ++ .ref (x_ad b B ext r) :: rest)) (nL := nL) (cc := cc) (Ts := g_all) ⟨hx, hb, hml, hown, hts⟩ hM cw ⟨x_blind hE _, hcl, x_enter hE hEs hB hK hw hS (.ref r :: as)⟩ rfl (by rw [List.length_map]) hsz rfl (by show 2 * 0 + _ ≤ 8; omega) hd ⟨by omega, by omega⟩
  exact x_after hrun hS kk
end CALL
theorem zx_pre {i n : Nat} (hz : zv.category = 1) (hi : i < n) (hn : n < 2 ^ 31) (d : Nat) : Met l zy_pre (Cond.code zy_pre zc_pre 3 (some .int) :: g_all) (x_rm d 0 0) (x_Pc g_cl g_tys D cA b B ext (zx_E (x_ad b B ext) B zv) [.int (nI i), .int (nI n), zv] h) (x_Qc g_cl D cA b B ext (some (.int (nI i)), h)) 0 0 (x_A B) := by
  refine zx_open (by decide) (by simp only [x_wd, hz]; simp [Value.category]) ?_
  intro p e s m args below meth c ls hx hb hml hr hlk hown hts hw hK hE hB hl
  have e0 : ls[0]? = some (.val (.int (nI i))) := lv_at hl 0 rfl
  have e1 : ls[1]? = some (.val (.int (nI n))) := lv_at hl 1 rfl
  refine lv_iload_n hx hb zd_pre_0 rfl e0 ?_
  refine lv_if_lt hx hb zd_pre_1 (tgt := 9) rfl (fun z => absurd z (nI_pos (by omega))) (fun _ => ?_)
  refine lv_iload_n hx hb zd_pre_4 rfl e0 ?_
  refine lv_iload_n hx hb zd_pre_5 rfl e1 ?_
  refine lv_icmp_lt hx hb zd_pre_6 (tgt := 16) rfl (fun _ => ?_) (fun z => absurd (nI_lt hi hn) z)
  refine lv_iload_n hx hb zd_pre_16 rfl e0 ?_
  exact W.zret hx hb hr rfl (fun t ht hW => ⟨rfl, by rw [ht]; exact hw, va_S.rf.F ht⟩) (fun q hq => by cases hq) zd_pre_17
theorem zx_chk {i n : Nat} (hz : zv.category = 1) (hi : i < n) (hn : n < 2 ^ 31) (d : Nat) : Met l zy_chk (Cond.code zy_chk zc_chk 2 none :: g_all) (x_rm (d + 1) 0 0) (x_Pc g_cl g_tys D cA b B ext (zx_E (x_ad b B ext) B zv) [.int (nI i), .int (nI n)] h) (x_Qc g_cl D cA b B ext (none, h)) 0 0 (x_A B) := by
  refine zx_open (by decide) (by simp [x_wd, Value.category]) ?_
  intro p e s m args below meth c ls hx hb hml hr hlk hown hts hw hK hE hB hl
  have e0 : ls[0]? = some (.val (.int (nI i))) := lv_at hl 0 rfl
  have e1 : ls[1]? = some (.val (.int (nI n))) := lv_at hl 1 rfl
  refine lv_iload_n hx hb zd_chk_0 rfl e0 ?_
  refine lv_iload_n hx hb zd_chk_1 rfl e1 ?_
  refine va_gets (own := "java/lang/String") hx hb hE.2.2.2.2.2 va_S.rf hown (hts _ zf_si) (fun x hx => hx) zd_chk_2 ?_
  refine zx_stat (as := [.int (nI i), .int (nI n), zv]) (rest := []) hx hb hml hown hts (zx_Eo _ B zv) hE hB hK (zx_pre hz hi hn d) zm_pre zl_pre zs_pre zn_P ⟨by decide, by decide, show (parseMethodDescriptor zy_pre.desc).map (fun d => d.parameters.length) = some 3 by decide +kernel⟩ (by omega) ⟨Nat.le_refl _, Nat.le_refl _⟩ ⟨Nat.le_refl _, Nat.le_refl _⟩ hw va_S.rf hl.1 (by decide) zd_chk_5 ?_
  intro H1 locs1 hw1 hS1
  refine lv_pop hx hb zd_chk_8 rfl ?_
  exact W.vret hx hb hr (fun t ht hW => ⟨rfl, by rw [ht]; exact hw1, hS1.F ht⟩) hS1.2.2 zd_chk_9
theorem zx_ch : ∀ w, w < 13 → (zx_b w).length < 9 ∧ ∀ j, j < (zx_b w).length → (zx_b w).getD j 0 < 128 := by decide
theorem zx_255 : ∀ n, n < 128 → nI n &&& 255 = nI n := by decide +kernel
theorem zx_lat {w j : Nat} (hz : zv.category = 1) (hw13 : w < 13) (hj : j < (zx_b w).length) (d : Nat) : Met l zy_lat (Cond.code zy_lat zc_lat 2 (some .char) :: g_all) (x_rm (d + 2) 0 0) (x_Pc g_cl g_tys D cA b B ext (zx_E (x_ad b B ext) B zv) [.ref (x_lim + 100 + w), .int (nI j)] h) (x_Qc g_cl D cA b B ext (some (.int (nI ((zx_b w).getD j 0))), h)) 0 0 (x_A B) := by
  obtain ⟨q1, q2⟩ := zx_ch w hw13
  refine zx_open (by decide) (by simp [x_wd, Value.category]) ?_
  intro p e s m args below meth c ls hx hb hml hr hlk hown hts hw hK hE hB hl
  have e0 : ls[0]? = some (.val (.ref (x_ad b B ext (x_lim + 100 + w)))) := lv_at hl 0 rfl
  have e1 : ls[1]? = some (.val (.int (nI j))) := lv_at hl 1 rfl
  have hT := (hE.2.2.2.1 w hw13).2.2.2
  refine lv_iload_n hx hb zd_lat_0 rfl e1 ?_
  refine lv_aload_n hx hb zd_lat_1 rfl e0 ?_
  refine va_tlen hx hb hT va_S.rf (v := nI (zx_b w).length) rfl zd_lat_2 ?_
  refine zx_stat (as := [.int (nI j), .int (nI (zx_b w).length)]) (rest := []) hx hb hml hown hts (zx_Eo _ B zv) hE hB hK (zx_chk hz hj (by omega) d) zm_chk zl_chk zs_chk zn_S ⟨by decide, by decide, show (parseMethodDescriptor zy_chk.desc).map (fun d => d.parameters.length) = some 2 by decide +kernel⟩ (by omega) ⟨Nat.le_refl _, Nat.le_refl _⟩ ⟨Nat.le_refl _, Nat.le_refl _⟩ hw va_S.rf hl.1 (by decide) zd_lat_3 ?_
  intro H1 locs1 hw1 hS1
  refine lv_aload_n hx hb zd_lat_6 rfl e0 ?_
  refine lv_iload_n hx hb zd_lat_7 rfl e1 ?_
  refine va_tb hx hb hT hS1 (i := nI j) (vp_in_nI hj (by omega)) (v := .int (nI ((zx_b w).getD j 0))) (by rw [nI_clamp (by omega)]) zd_lat_8 ?_
  refine lv_sipush hx hb zd_lat_9 (v := 255) (by decide) ?_
  refine lv_iand hx hb zd_lat_12 ?_
  refine lv_i2c hx hb zd_lat_13 (sc_c2 _) ?_
  rw [zx_255 _ (q2 j hj)]
  exact W.zret hx hb hr (by have := sc_nar (nI ((zx_b w).getD j 0)); rw [zx_255 _ (q2 j hj)] at this; exact this) (fun t ht hW => ⟨rfl, by rw [ht]; exact hw1, hS1.F ht⟩) hS1.2.2 zd_lat_14
theorem zx_isl {w : Nat} (hw13 : w < 13) (d : Nat) : Met l zy_isl (Cond.code zy_isl zc_isl 1 (some .boolean) :: g_all) (x_rm d 0 0) (x_Pc g_cl g_tys D cA b B ext (zx_E (x_ad b B ext) B zv) [.ref (x_lim + w)] h) (x_Qc g_cl D cA b B ext (some (.int 1), h)) 0 0 (x_A B) := by
  refine zx_open (by decide) (by simp [x_wd, Value.category]) ?_
  intro p e s m args below meth c ls hx hb hml hr hlk hown hts hw hK hE hB hl
  have e0 : ls[0]? = some (.val (.ref (x_ad b B ext (x_lim + w)))) := lv_at hl 0 rfl
  refine va_gets (own := "java/lang/String") hx hb hE.2.2.2.2.1 va_S.rf hown (hts _ zf_cs) (fun x hx => hx) zd_isl_0 ?_
  refine lv_if_eq hx hb zd_isl_3 (tgt := 17) rfl (fun z => absurd z (by decide)) (fun _ => ?_)
  refine lv_aload_n hx hb zd_isl_6 rfl e0 ?_
  refine vk_getf (own := "java/lang/String") hx hb (hE.2.2.2.1 w hw13).2.1 va_S.rf hown (hts _ zf_co) (fun x hx => hx) zd_isl_7 ?_
  refine lv_if_ne hx hb zd_isl_10 (tgt := 17) rfl (fun z => absurd rfl z) (fun _ => ?_)
  refine lv_iconst hx hb zd_isl_13 (v := 1) rfl ?_
  refine lv_goto hx hb zd_isl_14 (tgt := 18) rfl ?_
  exact W.zret hx hb hr (by decide) (fun t ht hW => ⟨rfl, by rw [ht]; exact hw, va_S.rf.F ht⟩) (fun q hq => by cases hq) zd_isl_18
theorem zx_cod {w : Nat} (hw13 : w < 13) (d : Nat) : Met l zy_cod (Cond.code zy_cod zc_cod 1 (some .byte) :: g_all) (x_rm d 0 0) (x_Pc g_cl g_tys D cA b B ext (zx_E (x_ad b B ext) B zv) [.ref (x_lim + w)] h) (x_Qc g_cl D cA b B ext (some (.int 0), h)) 0 0 (x_A B) := by
  refine zx_open (by decide) (by simp [x_wd, Value.category]) ?_
  intro p e s m args below meth c ls hx hb hml hr hlk hown hts hw hK hE hB hl
  have e0 : ls[0]? = some (.val (.ref (x_ad b B ext (x_lim + w)))) := lv_at hl 0 rfl
  refine va_gets (own := "java/lang/String") hx hb hE.2.2.2.2.1 va_S.rf hown (hts _ zf_cs) (fun x hx => hx) zd_cod_0 ?_
  refine lv_if_eq hx hb zd_cod_3 (tgt := 13) rfl (fun z => absurd z (by decide)) (fun _ => ?_)
  refine lv_aload_n hx hb zd_cod_6 rfl e0 ?_
  refine vk_getf (own := "java/lang/String") hx hb (hE.2.2.2.1 w hw13).2.1 va_S.rf hown (hts _ zf_co) (fun x hx => hx) zd_cod_7 ?_
  refine lv_goto hx hb zd_cod_10 (tgt := 14) rfl ?_
  exact W.zret hx hb hr (by decide) (fun t ht hW => ⟨rfl, by rw [ht]; exact hw, va_S.rf.F ht⟩) (fun q hq => by cases hq) zd_cod_14
theorem zx_len {w : Nat} (hw13 : w < 13) (d : Nat) : Met l zy_len (Cond.code zy_len zc_len 1 (some .int) :: g_all) (x_rm (d + 1) 0 0) (x_Pc g_cl g_tys D cA b B ext (zx_E (x_ad b B ext) B zv) [.ref (x_lim + w)] h) (x_Qc g_cl D cA b B ext (some (.int (nI (zx_b w).length)), h)) 0 0 (x_A B) := by
  obtain ⟨q1, q2⟩ := zx_ch w hw13
  refine zx_open (by decide) (by simp [x_wd, Value.category]) ?_
  intro p e s m args below meth c ls hx hb hml hr hlk hown hts hw hK hE hB hl
  have e0 : ls[0]? = some (.val (.ref (x_ad b B ext (x_lim + w)))) := lv_at hl 0 rfl
  obtain ⟨r1, r2, r3, r4⟩ := hE.2.2.2.1 w hw13
  refine lv_aload_n hx hb zd_len_0 rfl e0 ?_
  refine vk_getf (own := "java/lang/String") hx hb r3 va_S.rf hown (hts _ zf_va) (fun x hx => hx) zd_len_1 ?_
  refine va_tlen hx hb r4 va_S.rf (v := nI (zx_b w).length) rfl zd_len_4 ?_
  refine lv_aload_n hx hb zd_len_5 rfl e0 ?_
  refine zx_virt (as := []) (rest := [.int (nI (zx_b w).length)]) hx hb hml hown hts (zx_Eo _ B zv) hE hB hK (zx_cod hw13 d) zm_cod zl_cod zi_cod ze_cod zn_S ⟨by decide, by decide, show (parseMethodDescriptor zy_cod.desc).map (fun d => d.parameters.length) = some 0 by decide +kernel⟩ (by omega) r1 ⟨Nat.le_refl _, Nat.le_refl _⟩ ⟨Nat.le_refl _, Nat.le_refl _⟩ hw va_S.rf hl.1 (by simp [Value.category]) zd_len_6 ?_
  intro H1 locs1 hw1 hS1
  refine lv_ishr hx hb zd_len_9 ?_
  rw [sc_shr0 (by omega)]
  exact W.zret hx hb hr rfl (fun t ht hW => ⟨rfl, by rw [ht]; exact hw1, hS1.F ht⟩) hS1.2.2 zd_len_10
theorem zx_cha {w j : Nat} (hz : zv.category = 1) (hw13 : w < 13) (hj : j < (zx_b w).length) (d : Nat) : Met l zy_cha (Cond.code zy_cha zc_cha 2 (some .char) :: g_all) (x_rm (d + 3) 0 0) (x_Pc g_cl g_tys D cA b B ext (zx_E (x_ad b B ext) B zv) [.ref (x_lim + w), .int (nI j)] h) (x_Qc g_cl D cA b B ext (some (.int (nI ((zx_b w).getD j 0))), h)) 0 0 (x_A B) := by
  obtain ⟨q1, q2⟩ := zx_ch w hw13
  refine zx_open (by decide) (by simp [x_wd, Value.category]) ?_
  intro p e s m args below meth c ls hx hb hml hr hlk hown hts hw hK hE hB hl
  have e0 : ls[0]? = some (.val (.ref (x_ad b B ext (x_lim + w)))) := lv_at hl 0 rfl
  have e1 : ls[1]? = some (.val (.int (nI j))) := lv_at hl 1 rfl
  obtain ⟨r1, r2, r3, r4⟩ := hE.2.2.2.1 w hw13
  refine lv_aload_n hx hb zd_cha_0 rfl e0 ?_
  refine zx_virt (as := []) (rest := []) hx hb hml hown hts (zx_Eo _ B zv) hE hB hK (zx_isl hw13 (d + 2)) zm_isl zl_isl zi_isl ze_isl zn_S ⟨by decide, by decide, show (parseMethodDescriptor zy_isl.desc).map (fun d => d.parameters.length) = some 0 by decide +kernel⟩ (by omega) r1 ⟨Nat.le_refl _, Nat.le_refl _⟩ ⟨Nat.le_refl _, Nat.le_refl _⟩ hw va_S.rf hl.1 (by decide) zd_cha_1 ?_
  intro H1 locs1 hw1 hS1
  refine lv_if_eq hx hb zd_cha_4 (tgt := 16) rfl (fun z => absurd z (by decide)) (fun _ => ?_)
  refine lv_aload_n hx hb zd_cha_7 rfl e0 ?_
  refine vk_getf (own := "java/lang/String") hx hb r3 hS1 hown (hts _ zf_va) (fun x hx => hx) zd_cha_8 ?_
  refine lv_iload_n hx hb zd_cha_11 rfl e1 ?_
  refine zx_stat (as := [.ref (x_lim + 100 + w), .int (nI j)]) (rest := []) hx hb hml hown hts (zx_Eo _ B zv) hE hB hK (zx_lat hz hw13 hj d) zm_lat zl_lat zs_lat zn_L ⟨by decide, by decide, show (parseMethodDescriptor zy_lat.desc).map (fun d => d.parameters.length) = some 2 by decide +kernel⟩ (by omega) ⟨Nat.le_refl _, Nat.le_refl _⟩ ⟨Nat.le_refl _, Nat.le_refl _⟩ hw1 hS1 hl.1 (by decide) zd_cha_12 ?_
  intro H2 locs2 hw2 hS2
  exact W.zret hx hb hr (by have := sc_nar (nI ((zx_b w).getD j 0)); rw [zx_255 _ (q2 j hj)] at this; exact this) (fun t ht hW => ⟨rfl, by rw [ht]; exact hw2, hS2.F ht⟩) hS2.2.2 zd_cha_15
/-- what String.length and charAt answer -/
def zx_P (k : Nat) (as : List Value) : Option Value := match as with
  | [.ref r] => if k = 340 ∧ x_lim ≤ r ∧ r < x_lim + 13 then some (.int (nI (zx_b (r - x_lim)).length)) else none
  | [.ref r, .int i] => if k = 341 ∧ x_lim ≤ r ∧ r < x_lim + 13 ∧ ¬ i < 0 ∧ i.toNatClampNeg < (zx_b (r - x_lim)).length then some (.int (nI ((zx_b (r - x_lim)).getD i.toNatClampNeg 0))) else none
  | _ => none
theorem zx_Po (hz : zv.category = 1) : x_Po l g_M g_nm g_yn g_bc g_all g_cl g_tys D cA b B ext (zx_E (x_ad b B ext) B zv) zx_P := by
  intro k as v hpr hP hok
  unfold zx_P at hP
  split at hP
  · rename_i r
    split at hP
    · rename_i hc
      obtain ⟨rfl, c1, c2⟩ := hc
      obtain ⟨w, rfl⟩ : ∃ w, r = x_lim + w := ⟨r - x_lim, (Nat.add_sub_of_le c1).symm⟩
      rw [Nat.add_sub_cancel_left] at hP
      cases hP
      refine ⟨fun r t hr hlim U hU => ?_, fun d h hd => ?_⟩
      · cases hr
        obtain ⟨cell, z1, z2, z3, z4⟩ := (hU.2.2.2.1 w (Nat.lt_of_add_lt_add_left c2)).1
        exact ⟨Nat.not_lt.mp z4, cell, z1, z2, z3⟩
      · exact zx_len (Nat.lt_of_add_lt_add_left c2) d
    · cases hP
  · rename_i r i
    split at hP
    · rename_i hc
      obtain ⟨rfl, c1, c2, c3, c4⟩ := hc
      obtain ⟨w, rfl⟩ : ∃ w, r = x_lim + w := ⟨r - x_lim, (Nat.add_sub_of_le c1).symm⟩
      rw [Nat.add_sub_cancel_left] at hP c4
      obtain ⟨n, hn, rfl⟩ := nI_of c3
      rw [nI_clamp hn] at hP c4
      cases hP
      refine ⟨fun r t hr hlim U hU => ?_, fun d h hd => ?_⟩
      · cases hr
        obtain ⟨cell, z1, z2, z3, z4⟩ := (hU.2.2.2.1 w (Nat.lt_of_add_lt_add_left c2)).1
        exact ⟨Nat.not_lt.mp z4, cell, z1, z2, z3⟩
      · obtain ⟨d', rfl⟩ : ∃ d', d = d' + 2 := ⟨d - 2, by omega⟩
        exact zx_cha hz (Nat.lt_of_add_lt_add_left c2) c4 d'
    · cases hP
  · cases hP
end STR

