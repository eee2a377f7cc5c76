abbrev cXM_maxI : ByteArray := prog_17_method_65_code
def yXM_maxI : MethodName := ⟨"java/lang/Math", "max", "(II)I"⟩
theorem dXM_maxI_0 : decode cXM_maxI 0 = .ok (.iload_n 0, 1) := by decide +kernel
theorem dXM_maxI_1 : decode cXM_maxI 1 = .ok (.iload_n 1, 1) := by decide +kernel
theorem dXM_maxI_2 : decode cXM_maxI 2 = .ok (.if_icmp .lt 7, 3) := by decide +kernel
theorem dXM_maxI_5 : decode cXM_maxI 5 = .ok (.iload_n 0, 1) := by decide +kernel
theorem dXM_maxI_6 : decode cXM_maxI 6 = .ok (.goto 4, 3) := by decide +kernel
theorem dXM_maxI_9 : decode cXM_maxI 9 = .ok (.iload_n 1, 1) := by decide +kernel
theorem dXM_maxI_10 : decode cXM_maxI 10 = .ok (.ireturn, 1) := by decide +kernel
abbrev cXM_minI : ByteArray := prog_17_method_69_code
def yXM_minI : MethodName := ⟨"java/lang/Math", "min", "(II)I"⟩
theorem dXM_minI_0 : decode cXM_minI 0 = .ok (.iload_n 0, 1) := by decide +kernel
theorem dXM_minI_1 : decode cXM_minI 1 = .ok (.iload_n 1, 1) := by decide +kernel
theorem dXM_minI_2 : decode cXM_minI 2 = .ok (.if_icmp .gt 7, 3) := by decide +kernel
theorem dXM_minI_5 : decode cXM_minI 5 = .ok (.iload_n 0, 1) := by decide +kernel
theorem dXM_minI_6 : decode cXM_minI 6 = .ok (.goto 4, 3) := by decide +kernel
theorem dXM_minI_9 : decode cXM_minI 9 = .ok (.iload_n 1, 1) := by decide +kernel
theorem dXM_minI_10 : decode cXM_minI 10 = .ok (.ireturn, 1) := by decide +kernel
abbrev cXM_maxJ : ByteArray := prog_17_method_66_code
def yXM_maxJ : MethodName := ⟨"java/lang/Math", "max", "(JJ)J"⟩
theorem dXM_maxJ_0 : decode cXM_maxJ 0 = .ok (.lload_n 0, 1) := by decide +kernel
theorem dXM_maxJ_1 : decode cXM_maxJ 1 = .ok (.lload_n 2, 1) := by decide +kernel
theorem dXM_maxJ_2 : decode cXM_maxJ 2 = .ok (.lcmp, 1) := by decide +kernel
theorem dXM_maxJ_3 : decode cXM_maxJ 3 = .ok (.ifCond .lt 7, 3) := by decide +kernel
theorem dXM_maxJ_6 : decode cXM_maxJ 6 = .ok (.lload_n 0, 1) := by decide +kernel
theorem dXM_maxJ_7 : decode cXM_maxJ 7 = .ok (.goto 4, 3) := by decide +kernel
theorem dXM_maxJ_10 : decode cXM_maxJ 10 = .ok (.lload_n 2, 1) := by decide +kernel
theorem dXM_maxJ_11 : decode cXM_maxJ 11 = .ok (.lreturn, 1) := by decide +kernel
abbrev cXM_minJ : ByteArray := prog_17_method_70_code
def yXM_minJ : MethodName := ⟨"java/lang/Math", "min", "(JJ)J"⟩
theorem dXM_minJ_0 : decode cXM_minJ 0 = .ok (.lload_n 0, 1) := by decide +kernel
theorem dXM_minJ_1 : decode cXM_minJ 1 = .ok (.lload_n 2, 1) := by decide +kernel
theorem dXM_minJ_2 : decode cXM_minJ 2 = .ok (.lcmp, 1) := by decide +kernel
theorem dXM_minJ_3 : decode cXM_minJ 3 = .ok (.ifCond .gt 7, 3) := by decide +kernel
theorem dXM_minJ_6 : decode cXM_minJ 6 = .ok (.lload_n 0, 1) := by decide +kernel
theorem dXM_minJ_7 : decode cXM_minJ 7 = .ok (.goto 4, 3) := by decide +kernel
theorem dXM_minJ_10 : decode cXM_minJ 10 = .ok (.lload_n 2, 1) := by decide +kernel
theorem dXM_minJ_11 : decode cXM_minJ 11 = .ok (.lreturn, 1) := by decide +kernel
abbrev cXM_absJ : ByteArray := prog_17_method_61_code
def yXM_absJ : MethodName := ⟨"java/lang/Math", "abs", "(J)J"⟩
theorem dXM_absJ_0 : decode cXM_absJ 0 = .ok (.lload_n 0, 1) := by decide +kernel
theorem dXM_absJ_1 : decode cXM_absJ 1 = .ok (.lconst 0, 1) := by decide +kernel
theorem dXM_absJ_2 : decode cXM_absJ 2 = .ok (.lcmp, 1) := by decide +kernel
theorem dXM_absJ_3 : decode cXM_absJ 3 = .ok (.ifCond .ge 8, 3) := by decide +kernel
theorem dXM_absJ_6 : decode cXM_absJ 6 = .ok (.lload_n 0, 1) := by decide +kernel
theorem dXM_absJ_7 : decode cXM_absJ 7 = .ok (.lneg, 1) := by decide +kernel
theorem dXM_absJ_8 : decode cXM_absJ 8 = .ok (.goto 4, 3) := by decide +kernel
theorem dXM_absJ_11 : decode cXM_absJ 11 = .ok (.lload_n 0, 1) := by decide +kernel
theorem dXM_absJ_12 : decode cXM_absJ 12 = .ok (.lreturn, 1) := by decide +kernel
abbrev cXM_floorDiv : ByteArray := prog_17_method_49_code
def yXM_floorDiv : MethodName := ⟨"java/lang/Math", "floorDiv", "(JJ)J"⟩
theorem dXM_floorDiv_0 : decode cXM_floorDiv 0 = .ok (.lload_n 0, 1) := by decide +kernel
theorem dXM_floorDiv_1 : decode cXM_floorDiv 1 = .ok (.lload_n 2, 1) := by decide +kernel
theorem dXM_floorDiv_2 : decode cXM_floorDiv 2 = .ok (.ldiv, 1) := by decide +kernel
theorem dXM_floorDiv_3 : decode cXM_floorDiv 3 = .ok (.lstore 4, 2) := by decide +kernel
theorem dXM_floorDiv_5 : decode cXM_floorDiv 5 = .ok (.lload_n 0, 1) := by decide +kernel
theorem dXM_floorDiv_6 : decode cXM_floorDiv 6 = .ok (.lload_n 2, 1) := by decide +kernel
theorem dXM_floorDiv_7 : decode cXM_floorDiv 7 = .ok (.lxor, 1) := by decide +kernel
theorem dXM_floorDiv_8 : decode cXM_floorDiv 8 = .ok (.lconst 0, 1) := by decide +kernel
theorem dXM_floorDiv_9 : decode cXM_floorDiv 9 = .ok (.lcmp, 1) := by decide +kernel
theorem dXM_floorDiv_10 : decode cXM_floorDiv 10 = .ok (.ifCond .ge 17, 3) := by decide +kernel
theorem dXM_floorDiv_13 : decode cXM_floorDiv 13 = .ok (.lload 4, 2) := by decide +kernel
theorem dXM_floorDiv_15 : decode cXM_floorDiv 15 = .ok (.lload_n 2, 1) := by decide +kernel
theorem dXM_floorDiv_16 : decode cXM_floorDiv 16 = .ok (.lmul, 1) := by decide +kernel
theorem dXM_floorDiv_17 : decode cXM_floorDiv 17 = .ok (.lload_n 0, 1) := by decide +kernel
theorem dXM_floorDiv_18 : decode cXM_floorDiv 18 = .ok (.lcmp, 1) := by decide +kernel
theorem dXM_floorDiv_19 : decode cXM_floorDiv 19 = .ok (.ifCond .eq 8, 3) := by decide +kernel
theorem dXM_floorDiv_22 : decode cXM_floorDiv 22 = .ok (.lload 4, 2) := by decide +kernel
theorem dXM_floorDiv_24 : decode cXM_floorDiv 24 = .ok (.lconst 1, 1) := by decide +kernel
theorem dXM_floorDiv_25 : decode cXM_floorDiv 25 = .ok (.lsub, 1) := by decide +kernel
theorem dXM_floorDiv_26 : decode cXM_floorDiv 26 = .ok (.lreturn, 1) := by decide +kernel
theorem dXM_floorDiv_27 : decode cXM_floorDiv 27 = .ok (.lload 4, 2) := by decide +kernel
theorem dXM_floorDiv_29 : decode cXM_floorDiv 29 = .ok (.lreturn, 1) := by decide +kernel
abbrev cXN_nlzL : ByteArray := prog_16_method_48_code
def yXN_nlzL : MethodName := ⟨"java/lang/Long", "numberOfLeadingZeros", "(J)I"⟩
theorem dXN_nlzL_0 : decode cXN_nlzL 0 = .ok (.lload_n 0, 1) := by decide +kernel
theorem dXN_nlzL_1 : decode cXN_nlzL 1 = .ok (.bipush 32, 2) := by decide +kernel
theorem dXN_nlzL_3 : decode cXN_nlzL 3 = .ok (.lushr, 1) := by decide +kernel
theorem dXN_nlzL_4 : decode cXN_nlzL 4 = .ok (.l2i, 1) := by decide +kernel
theorem dXN_nlzL_5 : decode cXN_nlzL 5 = .ok (.istore_n 2, 1) := by decide +kernel
theorem dXN_nlzL_6 : decode cXN_nlzL 6 = .ok (.iload_n 2, 1) := by decide +kernel
theorem dXN_nlzL_7 : decode cXN_nlzL 7 = .ok (.ifCond .ne 14, 3) := by decide +kernel
theorem dXN_nlzL_10 : decode cXN_nlzL 10 = .ok (.bipush 32, 2) := by decide +kernel
theorem dXN_nlzL_12 : decode cXN_nlzL 12 = .ok (.lload_n 0, 1) := by decide +kernel
theorem dXN_nlzL_13 : decode cXN_nlzL 13 = .ok (.l2i, 1) := by decide +kernel
theorem dXN_nlzL_14 : decode cXN_nlzL 14 = .ok (.invokestatic 308, 3) := by decide +kernel
theorem dXN_nlzL_17 : decode cXN_nlzL 17 = .ok (.iadd, 1) := by decide +kernel
theorem dXN_nlzL_18 : decode cXN_nlzL 18 = .ok (.goto 7, 3) := by decide +kernel
theorem dXN_nlzL_21 : decode cXN_nlzL 21 = .ok (.iload_n 2, 1) := by decide +kernel
theorem dXN_nlzL_22 : decode cXN_nlzL 22 = .ok (.invokestatic 308, 3) := by decide +kernel
theorem dXN_nlzL_25 : decode cXN_nlzL 25 = .ok (.ireturn, 1) := by decide +kernel
abbrev cXN_nlzI : ByteArray := prog_15_method_47_code
def yXN_nlzI : MethodName := ⟨"java/lang/Integer", "numberOfLeadingZeros", "(I)I"⟩
theorem dXN_nlzI_0 : decode cXN_nlzI 0 = .ok (.iload_n 0, 1) := by decide +kernel
theorem dXN_nlzI_1 : decode cXN_nlzI 1 = .ok (.ifCond .gt 14, 3) := by decide +kernel
theorem dXN_nlzI_4 : decode cXN_nlzI 4 = .ok (.iload_n 0, 1) := by decide +kernel
theorem dXN_nlzI_5 : decode cXN_nlzI 5 = .ok (.ifCond .ne 8, 3) := by decide +kernel
theorem dXN_nlzI_8 : decode cXN_nlzI 8 = .ok (.bipush 32, 2) := by decide +kernel
theorem dXN_nlzI_10 : decode cXN_nlzI 10 = .ok (.goto 4, 3) := by decide +kernel
theorem dXN_nlzI_13 : decode cXN_nlzI 13 = .ok (.iconst 0, 1) := by decide +kernel
theorem dXN_nlzI_14 : decode cXN_nlzI 14 = .ok (.ireturn, 1) := by decide +kernel
theorem dXN_nlzI_15 : decode cXN_nlzI 15 = .ok (.bipush 31, 2) := by decide +kernel
theorem dXN_nlzI_17 : decode cXN_nlzI 17 = .ok (.istore_n 1, 1) := by decide +kernel
theorem dXN_nlzI_18 : decode cXN_nlzI 18 = .ok (.iload_n 0, 1) := by decide +kernel
theorem dXN_nlzI_19 : decode cXN_nlzI 19 = .ok (.ldc_w 264, 3) := by decide +kernel
theorem dXN_nlzI_22 : decode cXN_nlzI 22 = .ok (.if_icmp .lt 11, 3) := by decide +kernel
theorem dXN_nlzI_25 : decode cXN_nlzI 25 = .ok (.iinc 1 (-16), 3) := by decide +kernel
theorem dXN_nlzI_28 : decode cXN_nlzI 28 = .ok (.iload_n 0, 1) := by decide +kernel
theorem dXN_nlzI_29 : decode cXN_nlzI 29 = .ok (.bipush 16, 2) := by decide +kernel
theorem dXN_nlzI_31 : decode cXN_nlzI 31 = .ok (.iushr, 1) := by decide +kernel
theorem dXN_nlzI_32 : decode cXN_nlzI 32 = .ok (.istore_n 0, 1) := by decide +kernel
theorem dXN_nlzI_33 : decode cXN_nlzI 33 = .ok (.iload_n 0, 1) := by decide +kernel
theorem dXN_nlzI_34 : decode cXN_nlzI 34 = .ok (.sipush 256, 3) := by decide +kernel
theorem dXN_nlzI_37 : decode cXN_nlzI 37 = .ok (.if_icmp .lt 11, 3) := by decide +kernel
theorem dXN_nlzI_40 : decode cXN_nlzI 40 = .ok (.iinc 1 (-8), 3) := by decide +kernel
theorem dXN_nlzI_43 : decode cXN_nlzI 43 = .ok (.iload_n 0, 1) := by decide +kernel
theorem dXN_nlzI_44 : decode cXN_nlzI 44 = .ok (.bipush 8, 2) := by decide +kernel
theorem dXN_nlzI_46 : decode cXN_nlzI 46 = .ok (.iushr, 1) := by decide +kernel
theorem dXN_nlzI_47 : decode cXN_nlzI 47 = .ok (.istore_n 0, 1) := by decide +kernel
theorem dXN_nlzI_48 : decode cXN_nlzI 48 = .ok (.iload_n 0, 1) := by decide +kernel
theorem dXN_nlzI_49 : decode cXN_nlzI 49 = .ok (.bipush 16, 2) := by decide +kernel
theorem dXN_nlzI_51 : decode cXN_nlzI 51 = .ok (.if_icmp .lt 10, 3) := by decide +kernel
theorem dXN_nlzI_54 : decode cXN_nlzI 54 = .ok (.iinc 1 (-4), 3) := by decide +kernel
theorem dXN_nlzI_57 : decode cXN_nlzI 57 = .ok (.iload_n 0, 1) := by decide +kernel
theorem dXN_nlzI_58 : decode cXN_nlzI 58 = .ok (.iconst 4, 1) := by decide +kernel
theorem dXN_nlzI_59 : decode cXN_nlzI 59 = .ok (.iushr, 1) := by decide +kernel
theorem dXN_nlzI_60 : decode cXN_nlzI 60 = .ok (.istore_n 0, 1) := by decide +kernel
theorem dXN_nlzI_61 : decode cXN_nlzI 61 = .ok (.iload_n 0, 1) := by decide +kernel
theorem dXN_nlzI_62 : decode cXN_nlzI 62 = .ok (.iconst 4, 1) := by decide +kernel
theorem dXN_nlzI_63 : decode cXN_nlzI 63 = .ok (.if_icmp .lt 10, 3) := by decide +kernel
theorem dXN_nlzI_66 : decode cXN_nlzI 66 = .ok (.iinc 1 (-2), 3) := by decide +kernel
theorem dXN_nlzI_69 : decode cXN_nlzI 69 = .ok (.iload_n 0, 1) := by decide +kernel
theorem dXN_nlzI_70 : decode cXN_nlzI 70 = .ok (.iconst 2, 1) := by decide +kernel
theorem dXN_nlzI_71 : decode cXN_nlzI 71 = .ok (.iushr, 1) := by decide +kernel
theorem dXN_nlzI_72 : decode cXN_nlzI 72 = .ok (.istore_n 0, 1) := by decide +kernel
theorem dXN_nlzI_73 : decode cXN_nlzI 73 = .ok (.iload_n 1, 1) := by decide +kernel
theorem dXN_nlzI_74 : decode cXN_nlzI 74 = .ok (.iload_n 0, 1) := by decide +kernel
theorem dXN_nlzI_75 : decode cXN_nlzI 75 = .ok (.iconst 1, 1) := by decide +kernel
theorem dXN_nlzI_76 : decode cXN_nlzI 76 = .ok (.iushr, 1) := by decide +kernel
theorem dXN_nlzI_77 : decode cXN_nlzI 77 = .ok (.isub, 1) := by decide +kernel
theorem dXN_nlzI_78 : decode cXN_nlzI 78 = .ok (.ireturn, 1) := by decide +kernel
abbrev cXN_rotL : ByteArray := prog_15_method_50_code
def yXN_rotL : MethodName := ⟨"java/lang/Integer", "rotateLeft", "(II)I"⟩
theorem dXN_rotL_0 : decode cXN_rotL 0 = .ok (.iload_n 0, 1) := by decide +kernel
theorem dXN_rotL_1 : decode cXN_rotL 1 = .ok (.iload_n 1, 1) := by decide +kernel
theorem dXN_rotL_2 : decode cXN_rotL 2 = .ok (.ishl, 1) := by decide +kernel
theorem dXN_rotL_3 : decode cXN_rotL 3 = .ok (.iload_n 0, 1) := by decide +kernel
theorem dXN_rotL_4 : decode cXN_rotL 4 = .ok (.iload_n 1, 1) := by decide +kernel
theorem dXN_rotL_5 : decode cXN_rotL 5 = .ok (.ineg, 1) := by decide +kernel
theorem dXN_rotL_6 : decode cXN_rotL 6 = .ok (.iushr, 1) := by decide +kernel
theorem dXN_rotL_7 : decode cXN_rotL 7 = .ok (.ior, 1) := by decide +kernel
theorem dXN_rotL_8 : decode cXN_rotL 8 = .ok (.ireturn, 1) := by decide +kernel
theorem cls0 : Cls 0 RX0 TX0 3 := ⟨rfl, rfl, fun w h => List.mem_filter.mpr ⟨inX0 w h, List.all_eq_true.mp (by decide +kernel : (u_ws RX0 TX0 3).all goodWord = true) w h⟩, tyX0_ok, nmX0⟩
theorem ftk0 : ∀ k, k < 3 → ftok (fty 0 k) = true := by decide
theorem ins0 : Cond.instantiable RX0 3 ∈ tGd := tGc1 34 rfl rfl
theorem ini0 : Cond.initialized RX0 ∈ tGd := tGc1 3 rfl rfl
theorem cls1 : Cls 1 RX1 TX1 7 := ⟨rfl, rfl, fun w h => List.mem_filter.mpr ⟨inX1 w h, List.all_eq_true.mp (by decide +kernel : (u_ws RX1 TX1 7).all goodWord = true) w h⟩, tyX1_ok, nmX1⟩
theorem ftk1 : ∀ k, k < 7 → ftok (fty 1 k) = true := by decide
theorem ins1 : Cond.instantiable RX1 7 ∈ tGd := tGc2 102 rfl rfl
theorem ini1 : Cond.initialized RX1 ∈ tGd := tGc1 10 rfl rfl
theorem cls2 : Cls 2 RX2 TX2 8 := ⟨rfl, rfl, fun w h => List.mem_filter.mpr ⟨inX2 w h, List.all_eq_true.mp (by decide +kernel : (u_ws RX2 TX2 8).all goodWord = true) w h⟩, tyX2_ok, nmX2⟩
theorem ftk2 : ∀ k, k < 8 → ftok (fty 2 k) = true := by decide
theorem ins2 : Cond.instantiable RX2 8 ∈ tGd := tGc2 27 rfl rfl
theorem ini2 : Cond.initialized RX2 ∈ tGd := tGc1 8 rfl rfl
theorem cls3 : Cls 3 RX3 TX3 13 := ⟨rfl, rfl, fun w h => List.mem_filter.mpr ⟨inX3 w h, List.all_eq_true.mp (by decide +kernel : (u_ws RX3 TX3 13).all goodWord = true) w h⟩, tyX3_ok, nmX3⟩
theorem ftk3 : ∀ k, k < 13 → ftok (fty 3 k) = true := by decide
theorem ins3 : Cond.instantiable RX3 13 ∈ tGd := tGc4 103 rfl rfl
theorem ini3 : Cond.initialized RX3 ∈ tGd := tGc1 14 rfl rfl
theorem cls4 : Cls 4 RX4 TX4 14 := ⟨rfl, rfl, fun w h => List.mem_filter.mpr ⟨inX4 w h, List.all_eq_true.mp (by decide +kernel : (u_ws RX4 TX4 14).all goodWord = true) w h⟩, tyX4_ok, nmX4⟩
theorem ftk4 : ∀ k, k < 14 → ftok (fty 4 k) = true := by decide
theorem ins4 : Cond.instantiable RX4 14 ∈ tGd := tGc1 166 rfl rfl
theorem ini4 : Cond.initialized RX4 ∈ tGd := tGc1 6 rfl rfl
theorem cls5 : Cls 5 RX5 TX5 10 := ⟨rfl, rfl, fun w h => List.mem_filter.mpr ⟨inX5 w h, List.all_eq_true.mp (by decide +kernel : (u_ws RX5 TX5 10).all goodWord = true) w h⟩, tyX5_ok, nmX5⟩
theorem ftk5 : ∀ k, k < 10 → ftok (fty 5 k) = true := by decide
theorem ins5 : Cond.instantiable RX5 10 ∈ tGd := tGc2 60 rfl rfl
theorem ini5 : Cond.initialized RX5 ∈ tGd := tGc1 9 rfl rfl
theorem cls6 : Cls 6 RX6 TX6 7 := ⟨rfl, rfl, fun w h => List.mem_filter.mpr ⟨inX6 w h, List.all_eq_true.mp (by decide +kernel : (u_ws RX6 TX6 7).all goodWord = true) w h⟩, tyX6_ok, nmX6⟩
theorem ftk6 : ∀ k, k < 7 → ftok (fty 6 k) = true := by decide
theorem ins6 : Cond.instantiable RX6 7 ∈ tGd := tGc1 53 rfl rfl
theorem ini6 : Cond.initialized RX6 ∈ tGd := tGc1 4 rfl rfl
theorem cls7 : Cls 7 RX7 TX7 14 := ⟨rfl, rfl, fun w h => List.mem_filter.mpr ⟨inX7 w h, List.all_eq_true.mp (by decide +kernel : (u_ws RX7 TX7 14).all goodWord = true) w h⟩, tyX7_ok, nmX7⟩
theorem ftk7 : ∀ k, k < 14 → ftok (fty 7 k) = true := by decide
theorem ins7 : Cond.instantiable RX7 14 ∈ tGd := tGc1 26 rfl rfl
theorem ini7 : Cond.initialized RX7 ∈ tGd := tGc1 2 rfl rfl
theorem cls8 : Cls 8 RX8 TX8 7 := ⟨rfl, rfl, fun w h => List.mem_filter.mpr ⟨inX8 w h, List.all_eq_true.mp (by decide +kernel : (u_ws RX8 TX8 7).all goodWord = true) w h⟩, tyX8_ok, nmX8⟩
theorem ftk8 : ∀ k, k < 7 → ftok (fty 8 k) = true := by decide
theorem ins8 : Cond.instantiable RX8 7 ∈ tGd := tGc1 81 rfl rfl
theorem ini8 : Cond.initialized RX8 ∈ tGd := tGc1 5 rfl rfl
theorem cls9 : Cls 9 RX9 TX9 9 := ⟨rfl, rfl, fun w h => List.mem_filter.mpr ⟨inX9 w h, List.all_eq_true.mp (by decide +kernel : (u_ws RX9 TX9 9).all goodWord = true) w h⟩, tyX9_ok, nmX9⟩
theorem ftk9 : ∀ k, k < 9 → ftok (fty 9 k) = true := by decide
theorem ins9 : Cond.instantiable RX9 9 ∈ tGd := tGc1 172 rfl rfl
theorem ini9 : Cond.initialized RX9 ∈ tGd := tGc1 7 rfl rfl
theorem cls10 : Cls 10 RX10 TX10 9 := ⟨rfl, rfl, fun w h => List.mem_filter.mpr ⟨inX10 w h, List.all_eq_true.mp (by decide +kernel : (u_ws RX10 TX10 9).all goodWord = true) w h⟩, tyX10_ok, nmX10⟩
theorem ftk10 : ∀ k, k < 9 → ftok (fty 10 k) = true := by decide
theorem ins10 : Cond.instantiable RX10 9 ∈ tGd := tGc2 217 rfl rfl
theorem ini10 : Cond.initialized RX10 ∈ tGd := tGc1 12 rfl rfl
theorem cls11 : Cls 11 RX11 TX11 20 := ⟨rfl, rfl, fun w h => List.mem_filter.mpr ⟨inX11 w h, List.all_eq_true.mp (by decide +kernel : (u_ws RX11 TX11 20).all goodWord = true) w h⟩, tyX11_ok, nmX11⟩
theorem ftk11 : ∀ k, k < 20 → ftok (fty 11 k) = true := by decide
theorem ins11 : Cond.instantiable RX11 20 ∈ tGd := tGc1 18 rfl rfl
theorem ini11 : Cond.initialized RX11 ∈ tGd := tGc1 1 rfl rfl
theorem cls12 : Cls 12 RX12 TX12 135 := ⟨rfl, rfl, fun w h => List.mem_filter.mpr ⟨inX12 w h, List.all_eq_true.mp (by decide +kernel : (u_ws RX12 TX12 135).all goodWord = true) w h⟩, tyX12_ok, nmX12⟩
theorem ftk12 : ∀ k, k < 135 → ftok (fty 12 k) = true := by decide
theorem ins12 : Cond.instantiable RX12 135 ∈ tGd := tGc7 168 rfl rfl
theorem ini12 : Cond.initialized RX12 ∈ tGd := tGc1 11 rfl rfl
theorem ac20 : Cond.arrayClass .int ∈ tGd := tGc1 51 rfl rfl
theorem ac21 : Cond.arrayClass .long ∈ tGd := tGc1 115 rfl rfl
theorem ac22 : Cond.arrayClass .byte ∈ tGd := tGc9 105 rfl rfl
theorem ac23 : Cond.arrayClass .short ∈ tGd := tGc9 106 rfl rfl
theorem ac24 : Cond.arrayClass .boolean ∈ tGd := tGc1 208 rfl rfl
theorem ac25 : Cond.arrayClass .double ∈ tGd := tGc2 25 rfl rfl
theorem obI : Cond.instanceMethod Lib.objectInit ∈ tGd := tGc1 23 rfl rfl
theorem obC : Cond.code Lib.objectInit ⟨#[0xb1]⟩ 1 none ∈ tGd := tGc1 24 rfl rfl
theorem kc_bipush_10 : (Int8.ofInt (10)).toInt32 = (10 : Int32) := by decide +kernel
theorem kc_bipush_100 : (Int8.ofInt (100)).toInt32 = (100 : Int32) := by decide +kernel
theorem kc_bipush_11 : (Int8.ofInt (11)).toInt32 = (11 : Int32) := by decide +kernel
theorem kc_bipush_12 : (Int8.ofInt (12)).toInt32 = (12 : Int32) := by decide +kernel
theorem kc_bipush_13 : (Int8.ofInt (13)).toInt32 = (13 : Int32) := by decide +kernel
theorem kc_bipush_15 : (Int8.ofInt (15)).toInt32 = (15 : Int32) := by decide +kernel
theorem kc_bipush_16 : (Int8.ofInt (16)).toInt32 = (16 : Int32) := by decide +kernel
theorem kc_bipush_17 : (Int8.ofInt (17)).toInt32 = (17 : Int32) := by decide +kernel
theorem kc_bipush_18 : (Int8.ofInt (18)).toInt32 = (18 : Int32) := by decide +kernel
theorem kc_bipush_19 : (Int8.ofInt (19)).toInt32 = (19 : Int32) := by decide +kernel
theorem kc_bipush_20 : (Int8.ofInt (20)).toInt32 = (20 : Int32) := by decide +kernel
theorem kc_bipush_21 : (Int8.ofInt (21)).toInt32 = (21 : Int32) := by decide +kernel
theorem kc_bipush_23 : (Int8.ofInt (23)).toInt32 = (23 : Int32) := by decide +kernel
theorem kc_bipush_24 : (Int8.ofInt (24)).toInt32 = (24 : Int32) := by decide +kernel
theorem kc_bipush_26 : (Int8.ofInt (26)).toInt32 = (26 : Int32) := by decide +kernel
theorem kc_bipush_29 : (Int8.ofInt (29)).toInt32 = (29 : Int32) := by decide +kernel
theorem kc_bipush_30 : (Int8.ofInt (30)).toInt32 = (30 : Int32) := by decide +kernel
theorem kc_bipush_31 : (Int8.ofInt (31)).toInt32 = (31 : Int32) := by decide +kernel
theorem kc_bipush_32 : (Int8.ofInt (32)).toInt32 = (32 : Int32) := by decide +kernel
theorem kc_bipush_35 : (Int8.ofInt (35)).toInt32 = (35 : Int32) := by decide +kernel
theorem kc_bipush_40 : (Int8.ofInt (40)).toInt32 = (40 : Int32) := by decide +kernel
theorem kc_bipush_44 : (Int8.ofInt (44)).toInt32 = (44 : Int32) := by decide +kernel
theorem kc_bipush_50 : (Int8.ofInt (50)).toInt32 = (50 : Int32) := by decide +kernel
theorem kc_bipush_52 : (Int8.ofInt (52)).toInt32 = (52 : Int32) := by decide +kernel
theorem kc_bipush_6 : (Int8.ofInt (6)).toInt32 = (6 : Int32) := by decide +kernel
theorem kc_bipush_60 : (Int8.ofInt (60)).toInt32 = (60 : Int32) := by decide +kernel
theorem kc_bipush_63 : (Int8.ofInt (63)).toInt32 = (63 : Int32) := by decide +kernel
theorem kc_bipush_64 : (Int8.ofInt (64)).toInt32 = (64 : Int32) := by decide +kernel
theorem kc_bipush_7 : (Int8.ofInt (7)).toInt32 = (7 : Int32) := by decide +kernel
theorem kc_bipush_8 : (Int8.ofInt (8)).toInt32 = (8 : Int32) := by decide +kernel
theorem kc_bipush_9 : (Int8.ofInt (9)).toInt32 = (9 : Int32) := by decide +kernel
theorem kc_bipush_96 : (Int8.ofInt (96)).toInt32 = (96 : Int32) := by decide +kernel
theorem kc_bipush_97 : (Int8.ofInt (97)).toInt32 = (97 : Int32) := by decide +kernel
theorem kc_bipush_98 : (Int8.ofInt (98)).toInt32 = (98 : Int32) := by decide +kernel
theorem kc_bipush_99 : (Int8.ofInt (99)).toInt32 = (99 : Int32) := by decide +kernel
theorem kc_bipush_m10 : (Int8.ofInt (-10)).toInt32 = (-10 : Int32) := by decide +kernel
theorem kc_bipush_m2 : (Int8.ofInt (-2)).toInt32 = (-2 : Int32) := by decide +kernel
theorem kc_bipush_m3 : (Int8.ofInt (-3)).toInt32 = (-3 : Int32) := by decide +kernel
theorem kc_bipush_m30 : (Int8.ofInt (-30)).toInt32 = (-30 : Int32) := by decide +kernel
theorem kc_bipush_m4 : (Int8.ofInt (-4)).toInt32 = (-4 : Int32) := by decide +kernel
theorem kc_iconst_0 : Int32.ofInt (0) = (0 : Int32) := by decide +kernel
theorem kc_iconst_1 : Int32.ofInt (1) = (1 : Int32) := by decide +kernel
theorem kc_iconst_2 : Int32.ofInt (2) = (2 : Int32) := by decide +kernel
theorem kc_iconst_3 : Int32.ofInt (3) = (3 : Int32) := by decide +kernel
theorem kc_iconst_4 : Int32.ofInt (4) = (4 : Int32) := by decide +kernel
theorem kc_iconst_5 : Int32.ofInt (5) = (5 : Int32) := by decide +kernel
theorem kc_iconst_m1 : Int32.ofInt (-1) = (-1 : Int32) := by decide +kernel
theorem kc_inc_1 (x : Int32) : x + Int32.ofInt (1) = x + (1 : Int32) := rfl
theorem kc_inc_3 (x : Int32) : x + Int32.ofInt (3) = x + (3 : Int32) := rfl
theorem kc_inc_m1 (x : Int32) : x + Int32.ofInt (-1) = x + (-1 : Int32) := rfl
theorem kc_inc_m16 (x : Int32) : x + Int32.ofInt (-16) = x + (-16 : Int32) := rfl
theorem kc_inc_m2 (x : Int32) : x + Int32.ofInt (-2) = x + (-2 : Int32) := rfl
theorem kc_inc_m4 (x : Int32) : x + Int32.ofInt (-4) = x + (-4 : Int32) := rfl
theorem kc_inc_m512 (x : Int32) : x + Int32.ofInt (-512) = x + (-512 : Int32) := rfl
theorem kc_inc_m8 (x : Int32) : x + Int32.ofInt (-8) = x + (-8 : Int32) := rfl
theorem kc_lconst_0 : Int64.ofNat ((0 : Fin 2) : Nat) = (0 : Int64) := by decide +kernel
theorem kc_lconst_1 : Int64.ofNat ((1 : Fin 2) : Nat) = (1 : Int64) := by decide +kernel
theorem kc_sipush_1000 : (Int16.ofInt (1000)).toInt32 = (1000 : Int32) := by decide +kernel
theorem kc_sipush_10000 : (Int16.ofInt (10000)).toInt32 = (10000 : Int32) := by decide +kernel
theorem kc_sipush_1023 : (Int16.ofInt (1023)).toInt32 = (1023 : Int32) := by decide +kernel
theorem kc_sipush_1024 : (Int16.ofInt (1024)).toInt32 = (1024 : Int32) := by decide +kernel
theorem kc_sipush_1075 : (Int16.ofInt (1075)).toInt32 = (1075 : Int32) := by decide +kernel
theorem kc_sipush_128 : (Int16.ofInt (128)).toInt32 = (128 : Int32) := by decide +kernel
theorem kc_sipush_1280 : (Int16.ofInt (1280)).toInt32 = (1280 : Int32) := by decide +kernel
theorem kc_sipush_1439 : (Int16.ofInt (1439)).toInt32 = (1439 : Int32) := by decide +kernel
theorem kc_sipush_1440 : (Int16.ofInt (1440)).toInt32 = (1440 : Int32) := by decide +kernel
theorem kc_sipush_150 : (Int16.ofInt (150)).toInt32 = (150 : Int32) := by decide +kernel
theorem kc_sipush_160 : (Int16.ofInt (160)).toInt32 = (160 : Int32) := by decide +kernel
theorem kc_sipush_200 : (Int16.ofInt (200)).toInt32 = (200 : Int32) := by decide +kernel
theorem kc_sipush_2000 : (Int16.ofInt (2000)).toInt32 = (2000 : Int32) := by decide +kernel
theorem kc_sipush_2047 : (Int16.ofInt (2047)).toInt32 = (2047 : Int32) := by decide +kernel
theorem kc_sipush_255 : (Int16.ofInt (255)).toInt32 = (255 : Int32) := by decide +kernel
theorem kc_sipush_256 : (Int16.ofInt (256)).toInt32 = (256 : Int32) := by decide +kernel
theorem kc_sipush_300 : (Int16.ofInt (300)).toInt32 = (300 : Int32) := by decide +kernel
theorem kc_sipush_3000 : (Int16.ofInt (3000)).toInt32 = (3000 : Int32) := by decide +kernel
theorem kc_sipush_400 : (Int16.ofInt (400)).toInt32 = (400 : Int32) := by decide +kernel
theorem kc_sipush_4000 : (Int16.ofInt (4000)).toInt32 = (4000 : Int32) := by decide +kernel
theorem kc_sipush_4100 : (Int16.ofInt (4100)).toInt32 = (4100 : Int32) := by decide +kernel
theorem kc_sipush_500 : (Int16.ofInt (500)).toInt32 = (500 : Int32) := by decide +kernel
theorem kc_sipush_5000 : (Int16.ofInt (5000)).toInt32 = (5000 : Int32) := by decide +kernel
theorem kc_sipush_512 : (Int16.ofInt (512)).toInt32 = (512 : Int32) := by decide +kernel
theorem kc_sipush_640 : (Int16.ofInt (640)).toInt32 = (640 : Int32) := by decide +kernel
theorem kc_sipush_999 : (Int16.ofInt (999)).toInt32 = (999 : Int32) := by decide +kernel
theorem kc_sipush_m1022 : (Int16.ofInt (-1022)).toInt32 = (-1022 : Int32) := by decide +kernel
theorem kc_sipush_m1074 : (Int16.ofInt (-1074)).toInt32 = (-1074 : Int32) := by decide +kernel
theorem kc_sipush_m149 : (Int16.ofInt (-149)).toInt32 = (-149 : Int32) := by decide +kernel
theorem kc_sipush_m511 : (Int16.ofInt (-511)).toInt32 = (-511 : Int32) := by decide +kernel
theorem obX0_3 : Cond.methodLink "GlassHouse$Asker" 3 Lib.objectInit ∈ tGd := tGc1 38 rfl rfl
theorem fgX0_9 : FlkG RX0 9 0 0 := ⟨_, _, _, cls0, by decide, tGc1 39 rfl rfl⟩
theorem fwX0_9 : FlkF RX0 9 0 0 := ⟨_, _, _, cls0, by decide, tGc1 39 rfl rfl, by decide +kernel, by decide +kernel⟩
theorem fgX0_15 : FlkG RX0 15 0 1 := ⟨_, _, _, cls0, by decide, tGc1 40 rfl rfl⟩
theorem fwX0_15 : Flk RX0 15 0 1 := ⟨_, _, _, cls0, by decide, tGc1 40 rfl rfl, by decide +kernel⟩
theorem fgX0_19 : FlkG RX0 19 0 2 := ⟨_, _, _, cls0, by decide, tGc1 41 rfl rfl⟩
theorem fwX0_19 : Flk RX0 19 0 2 := ⟨_, _, _, cls0, by decide, tGc1 41 rfl rfl, by decide +kernel⟩
theorem nkX0_58 : Cond.methodLinkNest "GlassHouse$Asker" 58 yX11_thirsts "GlassHouse" ∈ nestW := nsc3 238 rfl rfl
theorem fgX0_31 : FlkG RX0 31 10 3 := ⟨_, _, _, cls10, by decide, tGc2 232 rfl rfl⟩
theorem mkX0_62 : Cond.methodLink "GlassHouse$Asker" 62 yX0_begin ∈ tGd := tGc4 3 rfl rfl
theorem fgX0_70 : FlkG RX0 70 10 5 := ⟨_, _, _, cls10, by decide, tGc2 236 rfl rfl⟩
theorem mkX0_22 : Cond.methodLink "GlassHouse$Asker" 22 yX0_faulted ∈ tGd := tGc3 231 rfl rfl
theorem fgX0_73 : FlkG RX0 73 10 6 := ⟨_, _, _, cls10, by decide, tGc2 238 rfl rfl⟩
theorem fgX0_66 : FlkG RX0 66 10 2 := ⟨_, _, _, cls10, by decide, tGc2 231 rfl rfl⟩
theorem mkX0_45 : Cond.methodLink "GlassHouse$Asker" 45 yX0_sizeOf ∈ tGd := tGc4 11 rfl rfl
theorem fgX0_26 : FlkG RX0 26 10 0 := ⟨_, _, _, cls10, by decide, tGc2 223 rfl rfl⟩
theorem mkX0_34 : Cond.methodLink "GlassHouse$Asker" 34 yX0_answers ∈ tGd := tGc3 235 rfl rfl
theorem fgX0_55 : FlkG RX0 55 10 7 := ⟨_, _, _, cls10, by decide, tGc3 0 rfl rfl⟩
theorem fgX0_52 : FlkG RX0 52 10 4 := ⟨_, _, _, cls10, by decide, tGc2 234 rfl rfl⟩
theorem mkX0_49 : Cond.methodLink "GlassHouse$Asker" 49 yX0_markOf ∈ tGd := tGc4 15 rfl rfl
theorem mkX0_42 : Cond.methodLink "GlassHouse$Asker" 42 yX0_thirstOf ∈ tGd := tGc4 7 rfl rfl
theorem mkX0_38 : Cond.methodLink "GlassHouse$Asker" 38 yX0_costAlone ∈ tGd := tGc3 239 rfl rfl
theorem obX1_3 : Cond.methodLink "GlassHouse$Books" 3 Lib.objectInit ∈ tGd := tGc2 106 rfl rfl
theorem fgX1_11 : FlkG RX1 11 1 0 := ⟨_, _, _, cls1, by decide, tGc2 107 rfl rfl⟩
theorem fwX1_11 : FlkF RX1 11 1 0 := ⟨_, _, _, cls1, by decide, tGc2 107 rfl rfl, by decide +kernel, by decide +kernel⟩
theorem fgX1_15 : FlkG RX1 15 1 1 := ⟨_, _, _, cls1, by decide, tGc2 109 rfl rfl⟩
theorem fwX1_15 : FlkF RX1 15 1 1 := ⟨_, _, _, cls1, by decide, tGc2 109 rfl rfl, by decide +kernel, by decide +kernel⟩
theorem fgX1_18 : FlkG RX1 18 1 2 := ⟨_, _, _, cls1, by decide, tGc2 110 rfl rfl⟩
theorem fwX1_18 : FlkF RX1 18 1 2 := ⟨_, _, _, cls1, by decide, tGc2 110 rfl rfl, by decide +kernel, by decide +kernel⟩
theorem fgX1_21 : FlkG RX1 21 1 6 := ⟨_, _, _, cls1, by decide, tGc2 117 rfl rfl⟩
theorem fwX1_21 : Flk RX1 21 1 6 := ⟨_, _, _, cls1, by decide, tGc2 117 rfl rfl, by decide +kernel⟩
theorem fgX1_25 : FlkG RX1 25 1 5 := ⟨_, _, _, cls1, by decide, tGc2 115 rfl rfl⟩
theorem mkX1_54 : Cond.methodLink "GlassHouse$Books" 54 yXN_rotL ∈ tGd := tGc7 78 rfl rfl
theorem ciX1_59 : Jvm.Cond.constant "GlassHouse$Books" 59 (-1028477387) ∈ tGd := tGc7 81 rfl rfl
theorem mkX1_46 : Cond.methodLink "GlassHouse$Books" 46 yX1_putNumber ∈ tGd := tGc7 71 rfl rfl
theorem mkX1_50 : Cond.methodLink "GlassHouse$Books" 50 yX1_sumOf ∈ tGd := tGc7 75 rfl rfl
theorem fgX1_29 : FlkG RX1 29 1 4 := ⟨_, _, _, cls1, by decide, tGc2 113 rfl rfl⟩
theorem fgX1_32 : FlkG RX1 32 1 3 := ⟨_, _, _, cls1, by decide, tGc2 111 rfl rfl⟩
theorem ciX1_35 : Jvm.Cond.constant "GlassHouse$Books" 35 (2147483647) ∈ tGd := tGc7 66 rfl rfl
theorem mkX1_36 : Cond.methodLink "GlassHouse$Books" 36 yX1_fillDraft ∈ tGd := tGc7 67 rfl rfl
theorem mkX1_40 : Cond.methodLink "GlassHouse$Books" 40 yXM_minI ∈ tGd := tGc7 82 rfl rfl
theorem fwX1_32 : Flk RX1 32 1 3 := ⟨_, _, _, cls1, by decide, tGc2 111 rfl rfl, by decide +kernel⟩
theorem fwX1_25 : Flk RX1 25 1 5 := ⟨_, _, _, cls1, by decide, tGc2 115 rfl rfl, by decide +kernel⟩
theorem fwX1_29 : Flk RX1 29 1 4 := ⟨_, _, _, cls1, by decide, tGc2 113 rfl rfl, by decide +kernel⟩
theorem mkX1_60 : Cond.methodLink "GlassHouse$Books" 60 yX1_isByte ∈ tGd := tGc7 111 rfl rfl
theorem mkX1_64 : Cond.methodLink "GlassHouse$Books" 64 yX1_numberAt ∈ tGd := tGc7 107 rfl rfl
theorem clX11_532 : Jvm.Cond.constantLong "GlassHouse" 532 (9223372036854775807) ∈ tGd := tGc3 97 rfl rfl
theorem clX11_534 : Jvm.Cond.constantLong "GlassHouse" 534 (9218868437227405312) ∈ tGd := tGc3 98 rfl rfl
theorem mkX11_349 : Cond.methodLink "GlassHouse" 349 yX11_isNumber ∈ tGd := tGc3 94 rfl rfl
theorem clX11_420 : Jvm.Cond.constantLong "GlassHouse" 420 (9221120237041090560) ∈ tGd := tGc3 99 rfl rfl
theorem clX11_526 : Jvm.Cond.constantLong "GlassHouse" 526 (2147483647) ∈ tGd := tGc3 91 rfl rfl
theorem clX11_528 : Jvm.Cond.constantLong "GlassHouse" 528 (2139095040) ∈ tGd := tGc3 92 rfl rfl
theorem clX11_530 : Jvm.Cond.constantLong "GlassHouse" 530 (2143289344) ∈ tGd := tGc3 93 rfl rfl
theorem clX11_524 : Jvm.Cond.constantLong "GlassHouse" 524 (65535) ∈ tGd := tGc3 90 rfl rfl
theorem mkX1_68 : Cond.methodLink "GlassHouse$Books" 68 yX1_numberOf ∈ tGd := tGc7 114 rfl rfl
theorem mkX1_72 : Cond.methodLink "GlassHouse$Books" 72 yX1_writes ∈ tGd := tGc7 118 rfl rfl
theorem mkX1_76 : Cond.methodLink "GlassHouse$Books" 76 yX1_allZero ∈ tGd := tGc7 119 rfl rfl
theorem nkX1_80 : Cond.methodLinkNest "GlassHouse$Books" 80 yX11_cellOf "GlassHouse" ∈ nestW := nsc7 123 rfl rfl
theorem mkX1_84 : Cond.methodLink "GlassHouse$Books" 84 yX1_isWhole ∈ tGd := tGc7 103 rfl rfl
theorem mkX1_87 : Cond.methodLink "GlassHouse$Books" 87 yX1_leastWith ∈ tGd := tGc7 124 rfl rfl
theorem mkX1_90 : Cond.methodLink "GlassHouse$Books" 90 yX1_gatherRead ∈ tGd := tGc7 99 rfl rfl
theorem clX1_94 : Jvm.Cond.constantLong "GlassHouse$Books" 94 (-1) ∈ tGd := tGc7 136 rfl rfl
theorem mkX1_96 : Cond.methodLink "GlassHouse$Books" 96 yX1_samePages ∈ tGd := tGc7 154 rfl rfl
theorem obX2_1 : Cond.methodLink "GlassHouse$Feeds" 1 Lib.objectInit ∈ tGd := tGc2 31 rfl rfl
theorem cnX2_9 : Cond.classLink "GlassHouse$Feeds" 9 ("[" ++ (FieldType.array .int).toString) ∈ tGd := tGc2 32 rfl rfl
theorem fgX2_11 : FlkG RX2 11 2 0 := ⟨_, _, _, cls2, by decide, tGc2 34 rfl rfl⟩
theorem fwX2_11 : FlkF RX2 11 2 0 := ⟨_, _, _, cls2, by decide, tGc2 34 rfl rfl, by decide +kernel, by decide +kernel⟩
theorem cnX2_14 : Cond.classLink "GlassHouse$Feeds" 14 ("[" ++ (FieldType.array .long).toString) ∈ tGd := tGc2 33 rfl rfl
theorem fgX2_16 : FlkG RX2 16 2 1 := ⟨_, _, _, cls2, by decide, tGc2 35 rfl rfl⟩
theorem fwX2_16 : FlkF RX2 16 2 1 := ⟨_, _, _, cls2, by decide, tGc2 35 rfl rfl, by decide +kernel, by decide +kernel⟩
theorem fgX2_19 : FlkG RX2 19 2 2 := ⟨_, _, _, cls2, by decide, tGc2 36 rfl rfl⟩
theorem fwX2_19 : FlkF RX2 19 2 2 := ⟨_, _, _, cls2, by decide, tGc2 36 rfl rfl, by decide +kernel, by decide +kernel⟩
theorem fgX2_22 : FlkG RX2 22 2 3 := ⟨_, _, _, cls2, by decide, tGc2 37 rfl rfl⟩
theorem fwX2_22 : FlkF RX2 22 2 3 := ⟨_, _, _, cls2, by decide, tGc2 37 rfl rfl, by decide +kernel, by decide +kernel⟩
theorem fgX2_26 : FlkG RX2 26 2 4 := ⟨_, _, _, cls2, by decide, tGc2 38 rfl rfl⟩
theorem fwX2_26 : FlkF RX2 26 2 4 := ⟨_, _, _, cls2, by decide, tGc2 38 rfl rfl, by decide +kernel, by decide +kernel⟩
theorem fgX2_30 : FlkG RX2 30 2 5 := ⟨_, _, _, cls2, by decide, tGc2 39 rfl rfl⟩
theorem fwX2_30 : FlkF RX2 30 2 5 := ⟨_, _, _, cls2, by decide, tGc2 39 rfl rfl, by decide +kernel, by decide +kernel⟩
theorem fgX2_33 : FlkG RX2 33 2 6 := ⟨_, _, _, cls2, by decide, tGc2 40 rfl rfl⟩
theorem fwX2_33 : FlkF RX2 33 2 6 := ⟨_, _, _, cls2, by decide, tGc2 40 rfl rfl, by decide +kernel, by decide +kernel⟩
theorem fgX2_36 : FlkG RX2 36 2 7 := ⟨_, _, _, cls2, by decide, tGc2 41 rfl rfl⟩
theorem fwX2_36 : Flk RX2 36 2 7 := ⟨_, _, _, cls2, by decide, tGc2 41 rfl rfl, by decide +kernel⟩
theorem mkX2_76 : Cond.methodLink "GlassHouse$Feeds" 76 yXM_absJ ∈ tGd := tGc6 214 rfl rfl
theorem mkX2_82 : Cond.methodLink "GlassHouse$Feeds" 82 yX2_firstSign ∈ tGd := tGc6 223 rfl rfl
theorem mkX2_72 : Cond.methodLink "GlassHouse$Feeds" 72 yX2_commonDivisor ∈ tGd := tGc6 211 rfl rfl
theorem mkX2_69 : Cond.methodLink "GlassHouse$Feeds" 69 yX2_becomesFraction ∈ tGd := tGc6 207 rfl rfl
theorem mkX2_57 : Cond.methodLink "GlassHouse$Feeds" 57 yX2_changePlaces ∈ tGd := tGc6 199 rfl rfl
theorem mkX2_61 : Cond.methodLink "GlassHouse$Feeds" 61 yX2_divideRow ∈ tGd := tGc6 203 rfl rfl
theorem mkX2_65 : Cond.methodLink "GlassHouse$Feeds" 65 yX2_takeRow ∈ tGd := tGc6 215 rfl rfl
theorem mkX2_40 : Cond.methodLink "GlassHouse$Feeds" 40 yX2_clearOutcome ∈ tGd := tGc6 187 rfl rfl
theorem mkX2_43 : Cond.methodLink "GlassHouse$Feeds" 43 yX2_fillRows ∈ tGd := tGc6 191 rfl rfl
theorem mkX2_53 : Cond.methodLink "GlassHouse$Feeds" 53 yX2_tellFractions ∈ tGd := tGc6 227 rfl rfl
theorem mkX2_50 : Cond.methodLink "GlassHouse$Feeds" 50 yX2_tellWitness ∈ tGd := tGc6 219 rfl rfl
theorem mkX2_46 : Cond.methodLink "GlassHouse$Feeds" 46 yX2_workColumn ∈ tGd := tGc6 195 rfl rfl
theorem obX3_1 : Cond.methodLink "GlassHouse$Frame" 1 Lib.objectInit ∈ tGd := tGc4 107 rfl rfl
theorem fgX3_9 : FlkG RX3 9 3 12 := ⟨_, _, _, cls3, by decide, tGc4 120 rfl rfl⟩
theorem fwX3_9 : FlkF RX3 9 3 12 := ⟨_, _, _, cls3, by decide, tGc4 120 rfl rfl, by decide +kernel, by decide +kernel⟩
theorem obX9_3 : Cond.methodLink "GlassHouse$Tables" 3 Lib.objectInit ∈ tGd := tGc1 176 rfl rfl
theorem cnX9_11 : Cond.classLink "GlassHouse$Tables" 11 ("[" ++ (FieldType.array .int).toString) ∈ tGd := tGc1 177 rfl rfl
theorem fgX9_13 : FlkG RX9 13 9 0 := ⟨_, _, _, cls9, by decide, tGc1 179 rfl rfl⟩
theorem fwX9_13 : FlkF RX9 13 9 0 := ⟨_, _, _, cls9, by decide, tGc1 179 rfl rfl, by decide +kernel, by decide +kernel⟩
theorem fgX9_16 : FlkG RX9 16 9 1 := ⟨_, _, _, cls9, by decide, tGc1 180 rfl rfl⟩
theorem fwX9_16 : FlkF RX9 16 9 1 := ⟨_, _, _, cls9, by decide, tGc1 180 rfl rfl, by decide +kernel, by decide +kernel⟩
theorem fgX9_19 : FlkG RX9 19 9 2 := ⟨_, _, _, cls9, by decide, tGc1 181 rfl rfl⟩
theorem fwX9_19 : FlkF RX9 19 9 2 := ⟨_, _, _, cls9, by decide, tGc1 181 rfl rfl, by decide +kernel, by decide +kernel⟩
theorem fgX9_23 : FlkG RX9 23 9 3 := ⟨_, _, _, cls9, by decide, tGc1 182 rfl rfl⟩
theorem fwX9_23 : FlkF RX9 23 9 3 := ⟨_, _, _, cls9, by decide, tGc1 182 rfl rfl, by decide +kernel, by decide +kernel⟩
theorem fgX9_26 : FlkG RX9 26 9 4 := ⟨_, _, _, cls9, by decide, tGc1 183 rfl rfl⟩
theorem fwX9_26 : FlkF RX9 26 9 4 := ⟨_, _, _, cls9, by decide, tGc1 183 rfl rfl, by decide +kernel, by decide +kernel⟩
theorem fgX9_29 : FlkG RX9 29 9 5 := ⟨_, _, _, cls9, by decide, tGc1 184 rfl rfl⟩
theorem fwX9_29 : FlkF RX9 29 9 5 := ⟨_, _, _, cls9, by decide, tGc1 184 rfl rfl, by decide +kernel, by decide +kernel⟩
theorem fgX9_33 : FlkG RX9 33 9 6 := ⟨_, _, _, cls9, by decide, tGc1 185 rfl rfl⟩
theorem fwX9_33 : FlkF RX9 33 9 6 := ⟨_, _, _, cls9, by decide, tGc1 185 rfl rfl, by decide +kernel, by decide +kernel⟩
theorem fgX9_36 : FlkG RX9 36 9 7 := ⟨_, _, _, cls9, by decide, tGc1 186 rfl rfl⟩
theorem fwX9_36 : FlkF RX9 36 9 7 := ⟨_, _, _, cls9, by decide, tGc1 186 rfl rfl, by decide +kernel, by decide +kernel⟩
theorem obX4_3 : Cond.methodLink "GlassHouse$Houses" 3 Lib.objectInit ∈ tGd := tGc1 170 rfl rfl
theorem cnX4_9 : Cond.classLink "GlassHouse$Houses" 9 "GlassHouse$Tables" ∈ tGd := tGc1 171 rfl rfl
theorem nkX4_11 : Cond.methodLinkNest "GlassHouse$Houses" 11 yX9_init "GlassHouse" ∈ nestW := nsc1 173 rfl rfl
theorem fgX4_12 : FlkG RX4 12 4 0 := ⟨_, _, _, cls4, by decide, tGc1 216 rfl rfl⟩
theorem fwX4_12 : FlkF RX4 12 4 0 := ⟨_, _, _, cls4, by decide, tGc1 216 rfl rfl, by decide +kernel, by decide +kernel⟩
theorem cnX4_18 : Cond.classLink "GlassHouse$Houses" 18 ("[" ++ (FieldType.array .int).toString) ∈ tGd := tGc1 209 rfl rfl
theorem fgX4_20 : FlkG RX4 20 4 1 := ⟨_, _, _, cls4, by decide, tGc1 218 rfl rfl⟩
theorem fwX4_20 : FlkF RX4 20 4 1 := ⟨_, _, _, cls4, by decide, tGc1 218 rfl rfl, by decide +kernel, by decide +kernel⟩
theorem fgX4_23 : FlkG RX4 23 4 2 := ⟨_, _, _, cls4, by decide, tGc1 220 rfl rfl⟩
theorem fwX4_23 : FlkF RX4 23 4 2 := ⟨_, _, _, cls4, by decide, tGc1 220 rfl rfl, by decide +kernel, by decide +kernel⟩
theorem fgX4_27 : FlkG RX4 27 4 3 := ⟨_, _, _, cls4, by decide, tGc1 221 rfl rfl⟩
theorem fwX4_27 : FlkF RX4 27 4 3 := ⟨_, _, _, cls4, by decide, tGc1 221 rfl rfl, by decide +kernel, by decide +kernel⟩
theorem fgX4_31 : FlkG RX4 31 4 4 := ⟨_, _, _, cls4, by decide, tGc1 222 rfl rfl⟩
theorem fwX4_31 : FlkF RX4 31 4 4 := ⟨_, _, _, cls4, by decide, tGc1 222 rfl rfl, by decide +kernel, by decide +kernel⟩
theorem fgX4_34 : FlkG RX4 34 4 5 := ⟨_, _, _, cls4, by decide, tGc1 223 rfl rfl⟩
theorem fwX4_34 : FlkF RX4 34 4 5 := ⟨_, _, _, cls4, by decide, tGc1 223 rfl rfl, by decide +kernel, by decide +kernel⟩
theorem fgX4_37 : FlkG RX4 37 4 6 := ⟨_, _, _, cls4, by decide, tGc1 225 rfl rfl⟩
theorem fwX4_37 : FlkF RX4 37 4 6 := ⟨_, _, _, cls4, by decide, tGc1 225 rfl rfl, by decide +kernel, by decide +kernel⟩
theorem cdX4_40 : Jvm.Cond.constantDouble "GlassHouse$Houses" 40 (4611686018427387904) ∈ tGd := tGc1 210 rfl rfl
theorem fgX4_42 : FlkG RX4 42 4 7 := ⟨_, _, _, cls4, by decide, tGc1 226 rfl rfl⟩
theorem fwX4_42 : Flk RX4 42 4 7 := ⟨_, _, _, cls4, by decide, tGc1 226 rfl rfl, by decide +kernel⟩
theorem cnX4_46 : Cond.classLink "GlassHouse$Houses" 46 ("[" ++ (FieldType.array .long).toString) ∈ tGd := tGc1 211 rfl rfl
theorem fgX4_48 : FlkG RX4 48 4 8 := ⟨_, _, _, cls4, by decide, tGc1 228 rfl rfl⟩
theorem fwX4_48 : FlkF RX4 48 4 8 := ⟨_, _, _, cls4, by decide, tGc1 228 rfl rfl, by decide +kernel, by decide +kernel⟩
theorem fgX4_51 : FlkG RX4 51 4 9 := ⟨_, _, _, cls4, by decide, tGc1 230 rfl rfl⟩
theorem fwX4_51 : FlkF RX4 51 4 9 := ⟨_, _, _, cls4, by decide, tGc1 230 rfl rfl, by decide +kernel, by decide +kernel⟩
theorem fgX4_55 : FlkG RX4 55 4 10 := ⟨_, _, _, cls4, by decide, tGc1 231 rfl rfl⟩
theorem fwX4_55 : FlkF RX4 55 4 10 := ⟨_, _, _, cls4, by decide, tGc1 231 rfl rfl, by decide +kernel, by decide +kernel⟩
theorem fgX4_58 : FlkG RX4 58 4 11 := ⟨_, _, _, cls4, by decide, tGc1 232 rfl rfl⟩
theorem fwX4_58 : FlkF RX4 58 4 11 := ⟨_, _, _, cls4, by decide, tGc1 232 rfl rfl, by decide +kernel, by decide +kernel⟩
theorem fgX4_61 : FlkG RX4 61 4 12 := ⟨_, _, _, cls4, by decide, tGc1 233 rfl rfl⟩
theorem fwX4_61 : FlkF RX4 61 4 12 := ⟨_, _, _, cls4, by decide, tGc1 233 rfl rfl, by decide +kernel, by decide +kernel⟩
theorem clX4_64 : Jvm.Cond.constantLong "GlassHouse$Houses" 64 (9221120237041090560) ∈ tGd := tGc1 213 rfl rfl
theorem clX4_66 : Jvm.Cond.constantLong "GlassHouse$Houses" 66 (20000) ∈ tGd := tGc1 214 rfl rfl
theorem clX4_68 : Jvm.Cond.constantLong "GlassHouse$Houses" 68 (8000) ∈ tGd := tGc1 215 rfl rfl
theorem cdX11_571 : Jvm.Cond.constantDouble "GlassHouse" 571 (4611686018427387904) ∈ tGd := tGc5 166 rfl rfl
theorem cdX11_569 : Jvm.Cond.constantDouble "GlassHouse" 569 (4602678819172646912) ∈ tGd := tGc5 165 rfl rfl
theorem clX11_573 : Jvm.Cond.constantLong "GlassHouse" 573 (2047) ∈ tGd := tGc5 160 rfl rfl
theorem clX11_556 : Jvm.Cond.constantLong "GlassHouse" 556 (4503599627370495) ∈ tGd := tGc5 161 rfl rfl
theorem clX11_579 : Jvm.Cond.constantLong "GlassHouse" 579 (4503599627370496) ∈ tGd := tGc5 167 rfl rfl
theorem mkX11_575 : Cond.methodLink "GlassHouse" 575 yX11_scaled ∈ tGd := tGc5 162 rfl rfl
theorem nkX4_70 : Cond.methodLinkNest "GlassHouse$Houses" 70 yX11_isNumber "GlassHouse" ∈ nestW := nsc5 156 rfl rfl
theorem nkX4_74 : Cond.methodLinkNest "GlassHouse$Houses" 74 yX11_realOf "GlassHouse" ∈ nestW := nsc5 157 rfl rfl
theorem ciX4_84 : Jvm.Cond.constant "GlassHouse$Houses" 84 (-100000) ∈ tGd := tGc5 196 rfl rfl
theorem gsX4_78 : Cond.fieldLink "GlassHouse$Houses" 78 "GlassHouse$Houses" "LEAST" "[I" ∈ tGd := tGc5 192 rfl rfl
theorem gsX4_81 : Cond.fieldLink "GlassHouse$Houses" 81 "GlassHouse$Houses" "MOST" "[I" ∈ tGd := tGc5 194 rfl rfl
theorem fgX9_41 : FlkG RX9 41 9 8 := ⟨_, _, _, cls9, by decide, tGc1 187 rfl rfl⟩
theorem fwX9_41 : Flk RX9 41 9 8 := ⟨_, _, _, cls9, by decide, tGc1 187 rfl rfl, by decide +kernel⟩
theorem mkX9_45 : Cond.methodLink "GlassHouse$Tables" 45 yX9_layDown ∈ tGd := tGc5 126 rfl rfl
theorem mkX9_53 : Cond.methodLink "GlassHouse$Tables" 53 yXM_floorDiv ∈ tGd := tGc5 134 rfl rfl
theorem mkX9_49 : Cond.methodLink "GlassHouse$Tables" 49 yX9_lineAt ∈ tGd := tGc5 130 rfl rfl
theorem mkX4_211 : Cond.methodLink "GlassHouse$Houses" 211 yX9_hasLines ∈ tGd := tGc6 94 rfl rfl
theorem clX4_216 : Jvm.Cond.constantLong "GlassHouse$Houses" 216 (1000) ∈ tGd := tGc6 99 rfl rfl
theorem mkX4_218 : Cond.methodLink "GlassHouse$Houses" 218 yX9_valueAt ∈ tGd := tGc6 100 rfl rfl
theorem mkX4_221 : Cond.methodLink "GlassHouse$Houses" 221 yXM_maxI ∈ tGd := tGc6 101 rfl rfl
theorem clX4_214 : Jvm.Cond.constantLong "GlassHouse$Houses" 214 (9000) ∈ tGd := tGc6 98 rfl rfl
theorem clX4_200 : Jvm.Cond.constantLong "GlassHouse$Houses" 200 (5) ∈ tGd := tGc6 86 rfl rfl
theorem clX4_202 : Jvm.Cond.constantLong "GlassHouse$Houses" 202 (2) ∈ tGd := tGc6 87 rfl rfl
theorem clX4_204 : Jvm.Cond.constantLong "GlassHouse$Houses" 204 (200) ∈ tGd := tGc6 88 rfl rfl
theorem clX4_206 : Jvm.Cond.constantLong "GlassHouse$Houses" 206 (80) ∈ tGd := tGc6 89 rfl rfl
theorem mkX4_208 : Cond.methodLink "GlassHouse$Houses" 208 yX4_mostVapour ∈ tGd := tGc6 90 rfl rfl
theorem mkX4_142 : Cond.methodLink "GlassHouse$Houses" 142 yXM_maxJ ∈ tGd := tGc6 53 rfl rfl
theorem mkX4_139 : Cond.methodLink "GlassHouse$Houses" 139 yXM_minJ ∈ tGd := tGc6 50 rfl rfl
theorem mkX4_194 : Cond.methodLink "GlassHouse$Houses" 194 yXM_absJ ∈ tGd := tGc6 77 rfl rfl
theorem clX4_198 : Jvm.Cond.constantLong "GlassHouse$Houses" 198 (100) ∈ tGd := tGc6 80 rfl rfl
theorem clX4_145 : Jvm.Cond.constantLong "GlassHouse$Houses" 145 (-10) ∈ tGd := tGc6 45 rfl rfl
theorem clX4_147 : Jvm.Cond.constantLong "GlassHouse$Houses" 147 (10) ∈ tGd := tGc6 46 rfl rfl
theorem mkX4_149 : Cond.methodLink "GlassHouse$Houses" 149 yX4_bounded ∈ tGd := tGc6 47 rfl rfl
theorem mkX4_101 : Cond.methodLink "GlassHouse$Houses" 101 yXM_floorDiv ∈ tGd := tGc5 228 rfl rfl
theorem mkX4_119 : Cond.methodLink "GlassHouse$Houses" 119 yX4_valueReal ∈ tGd := tGc6 22 rfl rfl
theorem cdX4_170 : Jvm.Cond.constantDouble "GlassHouse$Houses" 170 (4652007308841189376) ∈ tGd := tGc6 62 rfl rfl
theorem clX4_172 : Jvm.Cond.constantLong "GlassHouse$Houses" 172 (-1000000000) ∈ tGd := tGc6 63 rfl rfl
theorem clX4_174 : Jvm.Cond.constantLong "GlassHouse$Houses" 174 (1000000000) ∈ tGd := tGc6 64 rfl rfl
theorem fgX4_85 : FlkG RX4 85 4 13 := ⟨_, _, _, cls4, by decide, tGc1 234 rfl rfl⟩
theorem mkX4_176 : Cond.methodLink "GlassHouse$Houses" 176 yX4_wishAt ∈ tGd := tGc6 65 rfl rfl
theorem clX4_180 : Jvm.Cond.constantLong "GlassHouse$Houses" 180 (-100000) ∈ tGd := tGc6 66 rfl rfl
theorem clX4_182 : Jvm.Cond.constantLong "GlassHouse$Houses" 182 (100000) ∈ tGd := tGc6 67 rfl rfl
theorem clX4_184 : Jvm.Cond.constantLong "GlassHouse$Houses" 184 (16) ∈ tGd := tGc6 68 rfl rfl
theorem clX4_186 : Jvm.Cond.constantLong "GlassHouse$Houses" 186 (-4000) ∈ tGd := tGc6 69 rfl rfl
theorem clX4_188 : Jvm.Cond.constantLong "GlassHouse$Houses" 188 (4000) ∈ tGd := tGc6 70 rfl rfl
theorem clX4_190 : Jvm.Cond.constantLong "GlassHouse$Houses" 190 (400) ∈ tGd := tGc6 71 rfl rfl
theorem clX4_192 : Jvm.Cond.constantLong "GlassHouse$Houses" 192 (500) ∈ tGd := tGc6 72 rfl rfl
theorem mkX4_153 : Cond.methodLink "GlassHouse$Houses" 153 yX4_towards ∈ tGd := tGc6 42 rfl rfl
theorem clX4_159 : Jvm.Cond.constantLong "GlassHouse$Houses" 159 (30) ∈ tGd := tGc6 57 rfl rfl
theorem clX4_168 : Jvm.Cond.constantLong "GlassHouse$Houses" 168 (20) ∈ tGd := tGc6 81 rfl rfl
theorem mkX4_156 : Cond.methodLink "GlassHouse$Houses" 156 yX4_hasWish ∈ tGd := tGc6 56 rfl rfl
theorem mkX4_161 : Cond.methodLink "GlassHouse$Houses" 161 yX4_wantedMove ∈ tGd := tGc6 58 rfl rfl
theorem mkX4_164 : Cond.methodLink "GlassHouse$Houses" 164 yX4_moveBy ∈ tGd := tGc6 73 rfl rfl
theorem mkX4_135 : Cond.methodLink "GlassHouse$Houses" 135 yX4_sendTo ∈ tGd := tGc6 34 rfl rfl
theorem mkX11_400 : Cond.methodLink "GlassHouse" 400 yXM_minI ∈ tGd := tGc6 14 rfl rfl
theorem mkX11_558 : Cond.methodLink "GlassHouse" 558 yX11_orderKey ∈ tGd := tGc6 15 rfl rfl
theorem nkX4_131 : Cond.methodLinkNest "GlassHouse$Houses" 131 yX11_sortByOrder "GlassHouse" ∈ nestW := nsc6 11 rfl rfl
theorem mkX4_107 : Cond.methodLink "GlassHouse$Houses" 107 yX4_countSame ∈ tGd := tGc6 3 rfl rfl
theorem mkX4_111 : Cond.methodLink "GlassHouse$Houses" 111 yX4_middleOf ∈ tGd := tGc6 7 rfl rfl
theorem mkX4_123 : Cond.methodLink "GlassHouse$Houses" 123 yX4_countOff ∈ tGd := tGc6 26 rfl rfl
theorem mkX4_127 : Cond.methodLink "GlassHouse$Houses" 127 yX4_judge ∈ tGd := tGc6 30 rfl rfl
theorem mkX4_115 : Cond.methodLink "GlassHouse$Houses" 115 yX4_manyReading ∈ tGd := tGc6 18 rfl rfl
theorem fwX4_85 : Flk RX4 85 4 13 := ⟨_, _, _, cls4, by decide, tGc1 234 rfl rfl, by decide +kernel⟩
theorem mkX4_89 : Cond.methodLink "GlassHouse$Houses" 89 yX4_vote ∈ tGd := tGc5 239 rfl rfl
theorem mkX4_93 : Cond.methodLink "GlassHouse$Houses" 93 yX4_steer ∈ tGd := tGc6 38 rfl rfl
theorem mkX4_96 : Cond.methodLink "GlassHouse$Houses" 96 yX4_changeAir ∈ tGd := tGc6 82 rfl rfl
theorem ciX4_99 : Jvm.Cond.constant "GlassHouse$Houses" 99 (-50000) ∈ tGd := tGc5 205 rfl rfl
theorem ciX4_100 : Jvm.Cond.constant "GlassHouse$Houses" 100 (60000) ∈ tGd := tGc5 206 rfl rfl
theorem obX5_1 : Cond.methodLink "GlassHouse$Pests" 1 Lib.objectInit ∈ tGd := tGc2 64 rfl rfl
theorem cnX5_9 : Cond.classLink "GlassHouse$Pests" 9 ("[" ++ (FieldType.array .long).toString) ∈ tGd := tGc2 65 rfl rfl
theorem fgX5_11 : FlkG RX5 11 5 0 := ⟨_, _, _, cls5, by decide, tGc2 67 rfl rfl⟩
theorem fwX5_11 : FlkF RX5 11 5 0 := ⟨_, _, _, cls5, by decide, tGc2 67 rfl rfl, by decide +kernel, by decide +kernel⟩
theorem cnX5_14 : Cond.classLink "GlassHouse$Pests" 14 ("[" ++ (FieldType.array .int).toString) ∈ tGd := tGc2 66 rfl rfl
theorem fgX5_16 : FlkG RX5 16 5 1 := ⟨_, _, _, cls5, by decide, tGc2 69 rfl rfl⟩
theorem fwX5_16 : FlkF RX5 16 5 1 := ⟨_, _, _, cls5, by decide, tGc2 69 rfl rfl, by decide +kernel, by decide +kernel⟩
theorem fgX5_19 : FlkG RX5 19 5 2 := ⟨_, _, _, cls5, by decide, tGc2 70 rfl rfl⟩
theorem fwX5_19 : FlkF RX5 19 5 2 := ⟨_, _, _, cls5, by decide, tGc2 70 rfl rfl, by decide +kernel, by decide +kernel⟩
theorem fgX5_22 : FlkG RX5 22 5 3 := ⟨_, _, _, cls5, by decide, tGc2 71 rfl rfl⟩
theorem fwX5_22 : FlkF RX5 22 5 3 := ⟨_, _, _, cls5, by decide, tGc2 71 rfl rfl, by decide +kernel, by decide +kernel⟩
theorem fgX5_25 : FlkG RX5 25 5 4 := ⟨_, _, _, cls5, by decide, tGc2 72 rfl rfl⟩
theorem fwX5_25 : FlkF RX5 25 5 4 := ⟨_, _, _, cls5, by decide, tGc2 72 rfl rfl, by decide +kernel, by decide +kernel⟩
theorem fgX5_29 : FlkG RX5 29 5 5 := ⟨_, _, _, cls5, by decide, tGc2 73 rfl rfl⟩
theorem fwX5_29 : FlkF RX5 29 5 5 := ⟨_, _, _, cls5, by decide, tGc2 73 rfl rfl, by decide +kernel, by decide +kernel⟩
theorem fgX5_32 : FlkG RX5 32 5 6 := ⟨_, _, _, cls5, by decide, tGc2 74 rfl rfl⟩
theorem fwX5_32 : FlkF RX5 32 5 6 := ⟨_, _, _, cls5, by decide, tGc2 74 rfl rfl, by decide +kernel, by decide +kernel⟩
theorem fgX5_35 : FlkG RX5 35 5 7 := ⟨_, _, _, cls5, by decide, tGc2 75 rfl rfl⟩
theorem fwX5_35 : FlkF RX5 35 5 7 := ⟨_, _, _, cls5, by decide, tGc2 75 rfl rfl, by decide +kernel, by decide +kernel⟩
theorem fgX5_40 : FlkG RX5 40 5 9 := ⟨_, _, _, cls5, by decide, tGc2 78 rfl rfl⟩
theorem fwX5_40 : Flk RX5 40 5 9 := ⟨_, _, _, cls5, by decide, tGc2 78 rfl rfl, by decide +kernel⟩
theorem clX5_38 : Jvm.Cond.constantLong "GlassHouse$Pests" 38 (4) ∈ tGd := tGc7 46 rfl rfl
theorem clX11_583 : Jvm.Cond.constantLong "GlassHouse" 583 (-1) ∈ tGd := tGc6 117 rfl rfl
theorem clX5_51 : Jvm.Cond.constantLong "GlassHouse$Pests" 51 (100) ∈ tGd := tGc7 33 rfl rfl
theorem clX5_61 : Jvm.Cond.constantLong "GlassHouse$Pests" 61 (1000000000) ∈ tGd := tGc7 36 rfl rfl
theorem mkX5_63 : Cond.methodLink "GlassHouse$Pests" 63 yXM_minJ ∈ tGd := tGc7 37 rfl rfl
theorem clX5_53 : Jvm.Cond.constantLong "GlassHouse$Pests" 53 (2000) ∈ tGd := tGc7 34 rfl rfl
theorem nkX5_55 : Cond.methodLinkNest "GlassHouse$Pests" 55 yX11_shareOut "GlassHouse" ∈ nestW := nsc7 35 rfl rfl
theorem fgX5_48 : FlkG RX5 48 5 8 := ⟨_, _, _, cls5, by decide, tGc2 76 rfl rfl⟩
theorem fwX5_48 : Flk RX5 48 5 8 := ⟨_, _, _, cls5, by decide, tGc2 76 rfl rfl, by decide +kernel⟩
theorem mkX5_44 : Cond.methodLink "GlassHouse$Pests" 44 yX5_dayOf ∈ tGd := tGc7 29 rfl rfl
theorem obX6_3 : Cond.methodLink "GlassHouse$Plans" 3 Lib.objectInit ∈ tGd := tGc1 57 rfl rfl
theorem fgX6_11 : FlkG RX6 11 6 0 := ⟨_, _, _, cls6, by decide, tGc1 58 rfl rfl⟩
theorem fwX6_11 : FlkF RX6 11 6 0 := ⟨_, _, _, cls6, by decide, tGc1 58 rfl rfl, by decide +kernel, by decide +kernel⟩
theorem fgX6_15 : FlkG RX6 15 6 1 := ⟨_, _, _, cls6, by decide, tGc1 59 rfl rfl⟩
theorem fwX6_15 : FlkF RX6 15 6 1 := ⟨_, _, _, cls6, by decide, tGc1 59 rfl rfl, by decide +kernel, by decide +kernel⟩
theorem fgX6_18 : FlkG RX6 18 6 2 := ⟨_, _, _, cls6, by decide, tGc1 60 rfl rfl⟩
theorem fwX6_18 : FlkF RX6 18 6 2 := ⟨_, _, _, cls6, by decide, tGc1 60 rfl rfl, by decide +kernel, by decide +kernel⟩
theorem fgX6_21 : FlkG RX6 21 6 3 := ⟨_, _, _, cls6, by decide, tGc1 61 rfl rfl⟩
theorem fwX6_21 : FlkF RX6 21 6 3 := ⟨_, _, _, cls6, by decide, tGc1 61 rfl rfl, by decide +kernel, by decide +kernel⟩
theorem fgX6_24 : FlkG RX6 24 6 4 := ⟨_, _, _, cls6, by decide, tGc1 62 rfl rfl⟩
theorem fwX6_24 : FlkF RX6 24 6 4 := ⟨_, _, _, cls6, by decide, tGc1 62 rfl rfl, by decide +kernel, by decide +kernel⟩
theorem fgX6_27 : FlkG RX6 27 6 5 := ⟨_, _, _, cls6, by decide, tGc1 63 rfl rfl⟩
theorem fwX6_27 : FlkF RX6 27 6 5 := ⟨_, _, _, cls6, by decide, tGc1 63 rfl rfl, by decide +kernel, by decide +kernel⟩
theorem fgX6_30 : FlkG RX6 30 6 6 := ⟨_, _, _, cls6, by decide, tGc1 64 rfl rfl⟩
theorem fwX6_30 : FlkF RX6 30 6 6 := ⟨_, _, _, cls6, by decide, tGc1 64 rfl rfl, by decide +kernel, by decide +kernel⟩
theorem mkX6_33 : Cond.methodLink "GlassHouse$Plans" 33 yX6_isPlace ∈ tGd := tGc4 210 rfl rfl
theorem obX8_1 : Cond.methodLink "GlassHouse$Stores" 1 Lib.objectInit ∈ tGd := tGc1 85 rfl rfl
theorem fgX8_9 : FlkG RX8 9 8 0 := ⟨_, _, _, cls8, by decide, tGc1 87 rfl rfl⟩
theorem fwX8_9 : FlkF RX8 9 8 0 := ⟨_, _, _, cls8, by decide, tGc1 87 rfl rfl, by decide +kernel, by decide +kernel⟩
theorem fgX8_13 : FlkG RX8 13 8 1 := ⟨_, _, _, cls8, by decide, tGc1 90 rfl rfl⟩
theorem fwX8_13 : FlkF RX8 13 8 1 := ⟨_, _, _, cls8, by decide, tGc1 90 rfl rfl, by decide +kernel, by decide +kernel⟩
theorem fgX8_17 : FlkG RX8 17 8 2 := ⟨_, _, _, cls8, by decide, tGc1 93 rfl rfl⟩
theorem fwX8_17 : FlkF RX8 17 8 2 := ⟨_, _, _, cls8, by decide, tGc1 93 rfl rfl, by decide +kernel, by decide +kernel⟩
theorem cnX8_20 : Cond.classLink "GlassHouse$Stores" 20 "GlassHouse$Thing" ∈ tGd := tGc1 86 rfl rfl
theorem fgX8_22 : FlkG RX8 22 8 3 := ⟨_, _, _, cls8, by decide, tGc1 96 rfl rfl⟩
theorem fwX8_22 : FlkF RX8 22 8 3 := ⟨_, _, _, cls8, by decide, tGc1 96 rfl rfl, by decide +kernel, by decide +kernel⟩
theorem fgX8_26 : FlkG RX8 26 8 4 := ⟨_, _, _, cls8, by decide, tGc1 97 rfl rfl⟩
theorem fwX8_26 : FlkF RX8 26 8 4 := ⟨_, _, _, cls8, by decide, tGc1 97 rfl rfl, by decide +kernel, by decide +kernel⟩
theorem fgX8_29 : FlkG RX8 29 8 5 := ⟨_, _, _, cls8, by decide, tGc1 98 rfl rfl⟩
theorem fwX8_29 : FlkF RX8 29 8 5 := ⟨_, _, _, cls8, by decide, tGc1 98 rfl rfl, by decide +kernel, by decide +kernel⟩
theorem obX7_3 : Cond.methodLink "GlassHouse$Runner" 3 Lib.objectInit ∈ tGd := tGc1 30 rfl rfl
theorem cnX7_9 : Cond.classLink "GlassHouse$Runner" 9 "GlassHouse$Thing" ∈ tGd := tGc1 31 rfl rfl
theorem fgX7_11 : FlkG RX7 11 7 0 := ⟨_, _, _, cls7, by decide, tGc1 118 rfl rfl⟩
theorem fwX7_11 : FlkF RX7 11 7 0 := ⟨_, _, _, cls7, by decide, tGc1 118 rfl rfl, by decide +kernel, by decide +kernel⟩
theorem cnX7_17 : Cond.classLink "GlassHouse$Runner" 17 "GlassHouse$Asker" ∈ tGd := tGc1 33 rfl rfl
theorem nkX7_19 : Cond.methodLinkNest "GlassHouse$Runner" 19 yX0_init "GlassHouse" ∈ nestW := nsc1 35 rfl rfl
theorem fgX7_20 : FlkG RX7 20 7 1 := ⟨_, _, _, cls7, by decide, tGc1 120 rfl rfl⟩
theorem fwX7_20 : FlkF RX7 20 7 1 := ⟨_, _, _, cls7, by decide, tGc1 120 rfl rfl, by decide +kernel, by decide +kernel⟩
theorem cnX7_24 : Cond.classLink "GlassHouse$Runner" 24 "GlassHouse$Plans" ∈ tGd := tGc1 52 rfl rfl
theorem nkX7_26 : Cond.methodLinkNest "GlassHouse$Runner" 26 yX6_init "GlassHouse" ∈ nestW := nsc1 54 rfl rfl
theorem fgX7_27 : FlkG RX7 27 7 2 := ⟨_, _, _, cls7, by decide, tGc1 122 rfl rfl⟩
theorem fwX7_27 : FlkF RX7 27 7 2 := ⟨_, _, _, cls7, by decide, tGc1 122 rfl rfl, by decide +kernel, by decide +kernel⟩
theorem cnX7_31 : Cond.classLink "GlassHouse$Runner" 31 "GlassHouse$Stores" ∈ tGd := tGc1 80 rfl rfl
theorem nkX7_33 : Cond.methodLinkNest "GlassHouse$Runner" 33 yX8_init "GlassHouse" ∈ nestW := nsc1 82 rfl rfl
theorem fgX7_34 : FlkG RX7 34 7 3 := ⟨_, _, _, cls7, by decide, tGc1 124 rfl rfl⟩
theorem fwX7_34 : FlkF RX7 34 7 3 := ⟨_, _, _, cls7, by decide, tGc1 124 rfl rfl, by decide +kernel, by decide +kernel⟩
theorem cnX7_38 : Cond.classLink "GlassHouse$Runner" 38 "GlassHouse$Frame" ∈ tGd := tGc1 116 rfl rfl
theorem fgX7_40 : FlkG RX7 40 7 4 := ⟨_, _, _, cls7, by decide, tGc1 126 rfl rfl⟩
theorem fwX7_40 : FlkF RX7 40 7 4 := ⟨_, _, _, cls7, by decide, tGc1 126 rfl rfl, by decide +kernel, by decide +kernel⟩
theorem fgX7_44 : FlkG RX7 44 7 5 := ⟨_, _, _, cls7, by decide, tGc1 127 rfl rfl⟩
theorem fwX7_44 : FlkF RX7 44 7 5 := ⟨_, _, _, cls7, by decide, tGc1 127 rfl rfl, by decide +kernel, by decide +kernel⟩
theorem fgX8_32 : FlkG RX8 32 8 6 := ⟨_, _, _, cls8, by decide, tGc1 99 rfl rfl⟩
theorem fgX7_70 : FlkG RX7 70 7 6 := ⟨_, _, _, cls7, by decide, tGc1 128 rfl rfl⟩
theorem nkX7_113 : Cond.methodLinkNest "GlassHouse$Runner" 113 yX3_init "GlassHouse" ∈ nestW := nsc4 104 rfl rfl
theorem fwX7_70 : Flk RX7 70 7 6 := ⟨_, _, _, cls7, by decide, tGc1 128 rfl rfl, by decide +kernel⟩
theorem fgX7_114 : FlkG RX7 114 3 8 := ⟨_, _, _, cls3, by decide, tGc4 116 rfl rfl⟩
theorem fwX7_114 : Flk RX7 114 3 8 := ⟨_, _, _, cls3, by decide, tGc4 116 rfl rfl, by decide +kernel⟩
theorem fgX7_117 : FlkG RX7 117 3 9 := ⟨_, _, _, cls3, by decide, tGc4 117 rfl rfl⟩
theorem fwX7_117 : Flk RX7 117 3 9 := ⟨_, _, _, cls3, by decide, tGc4 117 rfl rfl, by decide +kernel⟩
theorem fgX7_120 : FlkG RX7 120 3 11 := ⟨_, _, _, cls3, by decide, tGc4 119 rfl rfl⟩
theorem fwX7_120 : Flk RX7 120 3 11 := ⟨_, _, _, cls3, by decide, tGc4 119 rfl rfl, by decide +kernel⟩
theorem mkX7_123 : Cond.methodLink "GlassHouse$Runner" 123 yX8_changesSoFar ∈ tGd := tGc4 149 rfl rfl
theorem fgX7_127 : FlkG RX7 127 3 10 := ⟨_, _, _, cls3, by decide, tGc4 118 rfl rfl⟩
theorem fwX7_127 : Flk RX7 127 3 10 := ⟨_, _, _, cls3, by decide, tGc4 118 rfl rfl, by decide +kernel⟩
theorem mkX7_130 : Cond.methodLink "GlassHouse$Runner" 130 yX7_newTop ∈ tGd := tGc4 99 rfl rfl
theorem fgX7_133 : FlkG RX7 133 3 0 := ⟨_, _, _, cls3, by decide, tGc4 108 rfl rfl⟩
theorem fwX7_133 : Flk RX7 133 3 0 := ⟨_, _, _, cls3, by decide, tGc4 108 rfl rfl, by decide +kernel⟩
theorem fgX7_96 : FlkG RX7 96 3 1 := ⟨_, _, _, cls3, by decide, tGc4 109 rfl rfl⟩
theorem fwX7_96 : Flk RX7 96 3 1 := ⟨_, _, _, cls3, by decide, tGc4 109 rfl rfl, by decide +kernel⟩
theorem fgX7_136 : FlkG RX7 136 3 2 := ⟨_, _, _, cls3, by decide, tGc4 110 rfl rfl⟩
theorem fwX7_136 : Flk RX7 136 3 2 := ⟨_, _, _, cls3, by decide, tGc4 110 rfl rfl, by decide +kernel⟩
theorem fgX7_82 : FlkG RX7 82 3 3 := ⟨_, _, _, cls3, by decide, tGc4 111 rfl rfl⟩
theorem fwX7_82 : Flk RX7 82 3 3 := ⟨_, _, _, cls3, by decide, tGc4 111 rfl rfl, by decide +kernel⟩
theorem mkX7_139 : Cond.methodLink "GlassHouse$Runner" 139 yX6_lengthOf ∈ tGd := tGc4 153 rfl rfl
theorem fgX7_85 : FlkG RX7 85 3 4 := ⟨_, _, _, cls3, by decide, tGc4 112 rfl rfl⟩
theorem fwX7_85 : Flk RX7 85 3 4 := ⟨_, _, _, cls3, by decide, tGc4 112 rfl rfl, by decide +kernel⟩
theorem fgX7_55 : FlkG RX7 55 7 9 := ⟨_, _, _, cls7, by decide, tGc1 131 rfl rfl⟩
theorem fwX7_55 : Flk RX7 55 7 9 := ⟨_, _, _, cls7, by decide, tGc1 131 rfl rfl, by decide +kernel⟩
theorem mkX8_43 : Cond.methodLink "GlassHouse$Stores" 43 yXM_minI ∈ tGd := tGc4 174 rfl rfl
theorem mkX8_49 : Cond.methodLink "GlassHouse$Stores" 49 yXM_maxI ∈ tGd := tGc4 177 rfl rfl
theorem fwX8_32 : Flk RX8 32 8 6 := ⟨_, _, _, cls8, by decide, tGc1 99 rfl rfl, by decide +kernel⟩
theorem fgX8_40 : FlkG RX8 40 10 1 := ⟨_, _, _, cls10, by decide, tGc2 226 rfl rfl⟩
theorem mkX7_272 : Cond.methodLink "GlassHouse$Runner" 272 yX8_undoTo ∈ tGd := tGc4 170 rfl rfl
theorem mkX7_260 : Cond.methodLink "GlassHouse$Runner" 260 yX7_undoFaulted ∈ tGd := tGc4 166 rfl rfl
theorem fgX7_146 : FlkG RX7 146 3 5 := ⟨_, _, _, cls3, by decide, tGc4 113 rfl rfl⟩
theorem mkX7_161 : Cond.methodLink "GlassHouse$Runner" 161 yX7_counted ∈ tGd := tGc4 190 rfl rfl
theorem mkX7_143 : Cond.methodLink "GlassHouse$Runner" 143 yX6_endAt ∈ tGd := tGc4 206 rfl rfl
theorem mkX7_102 : Cond.methodLink "GlassHouse$Runner" 102 yX6_opAt ∈ tGd := tGc4 214 rfl rfl
theorem fgX7_61 : FlkG RX7 61 7 11 := ⟨_, _, _, cls7, by decide, tGc1 133 rfl rfl⟩
theorem fwX7_61 : Flk RX7 61 7 11 := ⟨_, _, _, cls7, by decide, tGc1 133 rfl rfl, by decide +kernel⟩
theorem mkX7_284 : Cond.methodLink "GlassHouse$Runner" 284 yX7_enterPart ∈ tGd := tGc4 222 rfl rfl
theorem fgX7_288 : FlkG RX7 288 3 12 := ⟨_, _, _, cls3, by decide, tGc4 121 rfl rfl⟩
theorem mkX7_106 : Cond.methodLink "GlassHouse$Runner" 106 yX6_aAt ∈ tGd := tGc4 218 rfl rfl
theorem fgX7_58 : FlkG RX7 58 7 10 := ⟨_, _, _, cls7, by decide, tGc1 132 rfl rfl⟩
theorem fwX7_58 : Flk RX7 58 7 10 := ⟨_, _, _, cls7, by decide, tGc1 132 rfl rfl, by decide +kernel⟩
theorem mkX7_281 : Cond.methodLink "GlassHouse$Runner" 281 yX7_entersLast ∈ tGd := tGc4 226 rfl rfl
theorem mkX7_278 : Cond.methodLink "GlassHouse$Runner" 278 yX7_meets ∈ tGd := tGc4 202 rfl rfl
theorem mkX7_275 : Cond.methodLink "GlassHouse$Runner" 275 yX7_settleLast ∈ tGd := tGc4 198 rfl rfl
theorem mkX7_78 : Cond.methodLink "GlassHouse$Runner" 78 yX7_top ∈ tGd := tGc4 158 rfl rfl
theorem mkX8_36 : Cond.methodLink "GlassHouse$Stores" 36 yX8_noteChange ∈ tGd := tGc4 182 rfl rfl
theorem mkX7_269 : Cond.methodLink "GlassHouse$Runner" 269 yX7_lookAgain ∈ tGd := tGc4 230 rfl rfl
theorem mkX7_266 : Cond.methodLink "GlassHouse$Runner" 266 yX7_goesOnTrying ∈ tGd := tGc4 194 rfl rfl
theorem mkX7_263 : Cond.methodLink "GlassHouse$Runner" 263 yX7_goesAgain ∈ tGd := tGc4 186 rfl rfl
theorem fgX7_257 : FlkG RX7 257 8 1 := ⟨_, _, _, cls8, by decide, tGc1 91 rfl rfl⟩
theorem fgX7_158 : FlkG RX7 158 3 7 := ⟨_, _, _, cls3, by decide, tGc4 115 rfl rfl⟩
theorem fgX7_185 : FlkG RX7 185 8 0 := ⟨_, _, _, cls8, by decide, tGc1 88 rfl rfl⟩
theorem fgX7_152 : FlkG RX7 152 3 6 := ⟨_, _, _, cls3, by decide, tGc4 114 rfl rfl⟩
theorem mkX7_189 : Cond.methodLink "GlassHouse$Runner" 189 yX8_changeStock ∈ tGd := tGc4 178 rfl rfl
theorem fgX7_208 : FlkG RX7 208 8 2 := ⟨_, _, _, cls8, by decide, tGc1 94 rfl rfl⟩
theorem fgX7_51 : FlkG RX7 51 7 8 := ⟨_, _, _, cls7, by decide, tGc1 130 rfl rfl⟩
theorem fwX7_51 : Flk RX7 51 7 8 := ⟨_, _, _, cls7, by decide, tGc1 130 rfl rfl, by decide +kernel⟩
theorem fgX7_67 : FlkG RX7 67 7 13 := ⟨_, _, _, cls7, by decide, tGc1 135 rfl rfl⟩
theorem fwX7_67 : Flk RX7 67 7 13 := ⟨_, _, _, cls7, by decide, tGc1 135 rfl rfl, by decide +kernel⟩
theorem fgX7_99 : FlkG RX7 99 7 7 := ⟨_, _, _, cls7, by decide, tGc1 129 rfl rfl⟩
theorem mkX7_182 : Cond.methodLink "GlassHouse$Runner" 182 yX7_arise ∈ tGd := tGc5 13 rfl rfl
theorem nkX7_165 : Cond.methodLinkNest "GlassHouse$Runner" 165 yX11_isStock "GlassHouse" ∈ nestW := nsc5 5 rfl rfl
theorem mkX7_234 : Cond.methodLink "GlassHouse$Runner" 234 yX0_beginAsk ∈ tGd := tGc5 51 rfl rfl
theorem mkX7_237 : Cond.methodLink "GlassHouse$Runner" 237 yX0_tell ∈ tGd := tGc5 52 rfl rfl
theorem fgX7_240 : FlkG RX7 240 0 2 := ⟨_, _, _, cls0, by decide, tGc1 42 rfl rfl⟩
theorem fwX7_146 : Flk RX7 146 3 5 := ⟨_, _, _, cls3, by decide, tGc4 113 rfl rfl, by decide +kernel⟩
theorem mkX7_149 : Cond.methodLink "GlassHouse$Runner" 149 yX6_bAt ∈ tGd := tGc5 17 rfl rfl
theorem fwX7_152 : Flk RX7 152 3 6 := ⟨_, _, _, cls3, by decide, tGc4 114 rfl rfl, by decide +kernel⟩
theorem mkX7_155 : Cond.methodLink "GlassHouse$Runner" 155 yX6_cAt ∈ tGd := tGc5 21 rfl rfl
theorem fwX7_158 : Flk RX7 158 3 7 := ⟨_, _, _, cls3, by decide, tGc4 115 rfl rfl, by decide +kernel⟩
theorem mkX7_246 : Cond.methodLink "GlassHouse$Runner" 246 yX7_enterBody ∈ tGd := tGc5 62 rfl rfl
theorem fgX7_64 : FlkG RX7 64 7 12 := ⟨_, _, _, cls7, by decide, tGc1 134 rfl rfl⟩
theorem mkX7_249 : Cond.methodLink "GlassHouse$Runner" 249 yX8_heldInAll ∈ tGd := tGc5 66 rfl rfl
theorem mkX7_252 : Cond.methodLink "GlassHouse$Runner" 252 yXM_maxI ∈ tGd := tGc5 70 rfl rfl
theorem fwX7_64 : Flk RX7 64 7 12 := ⟨_, _, _, cls7, by decide, tGc1 134 rfl rfl, by decide +kernel⟩
theorem mkX7_243 : Cond.methodLink "GlassHouse$Runner" 243 yX6_firstWrong ∈ tGd := tGc5 57 rfl rfl
theorem mkX7_73 : Cond.methodLink "GlassHouse$Runner" 73 yX7_enterPlan ∈ tGd := tGc4 95 rfl rfl
theorem nkX7_172 : Cond.methodLinkNest "GlassHouse$Runner" 172 yX11_isValve "GlassHouse" ∈ nestW := nsc5 9 rfl rfl
theorem nkX7_175 : Cond.methodLinkNest "GlassHouse$Runner" 175 yX11_isPlan "GlassHouse" ∈ nestW := nsc5 12 rfl rfl
theorem nkX7_169 : Cond.methodLinkNest "GlassHouse$Runner" 169 yX11_isBin "GlassHouse" ∈ nestW := nsc5 8 rfl rfl
theorem fgX11_113 : FlkG RX11 113 10 0 := ⟨_, _, _, cls10, by decide, tGc2 224 rfl rfl⟩
theorem mkX11_164 : Cond.methodLink "GlassHouse" 164 yX11_goesFor ∈ tGd := tGc3 80 rfl rfl
theorem mkX11_267 : Cond.methodLink "GlassHouse" 267 yX11_takenFault ∈ tGd := tGc3 77 rfl rfl
theorem fgX11_134 : FlkG RX11 134 10 1 := ⟨_, _, _, cls10, by decide, tGc2 227 rfl rfl⟩
theorem nkX7_219 : Cond.methodLinkNest "GlassHouse$Runner" 219 yX11_cellFault "GlassHouse" ∈ nestW := nsc5 33 rfl rfl
theorem mkX7_223 : Cond.methodLink "GlassHouse$Runner" 223 yX8_changeCell ∈ tGd := tGc5 34 rfl rfl
theorem fgX7_227 : FlkG RX7 227 10 1 := ⟨_, _, _, cls10, by decide, tGc2 228 rfl rfl⟩
theorem nkX7_230 : Cond.methodLinkNest "GlassHouse$Runner" 230 yX11_takenFault "GlassHouse" ∈ nestW := nsc5 46 rfl rfl
theorem mkX7_178 : Cond.methodLink "GlassHouse$Runner" 178 yX7_firstNumberFits ∈ tGd := tGc5 2 rfl rfl
theorem mkX7_215 : Cond.methodLink "GlassHouse$Runner" 215 yX7_beginBody ∈ tGd := tGc5 58 rfl rfl
theorem mkX7_211 : Cond.methodLink "GlassHouse$Runner" 211 yX7_doPlan ∈ tGd := tGc5 53 rfl rfl
theorem mkX7_205 : Cond.methodLink "GlassHouse$Runner" 205 yX7_askPlant ∈ tGd := tGc5 47 rfl rfl
theorem mkX7_202 : Cond.methodLink "GlassHouse$Runner" 202 yX7_writeCard ∈ tGd := tGc5 42 rfl rfl
theorem mkX7_199 : Cond.methodLink "GlassHouse$Runner" 199 yX7_readCell ∈ tGd := tGc5 38 rfl rfl
theorem mkX7_196 : Cond.methodLink "GlassHouse$Runner" 196 yX7_layCell ∈ tGd := tGc5 29 rfl rfl
theorem mkX7_193 : Cond.methodLink "GlassHouse$Runner" 193 yX7_divideStock ∈ tGd := tGc5 25 rfl rfl
theorem fwX7_99 : Flk RX7 99 7 7 := ⟨_, _, _, cls7, by decide, tGc1 129 rfl rfl, by decide +kernel⟩
theorem mkX7_48 : Cond.methodLink "GlassHouse$Runner" 48 yX8_forgetChanges ∈ tGd := tGc4 91 rfl rfl
theorem ciX7_77 : Jvm.Cond.constant "GlassHouse$Runner" 77 (1000000) ∈ tGd := tGc4 157 rfl rfl
theorem mkX7_88 : Cond.methodLink "GlassHouse$Runner" 88 yX7_leave ∈ tGd := tGc4 162 rfl rfl
theorem mkX7_92 : Cond.methodLink "GlassHouse$Runner" 92 yX7_stepBegins ∈ tGd := tGc4 234 rfl rfl
theorem mkX7_109 : Cond.methodLink "GlassHouse$Runner" 109 yX7_perform ∈ tGd := tGc4 238 rfl rfl
theorem ciX9_39 : Jvm.Cond.constant "GlassHouse$Tables" 39 (-1000000) ∈ tGd := tGc5 108 rfl rfl
theorem ciX9_40 : Jvm.Cond.constant "GlassHouse$Tables" 40 (1000000) ∈ tGd := tGc5 109 rfl rfl
theorem obX10_3 : Cond.methodLink "GlassHouse$Thing" 3 Lib.objectInit ∈ tGd := tGc2 221 rfl rfl
theorem fgX10_9 : FlkG RX10 9 10 0 := ⟨_, _, _, cls10, by decide, tGc2 222 rfl rfl⟩
theorem fwX10_9 : FlkF RX10 9 10 0 := ⟨_, _, _, cls10, by decide, tGc2 222 rfl rfl, by decide +kernel, by decide +kernel⟩
theorem fgX10_15 : FlkG RX10 15 10 1 := ⟨_, _, _, cls10, by decide, tGc2 225 rfl rfl⟩
theorem fwX10_15 : FlkF RX10 15 10 1 := ⟨_, _, _, cls10, by decide, tGc2 225 rfl rfl, by decide +kernel, by decide +kernel⟩
theorem fgX10_19 : FlkG RX10 19 10 2 := ⟨_, _, _, cls10, by decide, tGc2 229 rfl rfl⟩
theorem fwX10_19 : FlkF RX10 19 10 2 := ⟨_, _, _, cls10, by decide, tGc2 229 rfl rfl, by decide +kernel, by decide +kernel⟩
theorem obX11_1 : Cond.methodLink "GlassHouse" 1 Lib.objectInit ∈ tGd := tGc1 22 rfl rfl
theorem cnX11_7 : Cond.classLink "GlassHouse" 7 "GlassHouse$Runner" ∈ tGd := tGc1 25 rfl rfl
theorem nkX11_9 : Cond.methodLinkNest "GlassHouse" 9 yX7_init "GlassHouse" ∈ nestW := nsc1 27 rfl rfl
theorem fgX11_10 : FlkG RX11 10 11 0 := ⟨_, _, _, cls11, by decide, tGc2 133 rfl rfl⟩
theorem fwX11_10 : FlkF RX11 10 11 0 := ⟨_, _, _, cls11, by decide, tGc2 133 rfl rfl, by decide +kernel, by decide +kernel⟩
theorem fgX11_16 : FlkG RX11 16 7 0 := ⟨_, _, _, cls7, by decide, tGc1 119 rfl rfl⟩
theorem fgX11_20 : FlkG RX11 20 11 1 := ⟨_, _, _, cls11, by decide, tGc2 134 rfl rfl⟩
theorem fwX11_20 : FlkF RX11 20 11 1 := ⟨_, _, _, cls11, by decide, tGc2 134 rfl rfl, by decide +kernel, by decide +kernel⟩
theorem fgX11_21 : FlkG RX11 21 7 1 := ⟨_, _, _, cls7, by decide, tGc1 121 rfl rfl⟩
theorem fgX11_25 : FlkG RX11 25 11 2 := ⟨_, _, _, cls11, by decide, tGc2 135 rfl rfl⟩
theorem fwX11_25 : FlkF RX11 25 11 2 := ⟨_, _, _, cls11, by decide, tGc2 135 rfl rfl, by decide +kernel, by decide +kernel⟩
theorem fgX11_26 : FlkG RX11 26 7 2 := ⟨_, _, _, cls7, by decide, tGc1 123 rfl rfl⟩
theorem fgX11_30 : FlkG RX11 30 11 3 := ⟨_, _, _, cls11, by decide, tGc2 136 rfl rfl⟩
theorem fwX11_30 : FlkF RX11 30 11 3 := ⟨_, _, _, cls11, by decide, tGc2 136 rfl rfl, by decide +kernel, by decide +kernel⟩
theorem fgX11_31 : FlkG RX11 31 7 3 := ⟨_, _, _, cls7, by decide, tGc1 125 rfl rfl⟩
theorem fgX11_35 : FlkG RX11 35 11 4 := ⟨_, _, _, cls11, by decide, tGc2 137 rfl rfl⟩
theorem fwX11_35 : FlkF RX11 35 11 4 := ⟨_, _, _, cls11, by decide, tGc2 137 rfl rfl, by decide +kernel, by decide +kernel⟩
theorem cnX11_36 : Cond.classLink "GlassHouse" 36 "GlassHouse$Houses" ∈ tGd := tGc1 165 rfl rfl
theorem mkX11_38 : Cond.methodLink "GlassHouse" 38 yX4_init ∈ tGd := tGc1 167 rfl rfl
theorem fgX11_39 : FlkG RX11 39 11 5 := ⟨_, _, _, cls11, by decide, tGc2 138 rfl rfl⟩
theorem fwX11_39 : FlkF RX11 39 11 5 := ⟨_, _, _, cls11, by decide, tGc2 138 rfl rfl, by decide +kernel, by decide +kernel⟩
theorem fgX11_43 : FlkG RX11 43 4 0 := ⟨_, _, _, cls4, by decide, tGc1 217 rfl rfl⟩
theorem fgX11_47 : FlkG RX11 47 11 6 := ⟨_, _, _, cls11, by decide, tGc2 139 rfl rfl⟩
theorem fwX11_47 : FlkF RX11 47 11 6 := ⟨_, _, _, cls11, by decide, tGc2 139 rfl rfl, by decide +kernel, by decide +kernel⟩
theorem cnX11_48 : Cond.classLink "GlassHouse" 48 "GlassHouse$Feeds" ∈ tGd := tGc2 26 rfl rfl
theorem nkX11_50 : Cond.methodLinkNest "GlassHouse" 50 yX2_init "GlassHouse" ∈ nestW := nsc2 28 rfl rfl
theorem fgX11_51 : FlkG RX11 51 11 7 := ⟨_, _, _, cls11, by decide, tGc2 140 rfl rfl⟩
theorem fwX11_51 : FlkF RX11 51 11 7 := ⟨_, _, _, cls11, by decide, tGc2 140 rfl rfl, by decide +kernel, by decide +kernel⟩
theorem cnX11_55 : Cond.classLink "GlassHouse" 55 "GlassHouse$Pests" ∈ tGd := tGc2 59 rfl rfl
theorem nkX11_57 : Cond.methodLinkNest "GlassHouse" 57 yX5_init "GlassHouse" ∈ nestW := nsc2 61 rfl rfl
theorem fgX11_58 : FlkG RX11 58 11 8 := ⟨_, _, _, cls11, by decide, tGc2 141 rfl rfl⟩
theorem fwX11_58 : FlkF RX11 58 11 8 := ⟨_, _, _, cls11, by decide, tGc2 141 rfl rfl, by decide +kernel, by decide +kernel⟩
theorem cnX11_62 : Cond.classLink "GlassHouse" 62 "GlassHouse$Books" ∈ tGd := tGc2 101 rfl rfl
theorem nkX11_64 : Cond.methodLinkNest "GlassHouse" 64 yX1_init "GlassHouse" ∈ nestW := nsc2 103 rfl rfl
theorem fgX11_65 : FlkG RX11 65 11 9 := ⟨_, _, _, cls11, by decide, tGc2 142 rfl rfl⟩
theorem fwX11_65 : FlkF RX11 65 11 9 := ⟨_, _, _, cls11, by decide, tGc2 142 rfl rfl, by decide +kernel, by decide +kernel⟩
theorem fgX11_69 : FlkG RX11 69 11 10 := ⟨_, _, _, cls11, by decide, tGc2 143 rfl rfl⟩
theorem fwX11_69 : FlkF RX11 69 11 10 := ⟨_, _, _, cls11, by decide, tGc2 143 rfl rfl, by decide +kernel, by decide +kernel⟩
theorem fgX11_73 : FlkG RX11 73 11 11 := ⟨_, _, _, cls11, by decide, tGc2 144 rfl rfl⟩
theorem fwX11_73 : FlkF RX11 73 11 11 := ⟨_, _, _, cls11, by decide, tGc2 144 rfl rfl, by decide +kernel, by decide +kernel⟩
theorem fgX11_295 : FlkG RX11 295 11 13 := ⟨_, _, _, cls11, by decide, tGc2 146 rfl rfl⟩
theorem fwX11_295 : Flk RX11 295 11 13 := ⟨_, _, _, cls11, by decide, tGc2 146 rfl rfl, by decide +kernel⟩
theorem fgX11_304 : FlkG RX11 304 11 14 := ⟨_, _, _, cls11, by decide, tGc2 147 rfl rfl⟩
theorem fwX11_304 : Flk RX11 304 11 14 := ⟨_, _, _, cls11, by decide, tGc2 147 rfl rfl, by decide +kernel⟩
theorem fgX11_243 : FlkG RX11 243 11 12 := ⟨_, _, _, cls11, by decide, tGc2 145 rfl rfl⟩
theorem fwX11_243 : Flk RX11 243 11 12 := ⟨_, _, _, cls11, by decide, tGc2 145 rfl rfl, by decide +kernel⟩
theorem cnX11_102 : Cond.classLink "GlassHouse" 102 "GlassHouse$Thing" ∈ tGd := tGc2 216 rfl rfl
theorem mkX11_215 : Cond.methodLink "GlassHouse" 215 yX10_init ∈ tGd := tGc2 218 rfl rfl
theorem mkX11_76 : Cond.methodLink "GlassHouse" 76 yX11_isBin ∈ tGd := tGc2 198 rfl rfl
theorem mkX11_80 : Cond.methodLink "GlassHouse" 80 yX11_isLane ∈ tGd := tGc2 201 rfl rfl
theorem mkX11_83 : Cond.methodLink "GlassHouse" 83 yX11_isFull ∈ tGd := tGc2 204 rfl rfl
theorem mkX11_91 : Cond.methodLink "GlassHouse" 91 yX11_newRow ∈ tGd := tGc2 212 rfl rfl
theorem mkX11_87 : Cond.methodLink "GlassHouse" 87 yX11_fail ∈ tGd := tGc2 208 rfl rfl
theorem gsX11_212 : Cond.fieldLink "GlassHouse" 212 "GlassHouse" "NO_CELLS" "[J" ∈ tGd := tGc3 33 rfl rfl
theorem mkX11_95 : Cond.methodLink "GlassHouse" 95 yX11_isGridForm ∈ tGd := tGc3 26 rfl rfl
theorem mkX11_98 : Cond.methodLink "GlassHouse" 98 yX11_newPlaces ∈ tGd := tGc3 29 rfl rfl
theorem fgX11_101 : FlkG RX11 101 10 2 := ⟨_, _, _, cls10, by decide, tGc2 230 rfl rfl⟩
theorem mkX11_106 : Cond.methodLink "GlassHouse" 106 yX11_laneOfGrid ∈ tGd := tGc3 35 rfl rfl
theorem mkX11_109 : Cond.methodLink "GlassHouse" 109 yX11_intoBin ∈ tGd := tGc3 42 rfl rfl
theorem mkX11_515 : Cond.methodLink "GlassHouse" 515 yX11_thirsts ∈ tGd := tGc3 67 rfl rfl
theorem mkX11_117 : Cond.methodLink "GlassHouse" 117 yX11_isForm ∈ tGd := tGc3 58 rfl rfl
theorem mkX11_120 : Cond.methodLink "GlassHouse" 120 yX11_isTrayForm ∈ tGd := tGc3 61 rfl rfl
theorem fgX11_123 : FlkG RX11 123 10 3 := ⟨_, _, _, cls10, by decide, tGc2 233 rfl rfl⟩
theorem mkX11_126 : Cond.methodLink "GlassHouse" 126 yX11_trayTakes ∈ tGd := tGc3 64 rfl rfl
theorem mkX11_130 : Cond.methodLink "GlassHouse" 130 yX11_cellFault ∈ tGd := tGc3 74 rfl rfl
theorem mkX11_137 : Cond.methodLink "GlassHouse" 137 yX11_cellOf ∈ tGd := tGc3 87 rfl rfl
theorem mkX11_149 : Cond.methodLink "GlassHouse" 149 yX11_placeFault ∈ tGd := tGc3 107 rfl rfl
theorem mkX11_152 : Cond.methodLink "GlassHouse" 152 yX11_placeOf ∈ tGd := tGc3 110 rfl rfl
theorem mkX11_141 : Cond.methodLink "GlassHouse" 141 yX11_bayAt ∈ tGd := tGc3 104 rfl rfl
theorem mkX11_145 : Cond.methodLink "GlassHouse" 145 yX11_bayFault ∈ tGd := tGc3 113 rfl rfl
theorem mkX11_206 : Cond.methodLink "GlassHouse" 206 yX11_isPlacesForm ∈ tGd := tGc3 131 rfl rfl
theorem mkX11_156 : Cond.methodLink "GlassHouse" 156 yX11_placesFault ∈ tGd := tGc3 128 rfl rfl
theorem mkX11_160 : Cond.methodLink "GlassHouse" 160 yX11_takes ∈ tGd := tGc3 134 rfl rfl
theorem mkX11_179 : Cond.methodLink "GlassHouse" 179 yX11_spanFits ∈ tGd := tGc3 159 rfl rfl
theorem mkX11_183 : Cond.methodLink "GlassHouse" 183 yX11_isRow ∈ tGd := tGc3 152 rfl rfl
theorem fgX11_168 : FlkG RX11 168 11 17 := ⟨_, _, _, cls11, by decide, tGc2 150 rfl rfl⟩
theorem fwX11_168 : Flk RX11 168 11 17 := ⟨_, _, _, cls11, by decide, tGc2 150 rfl rfl, by decide +kernel⟩
theorem mkX11_171 : Cond.methodLink "GlassHouse" 171 yX11_shiftable ∈ tGd := tGc3 149 rfl rfl
theorem mkX11_175 : Cond.methodLink "GlassHouse" 175 yX10_length ∈ tGd := tGc3 155 rfl rfl
theorem mkX11_191 : Cond.methodLink "GlassHouse" 191 yX11_leadTaken ∈ tGd := tGc3 165 rfl rfl
theorem mkX11_195 : Cond.methodLink "GlassHouse" 195 yX11_movePlaces ∈ tGd := tGc3 168 rfl rfl
theorem mkX11_187 : Cond.methodLink "GlassHouse" 187 yX11_moveCells ∈ tGd := tGc3 162 rfl rfl
theorem fgX11_518 : FlkG RX11 518 11 16 := ⟨_, _, _, cls11, by decide, tGc2 149 rfl rfl⟩
theorem fgX11_240 : FlkG RX11 240 10 4 := ⟨_, _, _, cls10, by decide, tGc2 235 rfl rfl⟩
theorem fwX11_240 : Flk RX11 240 10 4 := ⟨_, _, _, cls10, by decide, tGc2 235 rfl rfl, by decide +kernel⟩
theorem fwX11_518 : Flk RX11 518 11 16 := ⟨_, _, _, cls11, by decide, tGc2 149 rfl rfl, by decide +kernel⟩
theorem mkX11_198 : Cond.methodLink "GlassHouse" 198 yX11_copied ∈ tGd := tGc3 179 rfl rfl
theorem mkX11_263 : Cond.methodLink "GlassHouse" 263 yX11_newCard ∈ tGd := tGc3 183 rfl rfl
theorem mkX11_521 : Cond.methodLink "GlassHouse" 521 yX11_equalCells ∈ tGd := tGc3 194 rfl rfl
theorem mkX11_202 : Cond.methodLink "GlassHouse" 202 yX11_equalThings ∈ tGd := tGc3 191 rfl rfl
theorem mkX11_209 : Cond.methodLink "GlassHouse" 209 yX10_emptyPlaces ∈ tGd := tGc3 201 rfl rfl
theorem fgX11_228 : FlkG RX11 228 10 7 := ⟨_, _, _, cls10, by decide, tGc3 1 rfl rfl⟩
theorem fwX11_123 : Flk RX11 123 10 3 := ⟨_, _, _, cls10, by decide, tGc2 233 rfl rfl, by decide +kernel⟩
theorem fgX11_231 : FlkG RX11 231 10 5 := ⟨_, _, _, cls10, by decide, tGc2 237 rfl rfl⟩
theorem fwX11_231 : Flk RX11 231 10 5 := ⟨_, _, _, cls10, by decide, tGc2 237 rfl rfl, by decide +kernel⟩
theorem fgX11_234 : FlkG RX11 234 10 6 := ⟨_, _, _, cls10, by decide, tGc2 239 rfl rfl⟩
theorem fwX11_234 : Flk RX11 234 10 6 := ⟨_, _, _, cls10, by decide, tGc2 239 rfl rfl, by decide +kernel⟩
theorem fgX11_237 : FlkG RX11 237 11 15 := ⟨_, _, _, cls11, by decide, tGc2 148 rfl rfl⟩
theorem fwX11_237 : Flk RX11 237 11 15 := ⟨_, _, _, cls11, by decide, tGc2 148 rfl rfl, by decide +kernel⟩
theorem mkX11_218 : Cond.methodLink "GlassHouse" 218 yX11_depthOf ∈ tGd := tGc3 209 rfl rfl
theorem mkX11_222 : Cond.methodLink "GlassHouse" 222 yXM_maxI ∈ tGd := tGc3 212 rfl rfl
theorem fwX11_228 : Flk RX11 228 10 7 := ⟨_, _, _, cls10, by decide, tGc3 1 rfl rfl, by decide +kernel⟩
theorem mkX11_246 : Cond.methodLink "GlassHouse" 246 yX0_beginAsk ∈ tGd := tGc3 223 rfl rfl
theorem mkX11_251 : Cond.methodLink "GlassHouse" 251 yX0_tell ∈ tGd := tGc3 227 rfl rfl
theorem fgX11_254 : FlkG RX11 254 0 2 := ⟨_, _, _, cls0, by decide, tGc1 43 rfl rfl⟩
theorem fgX11_257 : FlkG RX11 257 11 18 := ⟨_, _, _, cls11, by decide, tGc2 151 rfl rfl⟩
theorem fwX11_257 : Flk RX11 257 11 18 := ⟨_, _, _, cls11, by decide, tGc2 151 rfl rfl, by decide +kernel⟩
theorem mkX11_260 : Cond.methodLink "GlassHouse" 260 yX0_traceAt ∈ tGd := tGc4 27 rfl rfl
theorem fgX11_270 : FlkG RX11 270 11 19 := ⟨_, _, _, cls11, by decide, tGc2 152 rfl rfl⟩
theorem fwX11_270 : Flk RX11 270 11 19 := ⟨_, _, _, cls11, by decide, tGc2 152 rfl rfl, by decide +kernel⟩
theorem ciX11_273 : Jvm.Cond.constant "GlassHouse" 273 (1000000) ∈ tGd := tGc4 55 rfl rfl
theorem fgX11_274 : FlkG RX11 274 10 8 := ⟨_, _, _, cls10, by decide, tGc3 2 rfl rfl⟩
theorem fwX11_274 : Flk RX11 274 10 8 := ⟨_, _, _, cls10, by decide, tGc3 2 rfl rfl, by decide +kernel⟩
theorem mkX11_277 : Cond.methodLink "GlassHouse" 277 yX11_isPlan ∈ tGd := tGc4 60 rfl rfl
theorem mkX11_280 : Cond.methodLink "GlassHouse" 280 yX6_added ∈ tGd := tGc4 63 rfl rfl
theorem mkX11_286 : Cond.methodLink "GlassHouse" 286 yX6_emptied ∈ tGd := tGc4 71 rfl rfl
theorem mkX11_289 : Cond.methodLink "GlassHouse" 289 yX6_firstWrong ∈ tGd := tGc4 79 rfl rfl
theorem mkX11_292 : Cond.methodLink "GlassHouse" 292 yX7_wholeRun ∈ tGd := tGc4 87 rfl rfl
theorem mkX11_298 : Cond.methodLink "GlassHouse" 298 yX7_toldOf ∈ tGd := tGc5 71 rfl rfl
theorem mkX11_301 : Cond.methodLink "GlassHouse" 301 yX7_faultOut ∈ tGd := tGc5 75 rfl rfl
theorem mkX11_307 : Cond.methodLink "GlassHouse" 307 yX11_isStock ∈ tGd := tGc5 87 rfl rfl
theorem fgX11_310 : FlkG RX11 310 8 0 := ⟨_, _, _, cls8, by decide, tGc1 89 rfl rfl⟩
theorem mkX11_315 : Cond.methodLink "GlassHouse" 315 yX11_isValve ∈ tGd := tGc5 96 rfl rfl
theorem fgX11_322 : FlkG RX11 322 8 2 := ⟨_, _, _, cls8, by decide, tGc1 95 rfl rfl⟩
theorem fgX11_318 : FlkG RX11 318 8 1 := ⟨_, _, _, cls8, by decide, tGc1 92 rfl rfl⟩
theorem mkX11_325 : Cond.methodLink "GlassHouse" 325 yX11_isTable ∈ tGd := tGc5 101 rfl rfl
theorem mkX11_328 : Cond.methodLink "GlassHouse" 328 yX9_lineAdded ∈ tGd := tGc5 104 rfl rfl
theorem mkX11_333 : Cond.methodLink "GlassHouse" 333 yX9_rested ∈ tGd := tGc5 114 rfl rfl
theorem mkX11_336 : Cond.methodLink "GlassHouse" 336 yX9_valueAt ∈ tGd := tGc5 122 rfl rfl
theorem mkX11_339 : Cond.methodLink "GlassHouse" 339 yX9_laidAt ∈ tGd := tGc5 141 rfl rfl
theorem mkX11_342 : Cond.methodLink "GlassHouse" 342 yX11_isProbe ∈ tGd := tGc5 149 rfl rfl
theorem mkX11_345 : Cond.methodLink "GlassHouse" 345 yX4_takeReading ∈ tGd := tGc5 152 rfl rfl
theorem mkX11_353 : Cond.methodLink "GlassHouse" 353 yX11_realOf ∈ tGd := tGc5 172 rfl rfl
theorem fgX11_357 : FlkG RX11 357 4 7 := ⟨_, _, _, cls4, by decide, tGc1 227 rfl rfl⟩
theorem fwX11_357 : Flk RX11 357 4 7 := ⟨_, _, _, cls4, by decide, tGc1 227 rfl rfl, by decide +kernel⟩
theorem fgX11_361 : FlkG RX11 361 4 1 := ⟨_, _, _, cls4, by decide, tGc1 219 rfl rfl⟩
theorem mkX11_365 : Cond.methodLink "GlassHouse" 365 yX11_isHouse ∈ tGd := tGc5 181 rfl rfl
theorem fgX11_368 : FlkG RX11 368 4 5 := ⟨_, _, _, cls4, by decide, tGc1 224 rfl rfl⟩
theorem mkX11_371 : Cond.methodLink "GlassHouse" 371 yX4_newWeather ∈ tGd := tGc5 188 rfl rfl
theorem mkX11_374 : Cond.methodLink "GlassHouse" 374 yX4_markAdded ∈ tGd := tGc5 201 rfl rfl
theorem mkX11_377 : Cond.methodLink "GlassHouse" 377 yX4_marksGone ∈ tGd := tGc5 211 rfl rfl
theorem ciX11_380 : Jvm.Cond.constant "GlassHouse" 380 (-100000) ∈ tGd := tGc5 219 rfl rfl
theorem mkX11_381 : Cond.methodLink "GlassHouse" 381 yX4_hasWish ∈ tGd := tGc5 220 rfl rfl
theorem ciX11_387 : Jvm.Cond.constant "GlassHouse" 387 (-100001) ∈ tGd := tGc5 229 rfl rfl
theorem mkX11_384 : Cond.methodLink "GlassHouse" 384 yX4_wishAt ∈ tGd := tGc5 224 rfl rfl
theorem fgX11_388 : FlkG RX11 388 4 13 := ⟨_, _, _, cls4, by decide, tGc1 235 rfl rfl⟩
theorem ciX11_391 : Jvm.Cond.constant "GlassHouse" 391 (100000) ∈ tGd := tGc5 234 rfl rfl
theorem mkX11_392 : Cond.methodLink "GlassHouse" 392 yX4_passMinute ∈ tGd := tGc5 235 rfl rfl
theorem fgX11_395 : FlkG RX11 395 4 8 := ⟨_, _, _, cls4, by decide, tGc1 229 rfl rfl⟩
theorem ciX11_399 : Jvm.Cond.constant "GlassHouse" 399 (1000000000) ∈ tGd := tGc6 110 rfl rfl
theorem mkX11_403 : Cond.methodLink "GlassHouse" 403 yX11_canShare ∈ tGd := tGc6 111 rfl rfl
theorem mkX11_406 : Cond.methodLink "GlassHouse" 406 yX11_shareOut ∈ tGd := tGc6 114 rfl rfl
theorem ciXN_264 : Jvm.Cond.constant "java/lang/Integer" 264 (65536) ∈ tGd := tGc6 142 rfl rfl
theorem mkXN_308 : Cond.methodLink "java/lang/Long" 308 yXN_nlzI ∈ tGd := tGc6 139 rfl rfl
theorem clX11_540 : Jvm.Cond.constantLong "GlassHouse" 540 (-9223372036854775808) ∈ tGd := tGc6 132 rfl rfl
theorem clX11_542 : Jvm.Cond.constantLong "GlassHouse" 542 (255) ∈ tGd := tGc6 133 rfl rfl
theorem clX11_544 : Jvm.Cond.constantLong "GlassHouse" 544 (8388607) ∈ tGd := tGc6 134 rfl rfl
theorem mkX11_548 : Cond.methodLink "GlassHouse" 548 yXN_nlzL ∈ tGd := tGc6 136 rfl rfl
theorem clX11_554 : Jvm.Cond.constantLong "GlassHouse" 554 (874) ∈ tGd := tGc6 143 rfl rfl
theorem clX11_546 : Jvm.Cond.constantLong "GlassHouse" 546 (896) ∈ tGd := tGc6 135 rfl rfl
theorem mkX11_536 : Cond.methodLink "GlassHouse" 536 yX11_widened ∈ tGd := tGc6 129 rfl rfl
theorem mkX11_410 : Cond.methodLink "GlassHouse" 410 yX11_doubleBits ∈ tGd := tGc6 126 rfl rfl
theorem mkX11_413 : Cond.methodLink "GlassHouse" 413 yX11_flagsOf ∈ tGd := tGc6 144 rfl rfl
theorem mkX11_561 : Cond.methodLink "GlassHouse" 561 yX11_isEndless ∈ tGd := tGc6 159 rfl rfl
theorem clX11_581 : Jvm.Cond.constantLong "GlassHouse" 581 (1023) ∈ tGd := tGc6 165 rfl rfl
theorem mkX11_565 : Cond.methodLink "GlassHouse" 565 yX11_bitsOf ∈ tGd := tGc6 162 rfl rfl
theorem mkX11_417 : Cond.methodLink "GlassHouse" 417 yX11_gatherNumbers ∈ tGd := tGc6 151 rfl rfl
theorem mkX11_426 : Cond.methodLink "GlassHouse" 426 yX11_sortByOrder ∈ tGd := tGc6 166 rfl rfl
theorem mkX11_422 : Cond.methodLink "GlassHouse" 422 yX11_meanBits ∈ tGd := tGc6 155 rfl rfl
theorem mkX11_430 : Cond.methodLink "GlassHouse" 430 yX2_becomes ∈ tGd := tGc6 175 rfl rfl
theorem mkX11_433 : Cond.methodLink "GlassHouse" 433 yX2_solved ∈ tGd := tGc6 183 rfl rfl
theorem mkX11_436 : Cond.methodLink "GlassHouse" 436 yX2_outcome ∈ tGd := tGc6 235 rfl rfl
theorem mkX11_440 : Cond.methodLink "GlassHouse" 440 yX11_isPest ∈ tGd := tGc7 3 rfl rfl
theorem mkX11_443 : Cond.methodLink "GlassHouse" 443 yX11_isStage ∈ tGd := tGc7 6 rfl rfl
theorem clX11_446 : Jvm.Cond.constantLong "GlassHouse" 446 (1000000000) ∈ tGd := tGc7 9 rfl rfl
theorem fgX11_448 : FlkG RX11 448 5 0 := ⟨_, _, _, cls5, by decide, tGc2 68 rfl rfl⟩
theorem mkX11_451 : Cond.methodLink "GlassHouse" 451 yX11_isPart ∈ tGd := tGc7 14 rfl rfl
theorem mkX11_454 : Cond.methodLink "GlassHouse" 454 yX5_setParts ∈ tGd := tGc7 17 rfl rfl
theorem fgX11_458 : FlkG RX11 458 5 8 := ⟨_, _, _, cls5, by decide, tGc2 77 rfl rfl⟩
theorem mkX11_461 : Cond.methodLink "GlassHouse" 461 yX5_passDay ∈ tGd := tGc7 25 rfl rfl
theorem mkX11_464 : Cond.methodLink "GlassHouse" 464 yX5_lessen ∈ tGd := tGc7 42 rfl rfl
theorem fgX11_468 : FlkG RX11 468 5 9 := ⟨_, _, _, cls5, by decide, tGc2 79 rfl rfl⟩
theorem mkX11_471 : Cond.methodLink "GlassHouse" 471 yX1_writes ∈ tGd := tGc7 59 rfl rfl
theorem mkX11_474 : Cond.methodLink "GlassHouse" 474 yX1_written ∈ tGd := tGc7 62 rfl rfl
theorem mkX11_478 : Cond.methodLink "GlassHouse" 478 yX1_powerSet ∈ tGd := tGc7 87 rfl rfl
theorem mkX11_481 : Cond.methodLink "GlassHouse" 481 yX1_opened ∈ tGd := tGc7 95 rfl rfl
theorem mkX11_484 : Cond.methodLink "GlassHouse" 484 yX1_readOf ∈ tGd := tGc7 132 rfl rfl
theorem mkX11_487 : Cond.methodLink "GlassHouse" 487 yX1_isByte ∈ tGd := tGc7 141 rfl rfl
theorem fgX11_490 : FlkG RX11 490 1 0 := ⟨_, _, _, cls1, by decide, tGc2 108 rfl rfl⟩
theorem fgX11_512 : FlkG RX11 512 9 8 := ⟨_, _, _, cls9, by decide, tGc1 188 rfl rfl⟩
theorem mkX11_509 : Cond.methodLink "GlassHouse" 509 yX6_stepsInAll ∈ tGd := tGc7 159 rfl rfl
theorem mkX11_506 : Cond.methodLink "GlassHouse" 506 yX1_gatherRead ∈ tGd := tGc7 158 rfl rfl
theorem mkX11_503 : Cond.methodLink "GlassHouse" 503 yX1_clashes ∈ tGd := tGc7 150 rfl rfl
theorem fgX11_499 : FlkG RX11 499 1 5 := ⟨_, _, _, cls1, by decide, tGc2 116 rfl rfl⟩
theorem fgX11_496 : FlkG RX11 496 1 4 := ⟨_, _, _, cls1, by decide, tGc2 114 rfl rfl⟩
theorem fgX11_493 : FlkG RX11 493 1 3 := ⟨_, _, _, cls1, by decide, tGc2 112 rfl rfl⟩
theorem obX12_3 : Cond.methodLink "GlassHouseModel" 3 Lib.objectInit ∈ tGd := tGc7 172 rfl rfl
theorem fgX12_9 : FlkG RX12 9 12 3 := ⟨_, _, _, cls12, by decide, tGc7 182 rfl rfl⟩
theorem fwX12_9 : FlkF RX12 9 12 3 := ⟨_, _, _, cls12, by decide, tGc7 182 rfl rfl, by decide +kernel, by decide +kernel⟩
theorem fgX12_15 : FlkG RX12 15 12 4 := ⟨_, _, _, cls12, by decide, tGc7 183 rfl rfl⟩
theorem fwX12_15 : FlkF RX12 15 12 4 := ⟨_, _, _, cls12, by decide, tGc7 183 rfl rfl, by decide +kernel, by decide +kernel⟩
theorem fgX12_19 : FlkG RX12 19 12 5 := ⟨_, _, _, cls12, by decide, tGc7 184 rfl rfl⟩
theorem fwX12_19 : FlkF RX12 19 12 5 := ⟨_, _, _, cls12, by decide, tGc7 184 rfl rfl, by decide +kernel, by decide +kernel⟩
theorem fgX12_22 : FlkG RX12 22 12 6 := ⟨_, _, _, cls12, by decide, tGc7 185 rfl rfl⟩
theorem fwX12_22 : FlkF RX12 22 12 6 := ⟨_, _, _, cls12, by decide, tGc7 185 rfl rfl, by decide +kernel, by decide +kernel⟩
theorem ciX12_25 : Jvm.Cond.constant "GlassHouseModel" 25 (164000) ∈ tGd := tGc7 173 rfl rfl
theorem fgX12_26 : FlkG RX12 26 12 8 := ⟨_, _, _, cls12, by decide, tGc7 187 rfl rfl⟩
theorem fwX12_26 : FlkF RX12 26 12 8 := ⟨_, _, _, cls12, by decide, tGc7 187 rfl rfl, by decide +kernel, by decide +kernel⟩
theorem ciX12_30 : Jvm.Cond.constant "GlassHouseModel" 30 (41000) ∈ tGd := tGc7 174 rfl rfl
theorem fgX12_31 : FlkG RX12 31 12 10 := ⟨_, _, _, cls12, by decide, tGc7 189 rfl rfl⟩
theorem fwX12_31 : FlkF RX12 31 12 10 := ⟨_, _, _, cls12, by decide, tGc7 189 rfl rfl, by decide +kernel, by decide +kernel⟩
theorem fgX12_35 : FlkG RX12 35 12 11 := ⟨_, _, _, cls12, by decide, tGc7 190 rfl rfl⟩
theorem fwX12_35 : FlkF RX12 35 12 11 := ⟨_, _, _, cls12, by decide, tGc7 190 rfl rfl, by decide +kernel, by decide +kernel⟩
theorem fgX12_38 : FlkG RX12 38 12 12 := ⟨_, _, _, cls12, by decide, tGc7 191 rfl rfl⟩
theorem fwX12_38 : FlkF RX12 38 12 12 := ⟨_, _, _, cls12, by decide, tGc7 191 rfl rfl, by decide +kernel, by decide +kernel⟩
theorem fgX12_41 : FlkG RX12 41 12 13 := ⟨_, _, _, cls12, by decide, tGc7 192 rfl rfl⟩
theorem fwX12_41 : FlkF RX12 41 12 13 := ⟨_, _, _, cls12, by decide, tGc7 192 rfl rfl, by decide +kernel, by decide +kernel⟩
theorem fgX12_44 : FlkG RX12 44 12 14 := ⟨_, _, _, cls12, by decide, tGc7 193 rfl rfl⟩
theorem fwX12_44 : FlkF RX12 44 12 14 := ⟨_, _, _, cls12, by decide, tGc7 193 rfl rfl, by decide +kernel, by decide +kernel⟩
theorem fgX12_47 : FlkG RX12 47 12 15 := ⟨_, _, _, cls12, by decide, tGc7 194 rfl rfl⟩
theorem fwX12_47 : FlkF RX12 47 12 15 := ⟨_, _, _, cls12, by decide, tGc7 194 rfl rfl, by decide +kernel, by decide +kernel⟩
theorem fgX12_50 : FlkG RX12 50 12 16 := ⟨_, _, _, cls12, by decide, tGc7 195 rfl rfl⟩
theorem fwX12_50 : FlkF RX12 50 12 16 := ⟨_, _, _, cls12, by decide, tGc7 195 rfl rfl, by decide +kernel, by decide +kernel⟩
theorem fgX12_53 : FlkG RX12 53 12 17 := ⟨_, _, _, cls12, by decide, tGc7 196 rfl rfl⟩
theorem fwX12_53 : FlkF RX12 53 12 17 := ⟨_, _, _, cls12, by decide, tGc7 196 rfl rfl, by decide +kernel, by decide +kernel⟩
theorem fgX12_56 : FlkG RX12 56 12 21 := ⟨_, _, _, cls12, by decide, tGc7 200 rfl rfl⟩
theorem fwX12_56 : FlkF RX12 56 12 21 := ⟨_, _, _, cls12, by decide, tGc7 200 rfl rfl, by decide +kernel, by decide +kernel⟩
theorem fgX12_59 : FlkG RX12 59 12 23 := ⟨_, _, _, cls12, by decide, tGc7 202 rfl rfl⟩
theorem fwX12_59 : FlkF RX12 59 12 23 := ⟨_, _, _, cls12, by decide, tGc7 202 rfl rfl, by decide +kernel, by decide +kernel⟩
theorem fgX12_62 : FlkG RX12 62 12 26 := ⟨_, _, _, cls12, by decide, tGc7 205 rfl rfl⟩
theorem fwX12_62 : FlkF RX12 62 12 26 := ⟨_, _, _, cls12, by decide, tGc7 205 rfl rfl, by decide +kernel, by decide +kernel⟩
theorem fgX12_65 : FlkG RX12 65 12 27 := ⟨_, _, _, cls12, by decide, tGc7 206 rfl rfl⟩
theorem fwX12_65 : FlkF RX12 65 12 27 := ⟨_, _, _, cls12, by decide, tGc7 206 rfl rfl, by decide +kernel, by decide +kernel⟩
theorem fgX12_68 : FlkG RX12 68 12 28 := ⟨_, _, _, cls12, by decide, tGc7 207 rfl rfl⟩
theorem fwX12_68 : FlkF RX12 68 12 28 := ⟨_, _, _, cls12, by decide, tGc7 207 rfl rfl, by decide +kernel, by decide +kernel⟩
theorem fgX12_71 : FlkG RX12 71 12 31 := ⟨_, _, _, cls12, by decide, tGc7 210 rfl rfl⟩
theorem fwX12_71 : FlkF RX12 71 12 31 := ⟨_, _, _, cls12, by decide, tGc7 210 rfl rfl, by decide +kernel, by decide +kernel⟩
theorem fgX12_74 : FlkG RX12 74 12 33 := ⟨_, _, _, cls12, by decide, tGc7 212 rfl rfl⟩
theorem fwX12_74 : FlkF RX12 74 12 33 := ⟨_, _, _, cls12, by decide, tGc7 212 rfl rfl, by decide +kernel, by decide +kernel⟩
theorem fgX12_77 : FlkG RX12 77 12 34 := ⟨_, _, _, cls12, by decide, tGc7 213 rfl rfl⟩
theorem fwX12_77 : FlkF RX12 77 12 34 := ⟨_, _, _, cls12, by decide, tGc7 213 rfl rfl, by decide +kernel, by decide +kernel⟩
theorem fgX12_80 : FlkG RX12 80 12 35 := ⟨_, _, _, cls12, by decide, tGc7 214 rfl rfl⟩
theorem fwX12_80 : FlkF RX12 80 12 35 := ⟨_, _, _, cls12, by decide, tGc7 214 rfl rfl, by decide +kernel, by decide +kernel⟩
theorem fgX12_83 : FlkG RX12 83 12 36 := ⟨_, _, _, cls12, by decide, tGc7 215 rfl rfl⟩
theorem fwX12_83 : FlkF RX12 83 12 36 := ⟨_, _, _, cls12, by decide, tGc7 215 rfl rfl, by decide +kernel, by decide +kernel⟩
theorem fgX12_86 : FlkG RX12 86 12 37 := ⟨_, _, _, cls12, by decide, tGc7 216 rfl rfl⟩
theorem fwX12_86 : FlkF RX12 86 12 37 := ⟨_, _, _, cls12, by decide, tGc7 216 rfl rfl, by decide +kernel, by decide +kernel⟩
theorem fgX12_89 : FlkG RX12 89 12 38 := ⟨_, _, _, cls12, by decide, tGc7 217 rfl rfl⟩
theorem fwX12_89 : FlkF RX12 89 12 38 := ⟨_, _, _, cls12, by decide, tGc7 217 rfl rfl, by decide +kernel, by decide +kernel⟩
theorem fgX12_92 : FlkG RX12 92 12 39 := ⟨_, _, _, cls12, by decide, tGc7 218 rfl rfl⟩
theorem fwX12_92 : FlkF RX12 92 12 39 := ⟨_, _, _, cls12, by decide, tGc7 218 rfl rfl, by decide +kernel, by decide +kernel⟩
theorem fgX12_95 : FlkG RX12 95 12 40 := ⟨_, _, _, cls12, by decide, tGc7 219 rfl rfl⟩
theorem fwX12_95 : FlkF RX12 95 12 40 := ⟨_, _, _, cls12, by decide, tGc7 219 rfl rfl, by decide +kernel, by decide +kernel⟩
theorem fgX12_98 : FlkG RX12 98 12 41 := ⟨_, _, _, cls12, by decide, tGc7 220 rfl rfl⟩
theorem fwX12_98 : FlkF RX12 98 12 41 := ⟨_, _, _, cls12, by decide, tGc7 220 rfl rfl, by decide +kernel, by decide +kernel⟩
theorem fgX12_101 : FlkG RX12 101 12 43 := ⟨_, _, _, cls12, by decide, tGc7 222 rfl rfl⟩
theorem fwX12_101 : FlkF RX12 101 12 43 := ⟨_, _, _, cls12, by decide, tGc7 222 rfl rfl, by decide +kernel, by decide +kernel⟩
theorem fgX12_104 : FlkG RX12 104 12 44 := ⟨_, _, _, cls12, by decide, tGc7 223 rfl rfl⟩
theorem fwX12_104 : FlkF RX12 104 12 44 := ⟨_, _, _, cls12, by decide, tGc7 223 rfl rfl, by decide +kernel, by decide +kernel⟩
theorem fgX12_107 : FlkG RX12 107 12 45 := ⟨_, _, _, cls12, by decide, tGc7 224 rfl rfl⟩
theorem fwX12_107 : FlkF RX12 107 12 45 := ⟨_, _, _, cls12, by decide, tGc7 224 rfl rfl, by decide +kernel, by decide +kernel⟩
theorem fgX12_110 : FlkG RX12 110 12 46 := ⟨_, _, _, cls12, by decide, tGc7 225 rfl rfl⟩
theorem fwX12_110 : FlkF RX12 110 12 46 := ⟨_, _, _, cls12, by decide, tGc7 225 rfl rfl, by decide +kernel, by decide +kernel⟩
theorem fgX12_113 : FlkG RX12 113 12 47 := ⟨_, _, _, cls12, by decide, tGc7 226 rfl rfl⟩
theorem fwX12_113 : FlkF RX12 113 12 47 := ⟨_, _, _, cls12, by decide, tGc7 226 rfl rfl, by decide +kernel, by decide +kernel⟩
theorem fgX12_116 : FlkG RX12 116 12 48 := ⟨_, _, _, cls12, by decide, tGc7 227 rfl rfl⟩
theorem fwX12_116 : FlkF RX12 116 12 48 := ⟨_, _, _, cls12, by decide, tGc7 227 rfl rfl, by decide +kernel, by decide +kernel⟩
theorem fgX12_119 : FlkG RX12 119 12 49 := ⟨_, _, _, cls12, by decide, tGc7 228 rfl rfl⟩
theorem fwX12_119 : FlkF RX12 119 12 49 := ⟨_, _, _, cls12, by decide, tGc7 228 rfl rfl, by decide +kernel, by decide +kernel⟩
theorem fgX12_122 : FlkG RX12 122 12 50 := ⟨_, _, _, cls12, by decide, tGc7 229 rfl rfl⟩
theorem fwX12_122 : FlkF RX12 122 12 50 := ⟨_, _, _, cls12, by decide, tGc7 229 rfl rfl, by decide +kernel, by decide +kernel⟩
theorem fgX12_125 : FlkG RX12 125 12 51 := ⟨_, _, _, cls12, by decide, tGc7 230 rfl rfl⟩
theorem fwX12_125 : FlkF RX12 125 12 51 := ⟨_, _, _, cls12, by decide, tGc7 230 rfl rfl, by decide +kernel, by decide +kernel⟩
theorem fgX12_128 : FlkG RX12 128 12 52 := ⟨_, _, _, cls12, by decide, tGc7 231 rfl rfl⟩
theorem fwX12_128 : FlkF RX12 128 12 52 := ⟨_, _, _, cls12, by decide, tGc7 231 rfl rfl, by decide +kernel, by decide +kernel⟩
theorem fgX12_131 : FlkG RX12 131 12 53 := ⟨_, _, _, cls12, by decide, tGc7 232 rfl rfl⟩
theorem fwX12_131 : FlkF RX12 131 12 53 := ⟨_, _, _, cls12, by decide, tGc7 232 rfl rfl, by decide +kernel, by decide +kernel⟩
theorem fgX12_134 : FlkG RX12 134 12 55 := ⟨_, _, _, cls12, by decide, tGc7 234 rfl rfl⟩
theorem fwX12_134 : FlkF RX12 134 12 55 := ⟨_, _, _, cls12, by decide, tGc7 234 rfl rfl, by decide +kernel, by decide +kernel⟩
theorem fgX12_137 : FlkG RX12 137 12 56 := ⟨_, _, _, cls12, by decide, tGc7 235 rfl rfl⟩
theorem fwX12_137 : FlkF RX12 137 12 56 := ⟨_, _, _, cls12, by decide, tGc7 235 rfl rfl, by decide +kernel, by decide +kernel⟩
theorem fgX12_140 : FlkG RX12 140 12 71 := ⟨_, _, _, cls12, by decide, tGc8 10 rfl rfl⟩
theorem fwX12_140 : Flk RX12 140 12 71 := ⟨_, _, _, cls12, by decide, tGc8 10 rfl rfl, by decide +kernel⟩
theorem fgX12_144 : FlkG RX12 144 12 75 := ⟨_, _, _, cls12, by decide, tGc8 14 rfl rfl⟩
theorem fwX12_144 : FlkF RX12 144 12 75 := ⟨_, _, _, cls12, by decide, tGc8 14 rfl rfl, by decide +kernel, by decide +kernel⟩
theorem fgX12_147 : FlkG RX12 147 12 76 := ⟨_, _, _, cls12, by decide, tGc8 15 rfl rfl⟩
theorem fwX12_147 : FlkF RX12 147 12 76 := ⟨_, _, _, cls12, by decide, tGc8 15 rfl rfl, by decide +kernel, by decide +kernel⟩
theorem fgX12_150 : FlkG RX12 150 12 77 := ⟨_, _, _, cls12, by decide, tGc8 16 rfl rfl⟩
theorem fwX12_150 : FlkF RX12 150 12 77 := ⟨_, _, _, cls12, by decide, tGc8 16 rfl rfl, by decide +kernel, by decide +kernel⟩
theorem fgX12_153 : FlkG RX12 153 12 78 := ⟨_, _, _, cls12, by decide, tGc8 17 rfl rfl⟩
theorem fwX12_153 : FlkF RX12 153 12 78 := ⟨_, _, _, cls12, by decide, tGc8 17 rfl rfl, by decide +kernel, by decide +kernel⟩
theorem fgX12_156 : FlkG RX12 156 12 79 := ⟨_, _, _, cls12, by decide, tGc8 18 rfl rfl⟩
theorem fwX12_156 : FlkF RX12 156 12 79 := ⟨_, _, _, cls12, by decide, tGc8 18 rfl rfl, by decide +kernel, by decide +kernel⟩
theorem fgX12_160 : FlkG RX12 160 12 80 := ⟨_, _, _, cls12, by decide, tGc8 19 rfl rfl⟩
theorem fwX12_160 : FlkF RX12 160 12 80 := ⟨_, _, _, cls12, by decide, tGc8 19 rfl rfl, by decide +kernel, by decide +kernel⟩
theorem fgX12_163 : FlkG RX12 163 12 81 := ⟨_, _, _, cls12, by decide, tGc8 20 rfl rfl⟩
theorem fwX12_163 : FlkF RX12 163 12 81 := ⟨_, _, _, cls12, by decide, tGc8 20 rfl rfl, by decide +kernel, by decide +kernel⟩
theorem fgX12_166 : FlkG RX12 166 12 82 := ⟨_, _, _, cls12, by decide, tGc8 21 rfl rfl⟩
theorem fwX12_166 : FlkF RX12 166 12 82 := ⟨_, _, _, cls12, by decide, tGc8 21 rfl rfl, by decide +kernel, by decide +kernel⟩
theorem fgX12_169 : FlkG RX12 169 12 84 := ⟨_, _, _, cls12, by decide, tGc8 23 rfl rfl⟩
theorem fwX12_169 : FlkF RX12 169 12 84 := ⟨_, _, _, cls12, by decide, tGc8 23 rfl rfl, by decide +kernel, by decide +kernel⟩
theorem clX12_172 : Jvm.Cond.constantLong "GlassHouseModel" 172 (9221120237041090560) ∈ tGd := tGc7 175 rfl rfl
theorem fgX12_174 : FlkG RX12 174 12 86 := ⟨_, _, _, cls12, by decide, tGc8 25 rfl rfl⟩
theorem fwX12_174 : FlkF RX12 174 12 86 := ⟨_, _, _, cls12, by decide, tGc8 25 rfl rfl, by decide +kernel, by decide +kernel⟩
theorem fgX12_177 : FlkG RX12 177 12 87 := ⟨_, _, _, cls12, by decide, tGc8 26 rfl rfl⟩
theorem fwX12_177 : FlkF RX12 177 12 87 := ⟨_, _, _, cls12, by decide, tGc8 26 rfl rfl, by decide +kernel, by decide +kernel⟩
theorem fgX12_180 : FlkG RX12 180 12 88 := ⟨_, _, _, cls12, by decide, tGc8 27 rfl rfl⟩
theorem fwX12_180 : FlkF RX12 180 12 88 := ⟨_, _, _, cls12, by decide, tGc8 27 rfl rfl, by decide +kernel, by decide +kernel⟩
theorem fgX12_183 : FlkG RX12 183 12 89 := ⟨_, _, _, cls12, by decide, tGc8 28 rfl rfl⟩
theorem fwX12_183 : FlkF RX12 183 12 89 := ⟨_, _, _, cls12, by decide, tGc8 28 rfl rfl, by decide +kernel, by decide +kernel⟩
theorem fgX12_186 : FlkG RX12 186 12 90 := ⟨_, _, _, cls12, by decide, tGc8 29 rfl rfl⟩
theorem fwX12_186 : FlkF RX12 186 12 90 := ⟨_, _, _, cls12, by decide, tGc8 29 rfl rfl, by decide +kernel, by decide +kernel⟩
theorem fgX12_189 : FlkG RX12 189 12 91 := ⟨_, _, _, cls12, by decide, tGc8 30 rfl rfl⟩
theorem fwX12_189 : FlkF RX12 189 12 91 := ⟨_, _, _, cls12, by decide, tGc8 30 rfl rfl, by decide +kernel, by decide +kernel⟩
theorem fgX12_192 : FlkG RX12 192 12 92 := ⟨_, _, _, cls12, by decide, tGc8 31 rfl rfl⟩
theorem fwX12_192 : FlkF RX12 192 12 92 := ⟨_, _, _, cls12, by decide, tGc8 31 rfl rfl, by decide +kernel, by decide +kernel⟩
theorem fgX12_195 : FlkG RX12 195 12 93 := ⟨_, _, _, cls12, by decide, tGc8 32 rfl rfl⟩
theorem fwX12_195 : FlkF RX12 195 12 93 := ⟨_, _, _, cls12, by decide, tGc8 32 rfl rfl, by decide +kernel, by decide +kernel⟩
theorem cdX12_198 : Jvm.Cond.constantDouble "GlassHouseModel" 198 (4611686018427387904) ∈ tGd := tGc7 176 rfl rfl
theorem fgX12_200 : FlkG RX12 200 12 94 := ⟨_, _, _, cls12, by decide, tGc8 33 rfl rfl⟩
theorem fwX12_200 : Flk RX12 200 12 94 := ⟨_, _, _, cls12, by decide, tGc8 33 rfl rfl, by decide +kernel⟩
theorem fgX12_204 : FlkG RX12 204 12 95 := ⟨_, _, _, cls12, by decide, tGc8 34 rfl rfl⟩
theorem fwX12_204 : FlkF RX12 204 12 95 := ⟨_, _, _, cls12, by decide, tGc8 34 rfl rfl, by decide +kernel, by decide +kernel⟩
theorem fgX12_207 : FlkG RX12 207 12 96 := ⟨_, _, _, cls12, by decide, tGc8 35 rfl rfl⟩
theorem fwX12_207 : FlkF RX12 207 12 96 := ⟨_, _, _, cls12, by decide, tGc8 35 rfl rfl, by decide +kernel, by decide +kernel⟩
theorem clX12_210 : Jvm.Cond.constantLong "GlassHouseModel" 210 (20000) ∈ tGd := tGc7 177 rfl rfl
theorem fgX12_212 : FlkG RX12 212 12 97 := ⟨_, _, _, cls12, by decide, tGc8 36 rfl rfl⟩
theorem fwX12_212 : FlkF RX12 212 12 97 := ⟨_, _, _, cls12, by decide, tGc8 36 rfl rfl, by decide +kernel, by decide +kernel⟩
theorem clX12_215 : Jvm.Cond.constantLong "GlassHouseModel" 215 (8000) ∈ tGd := tGc7 178 rfl rfl
theorem fgX12_217 : FlkG RX12 217 12 98 := ⟨_, _, _, cls12, by decide, tGc8 37 rfl rfl⟩
theorem fwX12_217 : FlkF RX12 217 12 98 := ⟨_, _, _, cls12, by decide, tGc8 37 rfl rfl, by decide +kernel, by decide +kernel⟩
theorem fgX12_220 : FlkG RX12 220 12 99 := ⟨_, _, _, cls12, by decide, tGc8 38 rfl rfl⟩
theorem fwX12_220 : FlkF RX12 220 12 99 := ⟨_, _, _, cls12, by decide, tGc8 38 rfl rfl, by decide +kernel, by decide +kernel⟩
theorem fgX12_223 : FlkG RX12 223 12 100 := ⟨_, _, _, cls12, by decide, tGc8 39 rfl rfl⟩
theorem fwX12_223 : FlkF RX12 223 12 100 := ⟨_, _, _, cls12, by decide, tGc8 39 rfl rfl, by decide +kernel, by decide +kernel⟩
theorem fgX12_226 : FlkG RX12 226 12 101 := ⟨_, _, _, cls12, by decide, tGc8 40 rfl rfl⟩
theorem fwX12_226 : FlkF RX12 226 12 101 := ⟨_, _, _, cls12, by decide, tGc8 40 rfl rfl, by decide +kernel, by decide +kernel⟩
theorem fgX12_229 : FlkG RX12 229 12 102 := ⟨_, _, _, cls12, by decide, tGc8 41 rfl rfl⟩
theorem fwX12_229 : FlkF RX12 229 12 102 := ⟨_, _, _, cls12, by decide, tGc8 41 rfl rfl, by decide +kernel, by decide +kernel⟩
theorem fgX12_232 : FlkG RX12 232 12 103 := ⟨_, _, _, cls12, by decide, tGc8 42 rfl rfl⟩
theorem fwX12_232 : FlkF RX12 232 12 103 := ⟨_, _, _, cls12, by decide, tGc8 42 rfl rfl, by decide +kernel, by decide +kernel⟩
theorem fgX12_235 : FlkG RX12 235 12 104 := ⟨_, _, _, cls12, by decide, tGc8 43 rfl rfl⟩
theorem fwX12_235 : FlkF RX12 235 12 104 := ⟨_, _, _, cls12, by decide, tGc8 43 rfl rfl, by decide +kernel, by decide +kernel⟩
theorem fgX12_238 : FlkG RX12 238 12 105 := ⟨_, _, _, cls12, by decide, tGc8 44 rfl rfl⟩
theorem fwX12_238 : FlkF RX12 238 12 105 := ⟨_, _, _, cls12, by decide, tGc8 44 rfl rfl, by decide +kernel, by decide +kernel⟩
theorem fgX12_241 : FlkG RX12 241 12 106 := ⟨_, _, _, cls12, by decide, tGc8 45 rfl rfl⟩
theorem fwX12_241 : FlkF RX12 241 12 106 := ⟨_, _, _, cls12, by decide, tGc8 45 rfl rfl, by decide +kernel, by decide +kernel⟩
theorem fgX12_244 : FlkG RX12 244 12 107 := ⟨_, _, _, cls12, by decide, tGc8 46 rfl rfl⟩
theorem fwX12_244 : FlkF RX12 244 12 107 := ⟨_, _, _, cls12, by decide, tGc8 46 rfl rfl, by decide +kernel, by decide +kernel⟩
theorem fgX12_247 : FlkG RX12 247 12 108 := ⟨_, _, _, cls12, by decide, tGc8 47 rfl rfl⟩
theorem fwX12_247 : FlkF RX12 247 12 108 := ⟨_, _, _, cls12, by decide, tGc8 47 rfl rfl, by decide +kernel, by decide +kernel⟩
theorem fgX12_250 : FlkG RX12 250 12 109 := ⟨_, _, _, cls12, by decide, tGc8 48 rfl rfl⟩
theorem fwX12_250 : FlkF RX12 250 12 109 := ⟨_, _, _, cls12, by decide, tGc8 48 rfl rfl, by decide +kernel, by decide +kernel⟩
theorem fgX12_254 : FlkG RX12 254 12 110 := ⟨_, _, _, cls12, by decide, tGc8 49 rfl rfl⟩
theorem fwX12_254 : FlkF RX12 254 12 110 := ⟨_, _, _, cls12, by decide, tGc8 49 rfl rfl, by decide +kernel, by decide +kernel⟩
theorem fgX12_257 : FlkG RX12 257 12 111 := ⟨_, _, _, cls12, by decide, tGc8 50 rfl rfl⟩
theorem fwX12_257 : FlkF RX12 257 12 111 := ⟨_, _, _, cls12, by decide, tGc8 50 rfl rfl, by decide +kernel, by decide +kernel⟩
theorem fgX12_260 : FlkG RX12 260 12 112 := ⟨_, _, _, cls12, by decide, tGc8 51 rfl rfl⟩
theorem fwX12_260 : FlkF RX12 260 12 112 := ⟨_, _, _, cls12, by decide, tGc8 51 rfl rfl, by decide +kernel, by decide +kernel⟩
theorem fgX12_263 : FlkG RX12 263 12 113 := ⟨_, _, _, cls12, by decide, tGc8 52 rfl rfl⟩
theorem fwX12_263 : FlkF RX12 263 12 113 := ⟨_, _, _, cls12, by decide, tGc8 52 rfl rfl, by decide +kernel, by decide +kernel⟩
theorem fgX12_266 : FlkG RX12 266 12 117 := ⟨_, _, _, cls12, by decide, tGc8 56 rfl rfl⟩
theorem fwX12_266 : FlkF RX12 266 12 117 := ⟨_, _, _, cls12, by decide, tGc8 56 rfl rfl, by decide +kernel, by decide +kernel⟩
theorem fgX12_269 : FlkG RX12 269 12 118 := ⟨_, _, _, cls12, by decide, tGc8 57 rfl rfl⟩
theorem fwX12_269 : FlkF RX12 269 12 118 := ⟨_, _, _, cls12, by decide, tGc8 57 rfl rfl, by decide +kernel, by decide +kernel⟩
theorem fgX12_272 : FlkG RX12 272 12 119 := ⟨_, _, _, cls12, by decide, tGc8 58 rfl rfl⟩
theorem fwX12_272 : FlkF RX12 272 12 119 := ⟨_, _, _, cls12, by decide, tGc8 58 rfl rfl, by decide +kernel, by decide +kernel⟩
theorem fgX12_275 : FlkG RX12 275 12 120 := ⟨_, _, _, cls12, by decide, tGc8 59 rfl rfl⟩
theorem fwX12_275 : FlkF RX12 275 12 120 := ⟨_, _, _, cls12, by decide, tGc8 59 rfl rfl, by decide +kernel, by decide +kernel⟩
theorem fgX12_278 : FlkG RX12 278 12 121 := ⟨_, _, _, cls12, by decide, tGc8 60 rfl rfl⟩
theorem fwX12_278 : FlkF RX12 278 12 121 := ⟨_, _, _, cls12, by decide, tGc8 60 rfl rfl, by decide +kernel, by decide +kernel⟩
theorem fgX12_281 : FlkG RX12 281 12 122 := ⟨_, _, _, cls12, by decide, tGc8 61 rfl rfl⟩
theorem fwX12_281 : FlkF RX12 281 12 122 := ⟨_, _, _, cls12, by decide, tGc8 61 rfl rfl, by decide +kernel, by decide +kernel⟩
theorem fgX12_284 : FlkG RX12 284 12 123 := ⟨_, _, _, cls12, by decide, tGc8 62 rfl rfl⟩
theorem fwX12_284 : FlkF RX12 284 12 123 := ⟨_, _, _, cls12, by decide, tGc8 62 rfl rfl, by decide +kernel, by decide +kernel⟩
theorem fgX12_287 : FlkG RX12 287 12 124 := ⟨_, _, _, cls12, by decide, tGc8 63 rfl rfl⟩
theorem fwX12_287 : FlkF RX12 287 12 124 := ⟨_, _, _, cls12, by decide, tGc8 63 rfl rfl, by decide +kernel, by decide +kernel⟩
theorem fgX12_290 : FlkG RX12 290 12 127 := ⟨_, _, _, cls12, by decide, tGc8 66 rfl rfl⟩
theorem fwX12_290 : FlkF RX12 290 12 127 := ⟨_, _, _, cls12, by decide, tGc8 66 rfl rfl, by decide +kernel, by decide +kernel⟩
theorem fgX12_293 : FlkG RX12 293 12 128 := ⟨_, _, _, cls12, by decide, tGc8 67 rfl rfl⟩
theorem fwX12_293 : FlkF RX12 293 12 128 := ⟨_, _, _, cls12, by decide, tGc8 67 rfl rfl, by decide +kernel, by decide +kernel⟩
theorem fgX12_296 : FlkG RX12 296 12 132 := ⟨_, _, _, cls12, by decide, tGc8 71 rfl rfl⟩
theorem fwX12_296 : Flk RX12 296 12 132 := ⟨_, _, _, cls12, by decide, tGc8 71 rfl rfl, by decide +kernel⟩
theorem fgX12_299 : FlkG RX12 299 12 1 := ⟨_, _, _, cls12, by decide, tGc7 180 rfl rfl⟩
theorem fgX12_302 : FlkG RX12 302 12 0 := ⟨_, _, _, cls12, by decide, tGc7 179 rfl rfl⟩
theorem fwX12_299 : Flk RX12 299 12 1 := ⟨_, _, _, cls12, by decide, tGc7 180 rfl rfl, by decide +kernel⟩
theorem fgX12_305 : FlkG RX12 305 12 2 := ⟨_, _, _, cls12, by decide, tGc7 181 rfl rfl⟩
theorem fwX12_305 : Flk RX12 305 12 2 := ⟨_, _, _, cls12, by decide, tGc7 181 rfl rfl, by decide +kernel⟩
theorem mkX12_308 : Cond.methodLink "GlassHouseModel" 308 yX12_no ∈ tGd := tGc9 121 rfl rfl
theorem fwX12_302 : Flk RX12 302 12 0 := ⟨_, _, _, cls12, by decide, tGc7 179 rfl rfl, by decide +kernel⟩
theorem mkX12_312 : Cond.methodLink "GlassHouseModel" 312 yX12_thing ∈ tGd := tGc9 129 rfl rfl
theorem fgX12_316 : FlkG RX12 316 12 7 := ⟨_, _, _, cls12, by decide, tGc7 186 rfl rfl⟩
theorem fwX12_316 : Flk RX12 316 12 7 := ⟨_, _, _, cls12, by decide, tGc7 186 rfl rfl, by decide +kernel⟩
theorem fgX12_319 : FlkG RX12 319 12 9 := ⟨_, _, _, cls12, by decide, tGc7 188 rfl rfl⟩
theorem fwX12_319 : Flk RX12 319 12 9 := ⟨_, _, _, cls12, by decide, tGc7 188 rfl rfl, by decide +kernel⟩
theorem mkX12_322 : Cond.methodLink "GlassHouseModel" 322 yX12_in ∈ tGd := tGc9 114 rfl rfl
theorem mkX12_329 : Cond.methodLink "GlassHouseModel" 329 yX12_isTrayFor ∈ tGd := tGc9 168 rfl rfl
theorem mkX12_326 : Cond.methodLink "GlassHouseModel" 326 yX12_laneOf ∈ tGd := tGc9 141 rfl rfl
theorem clX12_341 : Jvm.Cond.constantLong "GlassHouseModel" 341 (9223372036854775807) ∈ tGd := tGc9 202 rfl rfl
theorem clX12_343 : Jvm.Cond.constantLong "GlassHouseModel" 343 (9218868437227405312) ∈ tGd := tGc9 203 rfl rfl
theorem clX12_335 : Jvm.Cond.constantLong "GlassHouseModel" 335 (2147483647) ∈ tGd := tGc9 199 rfl rfl
theorem clX12_337 : Jvm.Cond.constantLong "GlassHouseModel" 337 (2139095040) ∈ tGd := tGc9 200 rfl rfl
theorem clX12_339 : Jvm.Cond.constantLong "GlassHouseModel" 339 (2143289344) ∈ tGd := tGc9 201 rfl rfl
theorem clX12_333 : Jvm.Cond.constantLong "GlassHouseModel" 333 (65535) ∈ tGd := tGc9 198 rfl rfl
theorem mkX12_345 : Cond.methodLink "GlassHouseModel" 345 yX12_isBin ∈ tGd := tGc9 111 rfl rfl
theorem mkX12_349 : Cond.methodLink "GlassHouseModel" 349 yX12_isFull ∈ tGd := tGc9 117 rfl rfl
theorem mkX12_353 : Cond.methodLink "GlassHouseModel" 353 yX12_newRow ∈ tGd := tGc9 125 rfl rfl
theorem mkX12_356 : Cond.methodLink "GlassHouseModel" 356 yX12_newPlaces ∈ tGd := tGc9 137 rfl rfl
theorem mkX12_359 : Cond.methodLink "GlassHouseModel" 359 yX12_hollow ∈ tGd := tGc9 148 rfl rfl
theorem mkX12_363 : Cond.methodLink "GlassHouseModel" 363 yX12_isOf ∈ tGd := tGc9 179 rfl rfl
theorem mkX12_366 : Cond.methodLink "GlassHouseModel" 366 yX12_looked ∈ tGd := tGc9 183 rfl rfl
theorem mkX12_369 : Cond.methodLink "GlassHouseModel" 369 yX12_against ∈ tGd := tGc9 175 rfl rfl
theorem mkX12_373 : Cond.methodLink "GlassHouseModel" 373 yX12_noBits ∈ tGd := tGc9 187 rfl rfl
theorem mkX12_377 : Cond.methodLink "GlassHouseModel" 377 yX12_fitted ∈ tGd := tGc9 195 rfl rfl
theorem fgX12_381 : FlkG RX12 381 12 20 := ⟨_, _, _, cls12, by decide, tGc7 199 rfl rfl⟩
theorem fwX12_381 : Flk RX12 381 12 20 := ⟨_, _, _, cls12, by decide, tGc7 199 rfl rfl, by decide +kernel⟩
theorem mkX12_384 : Cond.methodLink "GlassHouseModel" 384 yX12_againstBed ∈ tGd := tGc9 208 rfl rfl
theorem mkX12_387 : Cond.methodLink "GlassHouseModel" 387 yX12_hasPlaces ∈ tGd := tGc9 228 rfl rfl
theorem mkX12_390 : Cond.methodLink "GlassHouseModel" 390 yX12_againstPlace ∈ tGd := tGc9 224 rfl rfl
theorem mkX12_393 : Cond.methodLink "GlassHouseModel" 393 yX12_isFor ∈ tGd := tGc9 232 rfl rfl
theorem mkX12_396 : Cond.methodLink "GlassHouseModel" 396 yX12_isRow ∈ tGd := tGc10 12 rfl rfl
theorem fgX12_399 : FlkG RX12 399 12 22 := ⟨_, _, _, cls12, by decide, tGc7 201 rfl rfl⟩
theorem fwX12_399 : Flk RX12 399 12 22 := ⟨_, _, _, cls12, by decide, tGc7 201 rfl rfl, by decide +kernel⟩
theorem mkX12_402 : Cond.methodLink "GlassHouseModel" 402 yX12_againstShift ∈ tGd := tGc10 8 rfl rfl
theorem mkX12_406 : Cond.methodLink "GlassHouseModel" 406 yX12_rowCopy ∈ tGd := tGc10 24 rfl rfl
theorem mkX12_409 : Cond.methodLink "GlassHouseModel" 409 yX12_gridCopy ∈ tGd := tGc10 40 rfl rfl
theorem fgX12_469 : FlkG RX12 469 12 19 := ⟨_, _, _, cls12, by decide, tGc7 198 rfl rfl⟩
theorem fwX12_469 : Flk RX12 469 12 19 := ⟨_, _, _, cls12, by decide, tGc7 198 rfl rfl, by decide +kernel⟩
theorem mkX12_412 : Cond.methodLink "GlassHouseModel" 412 yX12_newCard ∈ tGd := tGc10 32 rfl rfl
theorem mkX12_419 : Cond.methodLink "GlassHouseModel" 419 yX12_placesCopy ∈ tGd := tGc10 36 rfl rfl
theorem mkX12_416 : Cond.methodLink "GlassHouseModel" 416 yX12_cardCopy ∈ tGd := tGc10 28 rfl rfl
theorem mkX12_423 : Cond.methodLink "GlassHouseModel" 423 yX12_areRowsAlike ∈ tGd := tGc10 48 rfl rfl
theorem mkX12_426 : Cond.methodLink "GlassHouseModel" 426 yX12_areGridsAlike ∈ tGd := tGc10 60 rfl rfl
theorem mkX12_432 : Cond.methodLink "GlassHouseModel" 432 yX12_arePlacesAlike ∈ tGd := tGc10 56 rfl rfl
theorem mkX12_429 : Cond.methodLink "GlassHouseModel" 429 yX12_areCardsAlike ∈ tGd := tGc10 52 rfl rfl
theorem fgX12_435 : FlkG RX12 435 12 18 := ⟨_, _, _, cls12, by decide, tGc7 197 rfl rfl⟩
theorem fwX12_435 : Flk RX12 435 12 18 := ⟨_, _, _, cls12, by decide, tGc7 197 rfl rfl, by decide +kernel⟩
theorem fgX12_438 : FlkG RX12 438 12 24 := ⟨_, _, _, cls12, by decide, tGc7 203 rfl rfl⟩
theorem fwX12_438 : Flk RX12 438 12 24 := ⟨_, _, _, cls12, by decide, tGc7 203 rfl rfl, by decide +kernel⟩
theorem mkX12_441 : Cond.methodLink "GlassHouseModel" 441 yX12_body ∈ tGd := tGc10 88 rfl rfl
theorem fgX12_445 : FlkG RX12 445 12 30 := ⟨_, _, _, cls12, by decide, tGc7 209 rfl rfl⟩
theorem fwX12_445 : Flk RX12 445 12 30 := ⟨_, _, _, cls12, by decide, tGc7 209 rfl rfl, by decide +kernel⟩
theorem mkX12_448 : Cond.methodLink "GlassHouseModel" 448 yX12_plainSize ∈ tGd := tGc10 84 rfl rfl
theorem mkX12_451 : Cond.methodLink "GlassHouseModel" 451 yX12_sizeOf ∈ tGd := tGc10 80 rfl rfl
theorem mkX12_454 : Cond.methodLink "GlassHouseModel" 454 yX12_thirstOf ∈ tGd := tGc10 92 rfl rfl
theorem fgX12_457 : FlkG RX12 457 12 29 := ⟨_, _, _, cls12, by decide, tGc7 208 rfl rfl⟩
theorem fwX12_457 : Flk RX12 457 12 29 := ⟨_, _, _, cls12, by decide, tGc7 208 rfl rfl, by decide +kernel⟩
theorem mkX12_460 : Cond.methodLink "GlassHouseModel" 460 yX12_costOf ∈ tGd := tGc10 96 rfl rfl
theorem mkX12_463 : Cond.methodLink "GlassHouseModel" 463 yX12_askOf ∈ tGd := tGc10 76 rfl rfl
theorem fgX12_466 : FlkG RX12 466 12 25 := ⟨_, _, _, cls12, by decide, tGc7 204 rfl rfl⟩
theorem fwX12_466 : Flk RX12 466 12 25 := ⟨_, _, _, cls12, by decide, tGc7 204 rfl rfl, by decide +kernel⟩
theorem mkX12_472 : Cond.methodLink "GlassHouseModel" 472 yX12_againstCard ∈ tGd := tGc10 116 rfl rfl
theorem fgX12_475 : FlkG RX12 475 12 32 := ⟨_, _, _, cls12, by decide, tGc7 211 rfl rfl⟩
theorem fwX12_475 : Flk RX12 475 12 32 := ⟨_, _, _, cls12, by decide, tGc7 211 rfl rfl, by decide +kernel⟩
theorem mkX12_478 : Cond.methodLink "GlassHouseModel" 478 yX12_hasBody ∈ tGd := tGc10 152 rfl rfl
theorem mkX12_481 : Cond.methodLink "GlassHouseModel" 481 yX12_wrong ∈ tGd := tGc10 148 rfl rfl
theorem fgX12_484 : FlkG RX12 484 12 54 := ⟨_, _, _, cls12, by decide, tGc7 233 rfl rfl⟩
theorem fwX12_484 : Flk RX12 484 12 54 := ⟨_, _, _, cls12, by decide, tGc7 233 rfl rfl, by decide +kernel⟩
theorem mkX12_487 : Cond.methodLink "GlassHouseModel" 487 yX12_note ∈ tGd := tGc10 175 rfl rfl
theorem fgX12_491 : FlkG RX12 491 12 59 := ⟨_, _, _, cls12, by decide, tGc7 238 rfl rfl⟩
theorem fwX12_491 : Flk RX12 491 12 59 := ⟨_, _, _, cls12, by decide, tGc7 238 rfl rfl, by decide +kernel⟩
theorem fgX12_494 : FlkG RX12 494 12 60 := ⟨_, _, _, cls12, by decide, tGc7 239 rfl rfl⟩
theorem fwX12_494 : Flk RX12 494 12 60 := ⟨_, _, _, cls12, by decide, tGc7 239 rfl rfl, by decide +kernel⟩
theorem fgX12_497 : FlkG RX12 497 12 61 := ⟨_, _, _, cls12, by decide, tGc8 0 rfl rfl⟩
theorem fwX12_497 : Flk RX12 497 12 61 := ⟨_, _, _, cls12, by decide, tGc8 0 rfl rfl, by decide +kernel⟩
theorem fgX12_500 : FlkG RX12 500 12 58 := ⟨_, _, _, cls12, by decide, tGc7 237 rfl rfl⟩
theorem fgX12_503 : FlkG RX12 503 12 62 := ⟨_, _, _, cls12, by decide, tGc8 1 rfl rfl⟩
theorem fwX12_503 : Flk RX12 503 12 62 := ⟨_, _, _, cls12, by decide, tGc8 1 rfl rfl, by decide +kernel⟩
theorem fgX12_506 : FlkG RX12 506 12 63 := ⟨_, _, _, cls12, by decide, tGc8 2 rfl rfl⟩
theorem fwX12_506 : Flk RX12 506 12 63 := ⟨_, _, _, cls12, by decide, tGc8 2 rfl rfl, by decide +kernel⟩
theorem fgX12_509 : FlkG RX12 509 12 70 := ⟨_, _, _, cls12, by decide, tGc8 9 rfl rfl⟩
theorem fwX12_509 : Flk RX12 509 12 70 := ⟨_, _, _, cls12, by decide, tGc8 9 rfl rfl, by decide +kernel⟩
theorem fgX12_512 : FlkG RX12 512 12 42 := ⟨_, _, _, cls12, by decide, tGc7 221 rfl rfl⟩
theorem fgX12_515 : FlkG RX12 515 12 57 := ⟨_, _, _, cls12, by decide, tGc7 236 rfl rfl⟩
theorem fwX12_512 : Flk RX12 512 12 42 := ⟨_, _, _, cls12, by decide, tGc7 221 rfl rfl, by decide +kernel⟩
theorem mkX12_518 : Cond.methodLink "GlassHouseModel" 518 yX12_a ∈ tGd := tGc10 219 rfl rfl
theorem mkX12_531 : Cond.methodLink "GlassHouseModel" 531 yX12_push ∈ tGd := tGc10 159 rfl rfl
theorem fwX12_500 : Flk RX12 500 12 58 := ⟨_, _, _, cls12, by decide, tGc7 237 rfl rfl, by decide +kernel⟩
theorem mkX12_525 : Cond.methodLink "GlassHouseModel" 525 yX12_b ∈ tGd := tGc10 227 rfl rfl
theorem mkX12_537 : Cond.methodLink "GlassHouseModel" 537 yX12_changeStock ∈ tGd := tGc10 171 rfl rfl
theorem fgX12_534 : FlkG RX12 534 12 69 := ⟨_, _, _, cls12, by decide, tGc8 8 rfl rfl⟩
theorem fwX12_534 : Flk RX12 534 12 69 := ⟨_, _, _, cls12, by decide, tGc8 8 rfl rfl, by decide +kernel⟩
theorem mkX12_528 : Cond.methodLink "GlassHouseModel" 528 yX12_endOf ∈ tGd := tGc10 195 rfl rfl
theorem mkX12_521 : Cond.methodLink "GlassHouseModel" 521 yX12_fails ∈ tGd := tGc10 223 rfl rfl
theorem mkX12_540 : Cond.methodLink "GlassHouseModel" 540 yX12_c ∈ tGd := tGc10 235 rfl rfl
theorem mkX12_543 : Cond.methodLink "GlassHouseModel" 543 yX12_setCell ∈ tGd := tGc11 7 rfl rfl
theorem fgX12_546 : FlkG RX12 546 12 65 := ⟨_, _, _, cls12, by decide, tGc8 4 rfl rfl⟩
theorem fwX12_546 : Flk RX12 546 12 65 := ⟨_, _, _, cls12, by decide, tGc8 4 rfl rfl, by decide +kernel⟩
theorem fgX12_567 : FlkG RX12 567 12 66 := ⟨_, _, _, cls12, by decide, tGc8 5 rfl rfl⟩
theorem fwX12_567 : Flk RX12 567 12 66 := ⟨_, _, _, cls12, by decide, tGc8 5 rfl rfl, by decide +kernel⟩
theorem fwX12_515 : Flk RX12 515 12 57 := ⟨_, _, _, cls12, by decide, tGc7 236 rfl rfl, by decide +kernel⟩
theorem mkX12_549 : Cond.methodLink "GlassHouseModel" 549 yX12_isStep ∈ tGd := tGc10 187 rfl rfl
theorem mkX12_555 : Cond.methodLink "GlassHouseModel" 555 yX12_areNumbers ∈ tGd := tGc10 231 rfl rfl
theorem mkX12_564 : Cond.methodLink "GlassHouseModel" 564 yX12_plain ∈ tGd := tGc11 3 rfl rfl
theorem mkX12_561 : Cond.methodLink "GlassHouseModel" 561 yX12_call ∈ tGd := tGc10 239 rfl rfl
theorem fgX12_558 : FlkG RX12 558 12 64 := ⟨_, _, _, cls12, by decide, tGc8 3 rfl rfl⟩
theorem fwX12_558 : Flk RX12 558 12 64 := ⟨_, _, _, cls12, by decide, tGc8 3 rfl rfl, by decide +kernel⟩
theorem mkX12_552 : Cond.methodLink "GlassHouseModel" 552 yX12_enter ∈ tGd := tGc10 215 rfl rfl
theorem fgX12_570 : FlkG RX12 570 12 68 := ⟨_, _, _, cls12, by decide, tGc8 7 rfl rfl⟩
theorem fwX12_570 : Flk RX12 570 12 68 := ⟨_, _, _, cls12, by decide, tGc8 7 rfl rfl, by decide +kernel⟩
theorem mkX12_573 : Cond.methodLink "GlassHouseModel" 573 yX12_giveBack ∈ tGd := tGc10 167 rfl rfl
theorem mkX12_576 : Cond.methodLink "GlassHouseModel" 576 yX12_behind ∈ tGd := tGc10 203 rfl rfl
theorem fgX12_579 : FlkG RX12 579 12 67 := ⟨_, _, _, cls12, by decide, tGc8 6 rfl rfl⟩
theorem fwX12_579 : Flk RX12 579 12 67 := ⟨_, _, _, cls12, by decide, tGc8 6 rfl rfl, by decide +kernel⟩
theorem mkX12_582 : Cond.methodLink "GlassHouseModel" 582 yX12_undoTo ∈ tGd := tGc10 179 rfl rfl
theorem mkX12_591 : Cond.methodLink "GlassHouseModel" 591 yX12_leave ∈ tGd := tGc10 199 rfl rfl
theorem mkX12_588 : Cond.methodLink "GlassHouseModel" 588 yX12_isMet ∈ tGd := tGc10 191 rfl rfl
theorem mkX12_585 : Cond.methodLink "GlassHouseModel" 585 yX12_again ∈ tGd := tGc10 183 rfl rfl
theorem fgX12_603 : FlkG RX12 603 12 72 := ⟨_, _, _, cls12, by decide, tGc8 11 rfl rfl⟩
theorem fwX12_603 : Flk RX12 603 12 72 := ⟨_, _, _, cls12, by decide, tGc8 11 rfl rfl, by decide +kernel⟩
theorem fgX12_606 : FlkG RX12 606 12 73 := ⟨_, _, _, cls12, by decide, tGc8 12 rfl rfl⟩
theorem fwX12_606 : Flk RX12 606 12 73 := ⟨_, _, _, cls12, by decide, tGc8 12 rfl rfl, by decide +kernel⟩
theorem fgX12_609 : FlkG RX12 609 12 74 := ⟨_, _, _, cls12, by decide, tGc8 13 rfl rfl⟩
theorem fwX12_609 : Flk RX12 609 12 74 := ⟨_, _, _, cls12, by decide, tGc8 13 rfl rfl, by decide +kernel⟩
theorem mkX12_600 : Cond.methodLink "GlassHouseModel" 600 yX12_begin ∈ tGd := tGc10 211 rfl rfl
theorem mkX12_597 : Cond.methodLink "GlassHouseModel" 597 yX12_close ∈ tGd := tGc10 207 rfl rfl
theorem mkX12_594 : Cond.methodLink "GlassHouseModel" 594 yX12_unwind ∈ tGd := tGc10 163 rfl rfl
theorem mkX12_612 : Cond.methodLink "GlassHouseModel" 612 yX12_isTable ∈ tGd := tGc11 31 rfl rfl
theorem ciX12_615 : Jvm.Cond.constant "GlassHouseModel" 615 (-1000000) ∈ tGd := tGc11 34 rfl rfl
theorem ciX12_616 : Jvm.Cond.constant "GlassHouseModel" 616 (1000000) ∈ tGd := tGc11 35 rfl rfl
theorem fgX12_617 : FlkG RX12 617 12 83 := ⟨_, _, _, cls12, by decide, tGc8 22 rfl rfl⟩
theorem fwX12_617 : Flk RX12 617 12 83 := ⟨_, _, _, cls12, by decide, tGc8 22 rfl rfl, by decide +kernel⟩
theorem mkX12_620 : Cond.methodLink "GlassHouseModel" 620 yX12_lay ∈ tGd := tGc11 48 rfl rfl
theorem mkX12_623 : Cond.methodLink "GlassHouseModel" 623 yX12_down ∈ tGd := tGc11 52 rfl rfl
theorem mkX12_627 : Cond.methodLink "GlassHouseModel" 627 yX12_valueOf ∈ tGd := tGc11 44 rfl rfl
theorem cdX12_826 : Jvm.Cond.constantDouble "GlassHouseModel" 826 (4602678819172646912) ∈ tGd := tGc11 79 rfl rfl
theorem mkX12_828 : Cond.methodLink "GlassHouseModel" 828 yX12_powerOf ∈ tGd := tGc11 76 rfl rfl
theorem clX12_840 : Jvm.Cond.constantLong "GlassHouseModel" 840 (2047) ∈ tGd := tGc11 70 rfl rfl
theorem clX12_842 : Jvm.Cond.constantLong "GlassHouseModel" 842 (4503599627370495) ∈ tGd := tGc11 71 rfl rfl
theorem clX12_852 : Jvm.Cond.constantLong "GlassHouseModel" 852 (4503599627370496) ∈ tGd := tGc11 83 rfl rfl
theorem mkX12_848 : Cond.methodLink "GlassHouseModel" 848 yX12_scaled ∈ tGd := tGc11 80 rfl rfl
theorem mkX12_844 : Cond.methodLink "GlassHouseModel" 844 yX12_great ∈ tGd := tGc11 73 rfl rfl
theorem cdX12_838 : Jvm.Cond.constantDouble "GlassHouseModel" 838 (9221120237041090560) ∈ tGd := tGc11 72 rfl rfl
theorem mkX12_630 : Cond.methodLink "GlassHouseModel" 630 yX12_fromBits ∈ tGd := tGc11 67 rfl rfl
theorem clX12_634 : Jvm.Cond.constantLong "GlassHouseModel" 634 (-1) ∈ tGd := tGc11 138 rfl rfl
theorem mkX12_636 : Cond.methodLink "GlassHouseModel" 636 yX12_reads ∈ tGd := tGc11 131 rfl rfl
theorem mkX12_639 : Cond.methodLink "GlassHouseModel" 639 yX12_isBelow ∈ tGd := tGc11 135 rfl rfl
theorem mkX12_646 : Cond.methodLink "GlassHouseModel" 646 yX12_isOff ∈ tGd := tGc11 143 rfl rfl
theorem fgX12_643 : FlkG RX12 643 12 85 := ⟨_, _, _, cls12, by decide, tGc8 24 rfl rfl⟩
theorem mkX12_649 : Cond.methodLink "GlassHouseModel" 649 yX12_find ∈ tGd := tGc11 127 rfl rfl
theorem mkX12_652 : Cond.methodLink "GlassHouseModel" 652 yX12_countIn ∈ tGd := tGc11 139 rfl rfl
theorem ciX12_655 : Jvm.Cond.constant "GlassHouseModel" 655 (-100000) ∈ tGd := tGc11 96 rfl rfl
theorem ciX12_658 : Jvm.Cond.constant "GlassHouseModel" 658 (40000) ∈ tGd := tGc11 99 rfl rfl
theorem ciX12_657 : Jvm.Cond.constant "GlassHouseModel" 657 (60000) ∈ tGd := tGc11 98 rfl rfl
theorem ciX12_656 : Jvm.Cond.constant "GlassHouseModel" 656 (-40000) ∈ tGd := tGc11 97 rfl rfl
theorem ciX12_659 : Jvm.Cond.constant "GlassHouseModel" 659 (-50000) ∈ tGd := tGc11 104 rfl rfl
theorem mkX12_661 : Cond.methodLink "GlassHouseModel" 661 yX12_wishAt ∈ tGd := tGc11 114 rfl rfl
theorem ciX12_660 : Jvm.Cond.constant "GlassHouseModel" 660 (-100001) ∈ tGd := tGc11 113 rfl rfl
theorem mkX12_664 : Cond.methodLink "GlassHouseModel" 664 yX12_toward ∈ tGd := tGc11 151 rfl rfl
theorem cdX12_667 : Jvm.Cond.constantDouble "GlassHouseModel" 667 (4652007308841189376) ∈ tGd := tGc11 154 rfl rfl
theorem clX12_669 : Jvm.Cond.constantLong "GlassHouseModel" 669 (1000000000) ∈ tGd := tGc11 155 rfl rfl
theorem mkX12_671 : Cond.methodLink "GlassHouseModel" 671 yX12_within ∈ tGd := tGc11 156 rfl rfl
theorem clX12_674 : Jvm.Cond.constantLong "GlassHouseModel" 674 (100000) ∈ tGd := tGc11 159 rfl rfl
theorem clX12_676 : Jvm.Cond.constantLong "GlassHouseModel" 676 (16) ∈ tGd := tGc11 160 rfl rfl
theorem clX12_678 : Jvm.Cond.constantLong "GlassHouseModel" 678 (4000) ∈ tGd := tGc11 161 rfl rfl
theorem clX12_680 : Jvm.Cond.constantLong "GlassHouseModel" 680 (400) ∈ tGd := tGc11 162 rfl rfl
theorem clX12_682 : Jvm.Cond.constantLong "GlassHouseModel" 682 (10) ∈ tGd := tGc11 163 rfl rfl
theorem clX12_684 : Jvm.Cond.constantLong "GlassHouseModel" 684 (200) ∈ tGd := tGc11 168 rfl rfl
theorem clX12_686 : Jvm.Cond.constantLong "GlassHouseModel" 686 (80) ∈ tGd := tGc11 169 rfl rfl
theorem clX12_690 : Jvm.Cond.constantLong "GlassHouseModel" 690 (1000) ∈ tGd := tGc11 171 rfl rfl
theorem clX12_688 : Jvm.Cond.constantLong "GlassHouseModel" 688 (9000) ∈ tGd := tGc11 170 rfl rfl
theorem ciX12_692 : Jvm.Cond.constant "GlassHouseModel" 692 (100000) ∈ tGd := tGc11 122 rfl rfl
theorem fwX12_643 : Flk RX12 643 12 85 := ⟨_, _, _, cls12, by decide, tGc8 24 rfl rfl, by decide +kernel⟩
theorem mkX12_693 : Cond.methodLink "GlassHouseModel" 693 yX12_vote ∈ tGd := tGc11 123 rfl rfl
theorem mkX12_696 : Cond.methodLink "GlassHouseModel" 696 yX12_steer ∈ tGd := tGc11 147 rfl rfl
theorem mkX12_699 : Cond.methodLink "GlassHouseModel" 699 yX12_breathe ∈ tGd := tGc11 164 rfl rfl
theorem ciX12_702 : Jvm.Cond.constant "GlassHouseModel" 702 (1000000000) ∈ tGd := tGc11 180 rfl rfl
theorem mkX12_703 : Cond.methodLink "GlassHouseModel" 703 yX12_partWhole ∈ tGd := tGc11 181 rfl rfl
theorem clX12_854 : Jvm.Cond.constantLong "GlassHouseModel" 854 (8388607) ∈ tGd := tGc11 199 rfl rfl
theorem clX12_856 : Jvm.Cond.constantLong "GlassHouseModel" 856 (8388608) ∈ tGd := tGc11 200 rfl rfl
theorem mkX12_707 : Cond.methodLink "GlassHouseModel" 707 yX12_fromSingle ∈ tGd := tGc11 196 rfl rfl
theorem mkX12_711 : Cond.methodLink "GlassHouseModel" 711 yX12_realOf ∈ tGd := tGc11 193 rfl rfl
theorem mkX12_715 : Cond.methodLink "GlassHouseModel" 715 yX12_isMinus ∈ tGd := tGc11 216 rfl rfl
theorem fgX12_858 : FlkG RX12 858 12 134 := ⟨_, _, _, cls12, by decide, tGc8 73 rfl rfl⟩
theorem fwX12_858 : Flk RX12 858 12 134 := ⟨_, _, _, cls12, by decide, tGc8 73 rfl rfl, by decide +kernel⟩
theorem cdX12_861 : Jvm.Cond.constantDouble "GlassHouseModel" 861 (4845873199050653696) ∈ tGd := tGc11 230 rfl rfl
theorem cdX12_863 : Jvm.Cond.constantDouble "GlassHouseModel" 863 (4841369599423283200) ∈ tGd := tGc11 231 rfl rfl
theorem fgX12_865 : FlkG RX12 865 12 133 := ⟨_, _, _, cls12, by decide, tGc8 72 rfl rfl⟩
theorem fwX12_865 : Flk RX12 865 12 133 := ⟨_, _, _, cls12, by decide, tGc8 72 rfl rfl, by decide +kernel⟩
theorem clX12_873 : Jvm.Cond.constantLong "GlassHouseModel" 873 (-9223372036854775808) ∈ tGd := tGc11 232 rfl rfl
theorem mkX12_869 : Cond.methodLink "GlassHouseModel" 869 yX12_parted ∈ tGd := tGc11 226 rfl rfl
theorem cdX12_831 : Jvm.Cond.constantDouble "GlassHouseModel" 831 (9218868437227405311) ∈ tGd := tGc11 211 rfl rfl
theorem cdX12_833 : Jvm.Cond.constantDouble "GlassHouseModel" 833 (18442240474082181119) ∈ tGd := tGc11 212 rfl rfl
theorem mkX12_835 : Cond.methodLink "GlassHouseModel" 835 yX12_isEndless ∈ tGd := tGc11 208 rfl rfl
theorem mkX12_730 : Cond.methodLink "GlassHouseModel" 730 yX12_bits ∈ tGd := tGc11 222 rfl rfl
theorem mkX12_727 : Cond.methodLink "GlassHouseModel" 727 yX12_overReal ∈ tGd := tGc11 219 rfl rfl
theorem mkX12_719 : Cond.methodLink "GlassHouseModel" 719 yX12_plusReal ∈ tGd := tGc11 205 rfl rfl
theorem mkX12_723 : Cond.methodLink "GlassHouseModel" 723 yX12_isLess ∈ tGd := tGc11 213 rfl rfl
theorem mkX12_734 : Cond.methodLink "GlassHouseModel" 734 yX12_common ∈ tGd := tGc12 13 rfl rfl
theorem mkX12_737 : Cond.methodLink "GlassHouseModel" 737 yX12_fraction ∈ tGd := tGc12 16 rfl rfl
theorem fgX12_741 : FlkG RX12 741 12 114 := ⟨_, _, _, cls12, by decide, tGc8 53 rfl rfl⟩
theorem fwX12_741 : Flk RX12 741 12 114 := ⟨_, _, _, cls12, by decide, tGc8 53 rfl rfl, by decide +kernel⟩
theorem mkX12_744 : Cond.methodLink "GlassHouseModel" 744 yX12_less ∈ tGd := tGc12 20 rfl rfl
theorem fgX12_754 : FlkG RX12 754 12 115 := ⟨_, _, _, cls12, by decide, tGc8 54 rfl rfl⟩
theorem fwX12_754 : Flk RX12 754 12 115 := ⟨_, _, _, cls12, by decide, tGc8 54 rfl rfl, by decide +kernel⟩
theorem fgX12_758 : FlkG RX12 758 12 116 := ⟨_, _, _, cls12, by decide, tGc8 55 rfl rfl⟩
theorem fwX12_758 : Flk RX12 758 12 116 := ⟨_, _, _, cls12, by decide, tGc8 55 rfl rfl, by decide +kernel⟩
theorem mkX12_761 : Cond.methodLink "GlassHouseModel" 761 yX12_makeWitness ∈ tGd := tGc12 24 rfl rfl
theorem mkX12_748 : Cond.methodLink "GlassHouseModel" 748 yX12_liftRow ∈ tGd := tGc12 5 rfl rfl
theorem mkX12_751 : Cond.methodLink "GlassHouseModel" 751 yX12_clear ∈ tGd := tGc12 9 rfl rfl
theorem mkX12_764 : Cond.methodLink "GlassHouseModel" 764 yX12_isStage ∈ tGd := tGc12 36 rfl rfl
theorem clX12_767 : Jvm.Cond.constantLong "GlassHouseModel" 767 (100) ∈ tGd := tGc12 51 rfl rfl
theorem fgX12_769 : FlkG RX12 769 12 125 := ⟨_, _, _, cls12, by decide, tGc8 64 rfl rfl⟩
theorem mkX12_772 : Cond.methodLink "GlassHouseModel" 772 yX12_oneDay ∈ tGd := tGc12 47 rfl rfl
theorem fwX12_769 : Flk RX12 769 12 125 := ⟨_, _, _, cls12, by decide, tGc8 64 rfl rfl, by decide +kernel⟩
theorem fgX12_775 : FlkG RX12 775 12 126 := ⟨_, _, _, cls12, by decide, tGc8 65 rfl rfl⟩
theorem fwX12_775 : Flk RX12 775 12 126 := ⟨_, _, _, cls12, by decide, tGc8 65 rfl rfl, by decide +kernel⟩
theorem clX12_778 : Jvm.Cond.constantLong "GlassHouseModel" 778 (4) ∈ tGd := tGc12 56 rfl rfl
theorem ciX12_780 : Jvm.Cond.constant "GlassHouseModel" 780 (-1028477387) ∈ tGd := tGc12 81 rfl rfl
theorem clX12_781 : Jvm.Cond.constantLong "GlassHouseModel" 781 (255) ∈ tGd := tGc12 77 rfl rfl
theorem mkX12_783 : Cond.methodLink "GlassHouseModel" 783 yX12_isPageLane ∈ tGd := tGc12 69 rfl rfl
theorem fgX12_786 : FlkG RX12 786 12 131 := ⟨_, _, _, cls12, by decide, tGc8 70 rfl rfl⟩
theorem fgX12_789 : FlkG RX12 789 12 130 := ⟨_, _, _, cls12, by decide, tGc8 69 rfl rfl⟩
theorem fgX12_792 : FlkG RX12 792 12 129 := ⟨_, _, _, cls12, by decide, tGc8 68 rfl rfl⟩
theorem ciX12_795 : Jvm.Cond.constant "GlassHouseModel" 795 (2147483647) ∈ tGd := tGc12 72 rfl rfl
theorem mkX12_796 : Cond.methodLink "GlassHouseModel" 796 yX12_layWide ∈ tGd := tGc12 73 rfl rfl
theorem mkX12_800 : Cond.methodLink "GlassHouseModel" 800 yX12_sumOf ∈ tGd := tGc12 78 rfl rfl
theorem fwX12_789 : Flk RX12 789 12 130 := ⟨_, _, _, cls12, by decide, tGc8 69 rfl rfl, by decide +kernel⟩
theorem fwX12_792 : Flk RX12 792 12 129 := ⟨_, _, _, cls12, by decide, tGc8 68 rfl rfl, by decide +kernel⟩
theorem fwX12_786 : Flk RX12 786 12 131 := ⟨_, _, _, cls12, by decide, tGc8 70 rfl rfl, by decide +kernel⟩
theorem mkX12_804 : Cond.methodLink "GlassHouseModel" 804 yX12_wide ∈ tGd := tGc12 98 rfl rfl
theorem mkX12_808 : Cond.methodLink "GlassHouseModel" 808 yX12_numberOf ∈ tGd := tGc12 94 rfl rfl
theorem mkX12_811 : Cond.methodLink "GlassHouseModel" 811 yX12_isWhole ∈ tGd := tGc12 90 rfl rfl
theorem mkX12_814 : Cond.methodLink "GlassHouseModel" 814 yX12_above ∈ tGd := tGc12 105 rfl rfl
theorem mkX12_817 : Cond.methodLink "GlassHouseModel" 817 yX12_readMany ∈ tGd := tGc12 101 rfl rfl
theorem mkX12_820 : Cond.methodLink "GlassHouseModel" 820 yX12_pageOf ∈ tGd := tGc12 113 rfl rfl
theorem mkX12_823 : Cond.methodLink "GlassHouseModel" 823 yX12_clash ∈ tGd := tGc12 129 rfl rfl
theorem mwX11_thirsts : Cond.static yX11_thirsts ∈ tGd ∧ Cond.initialized yX11_thirsts.cls ∈ tGd ∧ Cond.code yX11_thirsts cX11_thirsts 1 (some .boolean) ∈ tGd ∧ okM yX11_thirsts 1 := ⟨tGc3 68 rfl rfl, tGc1 1 rfl rfl, tGc3 69 rfl rfl, ⟨by decide +kernel, by decide +kernel, by decide +kernel⟩⟩
theorem mwX0_begin : Cond.instanceMethod yX0_begin ∈ tGd ∧ Cond.selects yX0_begin.cls yX0_begin yX0_begin ∈ tGd ∧ Cond.initialized yX0_begin.cls ∈ tGd ∧ Cond.code yX0_begin cX0_begin 2 none ∈ tGd ∧ okM yX0_begin 1 := ⟨tGc4 5 rfl rfl, tG_in 9 (by decide +kernel) (by decide +kernel), tGc1 3 rfl rfl, tGc4 6 rfl rfl, ⟨by decide +kernel, by decide +kernel, by decide +kernel⟩⟩
theorem mwX0_faulted : Cond.instanceMethod yX0_faulted ∈ tGd ∧ Cond.selects yX0_faulted.cls yX0_faulted yX0_faulted ∈ tGd ∧ Cond.initialized yX0_faulted.cls ∈ tGd ∧ Cond.code yX0_faulted cX0_faulted 2 (some .int) ∈ tGd ∧ okM yX0_faulted 1 := ⟨tGc3 233 rfl rfl, tG_in 7 (by decide +kernel) (by decide +kernel), tGc1 3 rfl rfl, tGc3 234 rfl rfl, ⟨by decide +kernel, by decide +kernel, by decide +kernel⟩⟩
theorem mwX0_sizeOf : Cond.instanceMethod yX0_sizeOf ∈ tGd ∧ Cond.selects yX0_sizeOf.cls yX0_sizeOf yX0_sizeOf ∈ tGd ∧ Cond.initialized yX0_sizeOf.cls ∈ tGd ∧ Cond.code yX0_sizeOf cX0_sizeOf 5 (some .int) ∈ tGd ∧ okM yX0_sizeOf 2 := ⟨tGc4 13 rfl rfl, tG_in 11 (by decide +kernel) (by decide +kernel), tGc1 3 rfl rfl, tGc4 14 rfl rfl, ⟨by decide +kernel, by decide +kernel, by decide +kernel⟩⟩
theorem mwX0_answers : Cond.static yX0_answers ∈ tGd ∧ Cond.initialized yX0_answers.cls ∈ tGd ∧ Cond.code yX0_answers cX0_answers 2 (some .boolean) ∈ tGd ∧ okM yX0_answers 2 := ⟨tGc3 236 rfl rfl, tGc1 3 rfl rfl, tGc3 237 rfl rfl, ⟨by decide +kernel, by decide +kernel, by decide +kernel⟩⟩
theorem mwX0_markOf : Cond.instanceMethod yX0_markOf ∈ tGd ∧ Cond.selects yX0_markOf.cls yX0_markOf yX0_markOf ∈ tGd ∧ Cond.initialized yX0_markOf.cls ∈ tGd ∧ Cond.code yX0_markOf cX0_markOf 2 (some .int) ∈ tGd ∧ okM yX0_markOf 1 := ⟨tGc4 17 rfl rfl, tG_in 12 (by decide +kernel) (by decide +kernel), tGc1 3 rfl rfl, tGc4 18 rfl rfl, ⟨by decide +kernel, by decide +kernel, by decide +kernel⟩⟩
theorem mwX0_thirstOf : Cond.instanceMethod yX0_thirstOf ∈ tGd ∧ Cond.selects yX0_thirstOf.cls yX0_thirstOf yX0_thirstOf ∈ tGd ∧ Cond.initialized yX0_thirstOf.cls ∈ tGd ∧ Cond.code yX0_thirstOf cX0_thirstOf 4 (some .int) ∈ tGd ∧ okM yX0_thirstOf 1 := ⟨tGc4 9 rfl rfl, tG_in 10 (by decide +kernel) (by decide +kernel), tGc1 3 rfl rfl, tGc4 10 rfl rfl, ⟨by decide +kernel, by decide +kernel, by decide +kernel⟩⟩
theorem mwX0_costAlone : Cond.instanceMethod yX0_costAlone ∈ tGd ∧ Cond.selects yX0_costAlone.cls yX0_costAlone yX0_costAlone ∈ tGd ∧ Cond.initialized yX0_costAlone.cls ∈ tGd ∧ Cond.code yX0_costAlone cX0_costAlone 2 (some .int) ∈ tGd ∧ okM yX0_costAlone 1 := ⟨tGc4 1 rfl rfl, tG_in 8 (by decide +kernel) (by decide +kernel), tGc1 3 rfl rfl, tGc4 2 rfl rfl, ⟨by decide +kernel, by decide +kernel, by decide +kernel⟩⟩
theorem mwXN_rotL : Cond.static yXN_rotL ∈ tGd ∧ Cond.initialized yXN_rotL.cls ∈ tGd ∧ Cond.code yXN_rotL cXN_rotL 2 (some .int) ∈ tGd ∧ okM yXN_rotL 2 := ⟨tGc7 79 rfl rfl, tGc1 16 rfl rfl, tGc7 80 rfl rfl, ⟨by decide +kernel, by decide +kernel, by decide +kernel⟩⟩
theorem mwX1_putNumber : Cond.instanceMethod yX1_putNumber ∈ tGd ∧ Cond.selects yX1_putNumber.cls yX1_putNumber yX1_putNumber ∈ tGd ∧ Cond.initialized yX1_putNumber.cls ∈ tGd ∧ Cond.code yX1_putNumber cX1_putNumber 6 none ∈ tGd ∧ okM yX1_putNumber 3 := ⟨tGc7 73 rfl rfl, tG_in 68 (by decide +kernel) (by decide +kernel), tGc1 10 rfl rfl, tGc7 74 rfl rfl, ⟨by decide +kernel, by decide +kernel, by decide +kernel⟩⟩
theorem mwX1_sumOf : Cond.static yX1_sumOf ∈ tGd ∧ Cond.initialized yX1_sumOf.cls ∈ tGd ∧ Cond.code yX1_sumOf cX1_sumOf 4 (some .int) ∈ tGd ∧ okM yX1_sumOf 2 := ⟨tGc7 76 rfl rfl, tGc1 10 rfl rfl, tGc7 77 rfl rfl, ⟨by decide +kernel, by decide +kernel, by decide +kernel⟩⟩
theorem mwX1_fillDraft : Cond.instanceMethod yX1_fillDraft ∈ tGd ∧ Cond.selects yX1_fillDraft.cls yX1_fillDraft yX1_fillDraft ∈ tGd ∧ Cond.initialized yX1_fillDraft.cls ∈ tGd ∧ Cond.code yX1_fillDraft cX1_fillDraft 5 none ∈ tGd ∧ okM yX1_fillDraft 3 := ⟨tGc7 69 rfl rfl, tG_in 67 (by decide +kernel) (by decide +kernel), tGc1 10 rfl rfl, tGc7 70 rfl rfl, ⟨by decide +kernel, by decide +kernel, by decide +kernel⟩⟩
theorem mwXM_minI : Cond.static yXM_minI ∈ tGd ∧ Cond.initialized yXM_minI.cls ∈ tGd ∧ Cond.code yXM_minI cXM_minI 2 (some .int) ∈ tGd ∧ okM yXM_minI 2 := ⟨tGc4 175 rfl rfl, tGc1 13 rfl rfl, tGc4 176 rfl rfl, ⟨by decide +kernel, by decide +kernel, by decide +kernel⟩⟩
theorem mwX1_isByte : Cond.static yX1_isByte ∈ tGd ∧ Cond.initialized yX1_isByte.cls ∈ tGd ∧ Cond.code yX1_isByte cX1_isByte 2 (some .boolean) ∈ tGd ∧ okM yX1_isByte 2 := ⟨tGc7 112 rfl rfl, tGc1 10 rfl rfl, tGc7 113 rfl rfl, ⟨by decide +kernel, by decide +kernel, by decide +kernel⟩⟩
theorem mwX1_numberAt : Cond.instanceMethod yX1_numberAt ∈ tGd ∧ Cond.selects yX1_numberAt.cls yX1_numberAt yX1_numberAt ∈ tGd ∧ Cond.initialized yX1_numberAt.cls ∈ tGd ∧ Cond.code yX1_numberAt cX1_numberAt 7 (some .long) ∈ tGd ∧ okM yX1_numberAt 3 := ⟨tGc7 109 rfl rfl, tG_in 70 (by decide +kernel) (by decide +kernel), tGc1 10 rfl rfl, tGc7 110 rfl rfl, ⟨by decide +kernel, by decide +kernel, by decide +kernel⟩⟩
theorem mwX11_isNumber : Cond.static yX11_isNumber ∈ tGd ∧ Cond.initialized yX11_isNumber.cls ∈ tGd ∧ Cond.code yX11_isNumber cX11_isNumber 2 (some .boolean) ∈ tGd ∧ okM yX11_isNumber 1 := ⟨tGc3 95 rfl rfl, tGc1 1 rfl rfl, tGc3 96 rfl rfl, ⟨by decide +kernel, by decide +kernel, by decide +kernel⟩⟩
theorem mwX1_numberOf : Cond.instanceMethod yX1_numberOf ∈ tGd ∧ Cond.selects yX1_numberOf.cls yX1_numberOf yX1_numberOf ∈ tGd ∧ Cond.initialized yX1_numberOf.cls ∈ tGd ∧ Cond.code yX1_numberOf cX1_numberOf 2 (some .int) ∈ tGd ∧ okM yX1_numberOf 1 := ⟨tGc7 116 rfl rfl, tG_in 71 (by decide +kernel) (by decide +kernel), tGc1 10 rfl rfl, tGc7 117 rfl rfl, ⟨by decide +kernel, by decide +kernel, by decide +kernel⟩⟩
theorem mwX1_writes : Cond.static yX1_writes ∈ tGd ∧ Cond.initialized yX1_writes.cls ∈ tGd ∧ Cond.code yX1_writes cX1_writes 1 (some .boolean) ∈ tGd ∧ okM yX1_writes 1 := ⟨tGc7 60 rfl rfl, tGc1 10 rfl rfl, tGc7 61 rfl rfl, ⟨by decide +kernel, by decide +kernel, by decide +kernel⟩⟩
theorem mwX1_allZero : Cond.instanceMethod yX1_allZero ∈ tGd ∧ Cond.selects yX1_allZero.cls yX1_allZero yX1_allZero ∈ tGd ∧ Cond.initialized yX1_allZero.cls ∈ tGd ∧ Cond.code yX1_allZero cX1_allZero 5 (some .boolean) ∈ tGd ∧ okM yX1_allZero 3 := ⟨tGc7 121 rfl rfl, tG_in 72 (by decide +kernel) (by decide +kernel), tGc1 10 rfl rfl, tGc7 122 rfl rfl, ⟨by decide +kernel, by decide +kernel, by decide +kernel⟩⟩
theorem mwX11_cellOf : Cond.static yX11_cellOf ∈ tGd ∧ Cond.initialized yX11_cellOf.cls ∈ tGd ∧ Cond.code yX11_cellOf cX11_cellOf 3 (some .long) ∈ tGd ∧ okM yX11_cellOf 2 := ⟨tGc3 88 rfl rfl, tGc1 1 rfl rfl, tGc3 89 rfl rfl, ⟨by decide +kernel, by decide +kernel, by decide +kernel⟩⟩
theorem mwX1_isWhole : Cond.instanceMethod yX1_isWhole ∈ tGd ∧ Cond.selects yX1_isWhole.cls yX1_isWhole yX1_isWhole ∈ tGd ∧ Cond.initialized yX1_isWhole.cls ∈ tGd ∧ Cond.code yX1_isWhole cX1_isWhole 7 (some .boolean) ∈ tGd ∧ okM yX1_isWhole 1 := ⟨tGc7 105 rfl rfl, tG_in 69 (by decide +kernel) (by decide +kernel), tGc1 10 rfl rfl, tGc7 106 rfl rfl, ⟨by decide +kernel, by decide +kernel, by decide +kernel⟩⟩
theorem mwX1_leastWith : Cond.instanceMethod yX1_leastWith ∈ tGd ∧ Cond.selects yX1_leastWith.cls yX1_leastWith yX1_leastWith ∈ tGd ∧ Cond.initialized yX1_leastWith.cls ∈ tGd ∧ Cond.code yX1_leastWith cX1_leastWith 3 (some .int) ∈ tGd ∧ okM yX1_leastWith 1 := ⟨tGc7 126 rfl rfl, tG_in 73 (by decide +kernel) (by decide +kernel), tGc1 10 rfl rfl, tGc7 127 rfl rfl, ⟨by decide +kernel, by decide +kernel, by decide +kernel⟩⟩
theorem mwX1_gatherRead : Cond.instanceMethod yX1_gatherRead ∈ tGd ∧ Cond.selects yX1_gatherRead.cls yX1_gatherRead yX1_gatherRead ∈ tGd ∧ Cond.initialized yX1_gatherRead.cls ∈ tGd ∧ Cond.code yX1_gatherRead cX1_gatherRead 4 (some .int) ∈ tGd ∧ okM yX1_gatherRead 0 := ⟨tGc7 100 rfl rfl, tGc7 101 rfl rfl, tGc1 10 rfl rfl, tGc7 102 rfl rfl, ⟨by decide +kernel, by decide +kernel, by decide +kernel⟩⟩
theorem mwX1_samePages : Cond.instanceMethod yX1_samePages ∈ tGd ∧ Cond.selects yX1_samePages.cls yX1_samePages yX1_samePages ∈ tGd ∧ Cond.initialized yX1_samePages.cls ∈ tGd ∧ Cond.code yX1_samePages cX1_samePages 4 (some .boolean) ∈ tGd ∧ okM yX1_samePages 2 := ⟨tGc7 156 rfl rfl, tG_in 74 (by decide +kernel) (by decide +kernel), tGc1 10 rfl rfl, tGc7 157 rfl rfl, ⟨by decide +kernel, by decide +kernel, by decide +kernel⟩⟩
theorem mwXM_absJ : Cond.static yXM_absJ ∈ tGd ∧ Cond.initialized yXM_absJ.cls ∈ tGd ∧ Cond.code yXM_absJ cXM_absJ 2 (some .long) ∈ tGd ∧ okM yXM_absJ 1 := ⟨tGc6 78 rfl rfl, tGc1 13 rfl rfl, tGc6 79 rfl rfl, ⟨by decide +kernel, by decide +kernel, by decide +kernel⟩⟩
theorem mwX2_firstSign : Cond.instanceMethod yX2_firstSign ∈ tGd ∧ Cond.selects yX2_firstSign.cls yX2_firstSign yX2_firstSign ∈ tGd ∧ Cond.initialized yX2_firstSign.cls ∈ tGd ∧ Cond.code yX2_firstSign cX2_firstSign 2 (some .int) ∈ tGd ∧ okM yX2_firstSign 0 := ⟨tGc6 225 rfl rfl, tG_in 64 (by decide +kernel) (by decide +kernel), tGc1 8 rfl rfl, tGc6 226 rfl rfl, ⟨by decide +kernel, by decide +kernel, by decide +kernel⟩⟩
theorem mwX2_commonDivisor : Cond.static yX2_commonDivisor ∈ tGd ∧ Cond.initialized yX2_commonDivisor.cls ∈ tGd ∧ Cond.code yX2_commonDivisor cX2_commonDivisor 11 (some .long) ∈ tGd ∧ okM yX2_commonDivisor 2 := ⟨tGc6 212 rfl rfl, tGc1 8 rfl rfl, tGc6 213 rfl rfl, ⟨by decide +kernel, by decide +kernel, by decide +kernel⟩⟩
theorem mwX2_becomesFraction : Cond.instanceMethod yX2_becomesFraction ∈ tGd ∧ Cond.selects yX2_becomesFraction.cls yX2_becomesFraction yX2_becomesFraction ∈ tGd ∧ Cond.initialized yX2_becomesFraction.cls ∈ tGd ∧ Cond.code yX2_becomesFraction cX2_becomesFraction 11 none ∈ tGd ∧ okM yX2_becomesFraction 4 := ⟨tGc6 209 rfl rfl, tG_in 61 (by decide +kernel) (by decide +kernel), tGc1 8 rfl rfl, tGc6 210 rfl rfl, ⟨by decide +kernel, by decide +kernel, by decide +kernel⟩⟩
theorem mwX2_changePlaces : Cond.instanceMethod yX2_changePlaces ∈ tGd ∧ Cond.selects yX2_changePlaces.cls yX2_changePlaces yX2_changePlaces ∈ tGd ∧ Cond.initialized yX2_changePlaces.cls ∈ tGd ∧ Cond.code yX2_changePlaces cX2_changePlaces 6 none ∈ tGd ∧ okM yX2_changePlaces 2 := ⟨tGc6 201 rfl rfl, tG_in 59 (by decide +kernel) (by decide +kernel), tGc1 8 rfl rfl, tGc6 202 rfl rfl, ⟨by decide +kernel, by decide +kernel, by decide +kernel⟩⟩
theorem mwX2_divideRow : Cond.instanceMethod yX2_divideRow ∈ tGd ∧ Cond.selects yX2_divideRow.cls yX2_divideRow yX2_divideRow ∈ tGd ∧ Cond.initialized yX2_divideRow.cls ∈ tGd ∧ Cond.code yX2_divideRow cX2_divideRow 7 none ∈ tGd ∧ okM yX2_divideRow 3 := ⟨tGc6 205 rfl rfl, tG_in 60 (by decide +kernel) (by decide +kernel), tGc1 8 rfl rfl, tGc6 206 rfl rfl, ⟨by decide +kernel, by decide +kernel, by decide +kernel⟩⟩
theorem mwX2_takeRow : Cond.instanceMethod yX2_takeRow ∈ tGd ∧ Cond.selects yX2_takeRow.cls yX2_takeRow yX2_takeRow ∈ tGd ∧ Cond.initialized yX2_takeRow.cls ∈ tGd ∧ Cond.code yX2_takeRow cX2_takeRow 14 none ∈ tGd ∧ okM yX2_takeRow 4 := ⟨tGc6 217 rfl rfl, tG_in 62 (by decide +kernel) (by decide +kernel), tGc1 8 rfl rfl, tGc6 218 rfl rfl, ⟨by decide +kernel, by decide +kernel, by decide +kernel⟩⟩
theorem mwX2_clearOutcome : Cond.instanceMethod yX2_clearOutcome ∈ tGd ∧ Cond.selects yX2_clearOutcome.cls yX2_clearOutcome yX2_clearOutcome ∈ tGd ∧ Cond.initialized yX2_clearOutcome.cls ∈ tGd ∧ Cond.code yX2_clearOutcome cX2_clearOutcome 2 none ∈ tGd ∧ okM yX2_clearOutcome 0 := ⟨tGc6 189 rfl rfl, tG_in 56 (by decide +kernel) (by decide +kernel), tGc1 8 rfl rfl, tGc6 190 rfl rfl, ⟨by decide +kernel, by decide +kernel, by decide +kernel⟩⟩
theorem mwX2_fillRows : Cond.instanceMethod yX2_fillRows ∈ tGd ∧ Cond.selects yX2_fillRows.cls yX2_fillRows yX2_fillRows ∈ tGd ∧ Cond.initialized yX2_fillRows.cls ∈ tGd ∧ Cond.code yX2_fillRows cX2_fillRows 3 none ∈ tGd ∧ okM yX2_fillRows 0 := ⟨tGc6 193 rfl rfl, tG_in 57 (by decide +kernel) (by decide +kernel), tGc1 8 rfl rfl, tGc6 194 rfl rfl, ⟨by decide +kernel, by decide +kernel, by decide +kernel⟩⟩
theorem mwX2_tellFractions : Cond.instanceMethod yX2_tellFractions ∈ tGd ∧ Cond.selects yX2_tellFractions.cls yX2_tellFractions yX2_tellFractions ∈ tGd ∧ Cond.initialized yX2_tellFractions.cls ∈ tGd ∧ Cond.code yX2_tellFractions cX2_tellFractions 3 (some .boolean) ∈ tGd ∧ okM yX2_tellFractions 0 := ⟨tGc6 229 rfl rfl, tG_in 65 (by decide +kernel) (by decide +kernel), tGc1 8 rfl rfl, tGc6 230 rfl rfl, ⟨by decide +kernel, by decide +kernel, by decide +kernel⟩⟩
theorem mwX2_tellWitness : Cond.instanceMethod yX2_tellWitness ∈ tGd ∧ Cond.selects yX2_tellWitness.cls yX2_tellWitness yX2_tellWitness ∈ tGd ∧ Cond.initialized yX2_tellWitness.cls ∈ tGd ∧ Cond.code yX2_tellWitness cX2_tellWitness 9 none ∈ tGd ∧ okM yX2_tellWitness 1 := ⟨tGc6 221 rfl rfl, tG_in 63 (by decide +kernel) (by decide +kernel), tGc1 8 rfl rfl, tGc6 222 rfl rfl, ⟨by decide +kernel, by decide +kernel, by decide +kernel⟩⟩
theorem mwX2_workColumn : Cond.instanceMethod yX2_workColumn ∈ tGd ∧ Cond.selects yX2_workColumn.cls yX2_workColumn yX2_workColumn ∈ tGd ∧ Cond.initialized yX2_workColumn.cls ∈ tGd ∧ Cond.code yX2_workColumn cX2_workColumn 4 none ∈ tGd ∧ okM yX2_workColumn 1 := ⟨tGc6 197 rfl rfl, tG_in 58 (by decide +kernel) (by decide +kernel), tGc1 8 rfl rfl, tGc6 198 rfl rfl, ⟨by decide +kernel, by decide +kernel, by decide +kernel⟩⟩
theorem mwX9_init : Cond.instanceMethod yX9_init ∈ tGd ∧ Cond.initialized yX9_init.cls ∈ tGd ∧ Cond.code yX9_init cX9_init 1 none ∈ tGd ∧ okM yX9_init 0 := ⟨tGc1 174 rfl rfl, tGc1 7 rfl rfl, tGc1 175 rfl rfl, ⟨by decide +kernel, by decide +kernel, by decide +kernel⟩⟩
theorem mwX11_scaled : Cond.static yX11_scaled ∈ tGd ∧ Cond.initialized yX11_scaled.cls ∈ tGd ∧ Cond.code yX11_scaled cX11_scaled 9 (some .double) ∈ tGd ∧ okM yX11_scaled 2 := ⟨tGc5 163 rfl rfl, tGc1 1 rfl rfl, tGc5 164 rfl rfl, ⟨by decide +kernel, by decide +kernel, by decide +kernel⟩⟩
theorem mwX11_realOf : Cond.static yX11_realOf ∈ tGd ∧ Cond.initialized yX11_realOf.cls ∈ tGd ∧ Cond.code yX11_realOf cX11_realOf 7 (some .double) ∈ tGd ∧ okM yX11_realOf 1 := ⟨tGc5 158 rfl rfl, tGc1 1 rfl rfl, tGc5 159 rfl rfl, ⟨by decide +kernel, by decide +kernel, by decide +kernel⟩⟩
theorem mwX9_layDown : Cond.instanceMethod yX9_layDown ∈ tGd ∧ Cond.selects yX9_layDown.cls yX9_layDown yX9_layDown ∈ tGd ∧ Cond.initialized yX9_layDown.cls ∈ tGd ∧ Cond.code yX9_layDown cX9_layDown 4 none ∈ tGd ∧ okM yX9_layDown 2 := ⟨tGc5 128 rfl rfl, tG_in 39 (by decide +kernel) (by decide +kernel), tGc1 7 rfl rfl, tGc5 129 rfl rfl, ⟨by decide +kernel, by decide +kernel, by decide +kernel⟩⟩
theorem mwXM_floorDiv : Cond.static yXM_floorDiv ∈ tGd ∧ Cond.initialized yXM_floorDiv.cls ∈ tGd ∧ Cond.code yXM_floorDiv cXM_floorDiv 6 (some .long) ∈ tGd ∧ okM yXM_floorDiv 2 := ⟨tGc5 135 rfl rfl, tGc1 13 rfl rfl, tGc5 136 rfl rfl, ⟨by decide +kernel, by decide +kernel, by decide +kernel⟩⟩
theorem mwX9_lineAt : Cond.instanceMethod yX9_lineAt ∈ tGd ∧ Cond.selects yX9_lineAt.cls yX9_lineAt yX9_lineAt ∈ tGd ∧ Cond.initialized yX9_lineAt.cls ∈ tGd ∧ Cond.code yX9_lineAt cX9_lineAt 10 (some .int) ∈ tGd ∧ okM yX9_lineAt 2 := ⟨tGc5 132 rfl rfl, tG_in 40 (by decide +kernel) (by decide +kernel), tGc1 7 rfl rfl, tGc5 133 rfl rfl, ⟨by decide +kernel, by decide +kernel, by decide +kernel⟩⟩
theorem mwX9_hasLines : Cond.instanceMethod yX9_hasLines ∈ tGd ∧ Cond.selects yX9_hasLines.cls yX9_hasLines yX9_hasLines ∈ tGd ∧ Cond.initialized yX9_hasLines.cls ∈ tGd ∧ Cond.code yX9_hasLines cX9_hasLines 2 (some .boolean) ∈ tGd ∧ okM yX9_hasLines 1 := ⟨tGc6 95 rfl rfl, tGc6 96 rfl rfl, tGc1 7 rfl rfl, tGc6 97 rfl rfl, ⟨by decide +kernel, by decide +kernel, by decide +kernel⟩⟩
theorem mwX9_valueAt : Cond.instanceMethod yX9_valueAt ∈ tGd ∧ Cond.selects yX9_valueAt.cls yX9_valueAt yX9_valueAt ∈ tGd ∧ Cond.initialized yX9_valueAt.cls ∈ tGd ∧ Cond.code yX9_valueAt cX9_valueAt 3 (some .int) ∈ tGd ∧ okM yX9_valueAt 2 := ⟨tGc5 123 rfl rfl, tGc5 124 rfl rfl, tGc1 7 rfl rfl, tGc5 125 rfl rfl, ⟨by decide +kernel, by decide +kernel, by decide +kernel⟩⟩
theorem mwXM_maxI : Cond.static yXM_maxI ∈ tGd ∧ Cond.initialized yXM_maxI.cls ∈ tGd ∧ Cond.code yXM_maxI cXM_maxI 2 (some .int) ∈ tGd ∧ okM yXM_maxI 2 := ⟨tGc3 213 rfl rfl, tGc1 13 rfl rfl, tGc3 214 rfl rfl, ⟨by decide +kernel, by decide +kernel, by decide +kernel⟩⟩
theorem mwX4_mostVapour : Cond.instanceMethod yX4_mostVapour ∈ tGd ∧ Cond.selects yX4_mostVapour.cls yX4_mostVapour yX4_mostVapour ∈ tGd ∧ Cond.initialized yX4_mostVapour.cls ∈ tGd ∧ Cond.code yX4_mostVapour cX4_mostVapour 3 (some .long) ∈ tGd ∧ okM yX4_mostVapour 1 := ⟨tGc6 92 rfl rfl, tG_in 53 (by decide +kernel) (by decide +kernel), tGc1 6 rfl rfl, tGc6 93 rfl rfl, ⟨by decide +kernel, by decide +kernel, by decide +kernel⟩⟩
theorem mwXM_maxJ : Cond.static yXM_maxJ ∈ tGd ∧ Cond.initialized yXM_maxJ.cls ∈ tGd ∧ Cond.code yXM_maxJ cXM_maxJ 4 (some .long) ∈ tGd ∧ okM yXM_maxJ 2 := ⟨tGc6 54 rfl rfl, tGc1 13 rfl rfl, tGc6 55 rfl rfl, ⟨by decide +kernel, by decide +kernel, by decide +kernel⟩⟩
theorem mwXM_minJ : Cond.static yXM_minJ ∈ tGd ∧ Cond.initialized yXM_minJ.cls ∈ tGd ∧ Cond.code yXM_minJ cXM_minJ 4 (some .long) ∈ tGd ∧ okM yXM_minJ 2 := ⟨tGc6 51 rfl rfl, tGc1 13 rfl rfl, tGc6 52 rfl rfl, ⟨by decide +kernel, by decide +kernel, by decide +kernel⟩⟩
theorem mwX4_bounded : Cond.static yX4_bounded ∈ tGd ∧ Cond.initialized yX4_bounded.cls ∈ tGd ∧ Cond.code yX4_bounded cX4_bounded 6 (some .long) ∈ tGd ∧ okM yX4_bounded 3 := ⟨tGc6 48 rfl rfl, tGc1 6 rfl rfl, tGc6 49 rfl rfl, ⟨by decide +kernel, by decide +kernel, by decide +kernel⟩⟩
theorem mwX4_valueReal : Cond.instanceMethod yX4_valueReal ∈ tGd ∧ Cond.selects yX4_valueReal.cls yX4_valueReal yX4_valueReal ∈ tGd ∧ Cond.initialized yX4_valueReal.cls ∈ tGd ∧ Cond.code yX4_valueReal cX4_valueReal 3 (some .double) ∈ tGd ∧ okM yX4_valueReal 1 := ⟨tGc6 24 rfl rfl, tG_in 45 (by decide +kernel) (by decide +kernel), tGc1 6 rfl rfl, tGc6 25 rfl rfl, ⟨by decide +kernel, by decide +kernel, by decide +kernel⟩⟩
theorem mwX4_wishAt : Cond.instanceMethod yX4_wishAt ∈ tGd ∧ Cond.selects yX4_wishAt.cls yX4_wishAt yX4_wishAt ∈ tGd ∧ Cond.initialized yX4_wishAt.cls ∈ tGd ∧ Cond.code yX4_wishAt cX4_wishAt 11 (some .int) ∈ tGd ∧ okM yX4_wishAt 2 := ⟨tGc5 225 rfl rfl, tGc5 226 rfl rfl, tGc1 6 rfl rfl, tGc5 227 rfl rfl, ⟨by decide +kernel, by decide +kernel, by decide +kernel⟩⟩
theorem mwX4_towards : Cond.static yX4_towards ∈ tGd ∧ Cond.initialized yX4_towards.cls ∈ tGd ∧ Cond.code yX4_towards cX4_towards 4 (some .long) ∈ tGd ∧ okM yX4_towards 2 := ⟨tGc6 43 rfl rfl, tGc1 6 rfl rfl, tGc6 44 rfl rfl, ⟨by decide +kernel, by decide +kernel, by decide +kernel⟩⟩
theorem mwX4_hasWish : Cond.instanceMethod yX4_hasWish ∈ tGd ∧ Cond.selects yX4_hasWish.cls yX4_hasWish yX4_hasWish ∈ tGd ∧ Cond.initialized yX4_hasWish.cls ∈ tGd ∧ Cond.code yX4_hasWish cX4_hasWish 2 (some .boolean) ∈ tGd ∧ okM yX4_hasWish 1 := ⟨tGc5 221 rfl rfl, tGc5 222 rfl rfl, tGc1 6 rfl rfl, tGc5 223 rfl rfl, ⟨by decide +kernel, by decide +kernel, by decide +kernel⟩⟩
theorem mwX4_wantedMove : Cond.instanceMethod yX4_wantedMove ∈ tGd ∧ Cond.selects yX4_wantedMove.cls yX4_wantedMove yX4_wantedMove ∈ tGd ∧ Cond.initialized yX4_wantedMove.cls ∈ tGd ∧ Cond.code yX4_wantedMove cX4_wantedMove 7 (some .long) ∈ tGd ∧ okM yX4_wantedMove 1 := ⟨tGc6 60 rfl rfl, tG_in 50 (by decide +kernel) (by decide +kernel), tGc1 6 rfl rfl, tGc6 61 rfl rfl, ⟨by decide +kernel, by decide +kernel, by decide +kernel⟩⟩
theorem mwX4_moveBy : Cond.instanceMethod yX4_moveBy ∈ tGd ∧ Cond.selects yX4_moveBy.cls yX4_moveBy yX4_moveBy ∈ tGd ∧ Cond.initialized yX4_moveBy.cls ∈ tGd ∧ Cond.code yX4_moveBy cX4_moveBy 10 none ∈ tGd ∧ okM yX4_moveBy 2 := ⟨tGc6 75 rfl rfl, tG_in 51 (by decide +kernel) (by decide +kernel), tGc1 6 rfl rfl, tGc6 76 rfl rfl, ⟨by decide +kernel, by decide +kernel, by decide +kernel⟩⟩
theorem mwX4_sendTo : Cond.instanceMethod yX4_sendTo ∈ tGd ∧ Cond.selects yX4_sendTo.cls yX4_sendTo yX4_sendTo ∈ tGd ∧ Cond.initialized yX4_sendTo.cls ∈ tGd ∧ Cond.code yX4_sendTo cX4_sendTo 4 none ∈ tGd ∧ okM yX4_sendTo 3 := ⟨tGc6 36 rfl rfl, tG_in 48 (by decide +kernel) (by decide +kernel), tGc1 6 rfl rfl, tGc6 37 rfl rfl, ⟨by decide +kernel, by decide +kernel, by decide +kernel⟩⟩
theorem mwX11_orderKey : Cond.static yX11_orderKey ∈ tGd ∧ Cond.initialized yX11_orderKey.cls ∈ tGd ∧ Cond.code yX11_orderKey cX11_orderKey 2 (some .long) ∈ tGd ∧ okM yX11_orderKey 1 := ⟨tGc6 16 rfl rfl, tGc1 1 rfl rfl, tGc6 17 rfl rfl, ⟨by decide +kernel, by decide +kernel, by decide +kernel⟩⟩
theorem mwX11_sortByOrder : Cond.static yX11_sortByOrder ∈ tGd ∧ Cond.initialized yX11_sortByOrder.cls ∈ tGd ∧ Cond.code yX11_sortByOrder cX11_sortByOrder 7 none ∈ tGd ∧ okM yX11_sortByOrder 2 := ⟨tGc6 12 rfl rfl, tGc1 1 rfl rfl, tGc6 13 rfl rfl, ⟨by decide +kernel, by decide +kernel, by decide +kernel⟩⟩
theorem mwX4_countSame : Cond.instanceMethod yX4_countSame ∈ tGd ∧ Cond.selects yX4_countSame.cls yX4_countSame yX4_countSame ∈ tGd ∧ Cond.initialized yX4_countSame.cls ∈ tGd ∧ Cond.code yX4_countSame cX4_countSame 6 (some .boolean) ∈ tGd ∧ okM yX4_countSame 1 := ⟨tGc6 5 rfl rfl, tG_in 42 (by decide +kernel) (by decide +kernel), tGc1 6 rfl rfl, tGc6 6 rfl rfl, ⟨by decide +kernel, by decide +kernel, by decide +kernel⟩⟩
theorem mwX4_middleOf : Cond.instanceMethod yX4_middleOf ∈ tGd ∧ Cond.selects yX4_middleOf.cls yX4_middleOf yX4_middleOf ∈ tGd ∧ Cond.initialized yX4_middleOf.cls ∈ tGd ∧ Cond.code yX4_middleOf cX4_middleOf 4 (some .long) ∈ tGd ∧ okM yX4_middleOf 1 := ⟨tGc6 9 rfl rfl, tG_in 43 (by decide +kernel) (by decide +kernel), tGc1 6 rfl rfl, tGc6 10 rfl rfl, ⟨by decide +kernel, by decide +kernel, by decide +kernel⟩⟩
theorem mwX4_countOff : Cond.instanceMethod yX4_countOff ∈ tGd ∧ Cond.selects yX4_countOff.cls yX4_countOff yX4_countOff ∈ tGd ∧ Cond.initialized yX4_countOff.cls ∈ tGd ∧ Cond.code yX4_countOff cX4_countOff 10 none ∈ tGd ∧ okM yX4_countOff 4 := ⟨tGc6 28 rfl rfl, tG_in 46 (by decide +kernel) (by decide +kernel), tGc1 6 rfl rfl, tGc6 29 rfl rfl, ⟨by decide +kernel, by decide +kernel, by decide +kernel⟩⟩
theorem mwX4_judge : Cond.instanceMethod yX4_judge ∈ tGd ∧ Cond.selects yX4_judge.cls yX4_judge yX4_judge ∈ tGd ∧ Cond.initialized yX4_judge.cls ∈ tGd ∧ Cond.code yX4_judge cX4_judge 4 none ∈ tGd ∧ okM yX4_judge 2 := ⟨tGc6 32 rfl rfl, tG_in 47 (by decide +kernel) (by decide +kernel), tGc1 6 rfl rfl, tGc6 33 rfl rfl, ⟨by decide +kernel, by decide +kernel, by decide +kernel⟩⟩
theorem mwX4_manyReading : Cond.instanceMethod yX4_manyReading ∈ tGd ∧ Cond.selects yX4_manyReading.cls yX4_manyReading yX4_manyReading ∈ tGd ∧ Cond.initialized yX4_manyReading.cls ∈ tGd ∧ Cond.code yX4_manyReading cX4_manyReading 4 (some .int) ∈ tGd ∧ okM yX4_manyReading 1 := ⟨tGc6 20 rfl rfl, tG_in 44 (by decide +kernel) (by decide +kernel), tGc1 6 rfl rfl, tGc6 21 rfl rfl, ⟨by decide +kernel, by decide +kernel, by decide +kernel⟩⟩
theorem mwX4_vote : Cond.instanceMethod yX4_vote ∈ tGd ∧ Cond.selects yX4_vote.cls yX4_vote yX4_vote ∈ tGd ∧ Cond.initialized yX4_vote.cls ∈ tGd ∧ Cond.code yX4_vote cX4_vote 7 none ∈ tGd ∧ okM yX4_vote 1 := ⟨tGc6 1 rfl rfl, tG_in 41 (by decide +kernel) (by decide +kernel), tGc1 6 rfl rfl, tGc6 2 rfl rfl, ⟨by decide +kernel, by decide +kernel, by decide +kernel⟩⟩
theorem mwX4_steer : Cond.instanceMethod yX4_steer ∈ tGd ∧ Cond.selects yX4_steer.cls yX4_steer yX4_steer ∈ tGd ∧ Cond.initialized yX4_steer.cls ∈ tGd ∧ Cond.code yX4_steer cX4_steer 5 none ∈ tGd ∧ okM yX4_steer 1 := ⟨tGc6 40 rfl rfl, tG_in 49 (by decide +kernel) (by decide +kernel), tGc1 6 rfl rfl, tGc6 41 rfl rfl, ⟨by decide +kernel, by decide +kernel, by decide +kernel⟩⟩
theorem mwX4_changeAir : Cond.instanceMethod yX4_changeAir ∈ tGd ∧ Cond.selects yX4_changeAir.cls yX4_changeAir yX4_changeAir ∈ tGd ∧ Cond.initialized yX4_changeAir.cls ∈ tGd ∧ Cond.code yX4_changeAir cX4_changeAir 15 none ∈ tGd ∧ okM yX4_changeAir 1 := ⟨tGc6 84 rfl rfl, tG_in 52 (by decide +kernel) (by decide +kernel), tGc1 6 rfl rfl, tGc6 85 rfl rfl, ⟨by decide +kernel, by decide +kernel, by decide +kernel⟩⟩
theorem mwX11_shareOut : Cond.static yX11_shareOut ∈ tGd ∧ Cond.initialized yX11_shareOut.cls ∈ tGd ∧ Cond.code yX11_shareOut cX11_shareOut 13 none ∈ tGd ∧ okM yX11_shareOut 5 := ⟨tGc6 115 rfl rfl, tGc1 1 rfl rfl, tGc6 116 rfl rfl, ⟨by decide +kernel, by decide +kernel, by decide +kernel⟩⟩
theorem mwX5_dayOf : Cond.instanceMethod yX5_dayOf ∈ tGd ∧ Cond.selects yX5_dayOf.cls yX5_dayOf yX5_dayOf ∈ tGd ∧ Cond.initialized yX5_dayOf.cls ∈ tGd ∧ Cond.code yX5_dayOf cX5_dayOf 3 none ∈ tGd ∧ okM yX5_dayOf 1 := ⟨tGc7 31 rfl rfl, tG_in 66 (by decide +kernel) (by decide +kernel), tGc1 9 rfl rfl, tGc7 32 rfl rfl, ⟨by decide +kernel, by decide +kernel, by decide +kernel⟩⟩
theorem mwX6_isPlace : Cond.instanceMethod yX6_isPlace ∈ tGd ∧ Cond.selects yX6_isPlace.cls yX6_isPlace yX6_isPlace ∈ tGd ∧ Cond.initialized yX6_isPlace.cls ∈ tGd ∧ Cond.code yX6_isPlace cX6_isPlace 3 (some .boolean) ∈ tGd ∧ okM yX6_isPlace 2 := ⟨tGc4 212 rfl rfl, tG_in 24 (by decide +kernel) (by decide +kernel), tGc1 4 rfl rfl, tGc4 213 rfl rfl, ⟨by decide +kernel, by decide +kernel, by decide +kernel⟩⟩
theorem mwX0_init : Cond.instanceMethod yX0_init ∈ tGd ∧ Cond.initialized yX0_init.cls ∈ tGd ∧ Cond.code yX0_init cX0_init 1 none ∈ tGd ∧ okM yX0_init 0 := ⟨tGc1 36 rfl rfl, tGc1 3 rfl rfl, tGc1 37 rfl rfl, ⟨by decide +kernel, by decide +kernel, by decide +kernel⟩⟩
theorem mwX6_init : Cond.instanceMethod yX6_init ∈ tGd ∧ Cond.initialized yX6_init.cls ∈ tGd ∧ Cond.code yX6_init cX6_init 1 none ∈ tGd ∧ okM yX6_init 0 := ⟨tGc1 55 rfl rfl, tGc1 4 rfl rfl, tGc1 56 rfl rfl, ⟨by decide +kernel, by decide +kernel, by decide +kernel⟩⟩
theorem mwX8_init : Cond.instanceMethod yX8_init ∈ tGd ∧ Cond.initialized yX8_init.cls ∈ tGd ∧ Cond.code yX8_init cX8_init 1 none ∈ tGd ∧ okM yX8_init 0 := ⟨tGc1 83 rfl rfl, tGc1 5 rfl rfl, tGc1 84 rfl rfl, ⟨by decide +kernel, by decide +kernel, by decide +kernel⟩⟩
theorem mwX3_init : Cond.instanceMethod yX3_init ∈ tGd ∧ Cond.initialized yX3_init.cls ∈ tGd ∧ Cond.code yX3_init cX3_init 1 none ∈ tGd ∧ okM yX3_init 0 := ⟨tGc4 105 rfl rfl, tGc1 14 rfl rfl, tGc4 106 rfl rfl, ⟨by decide +kernel, by decide +kernel, by decide +kernel⟩⟩
theorem mwX8_changesSoFar : Cond.instanceMethod yX8_changesSoFar ∈ tGd ∧ Cond.selects yX8_changesSoFar.cls yX8_changesSoFar yX8_changesSoFar ∈ tGd ∧ Cond.initialized yX8_changesSoFar.cls ∈ tGd ∧ Cond.code yX8_changesSoFar cX8_changesSoFar 1 (some .int) ∈ tGd ∧ okM yX8_changesSoFar 0 := ⟨tGc4 150 rfl rfl, tGc4 151 rfl rfl, tGc1 5 rfl rfl, tGc4 152 rfl rfl, ⟨by decide +kernel, by decide +kernel, by decide +kernel⟩⟩
theorem mwX7_newTop : Cond.instanceMethod yX7_newTop ∈ tGd ∧ Cond.selects yX7_newTop.cls yX7_newTop yX7_newTop ∈ tGd ∧ Cond.initialized yX7_newTop.cls ∈ tGd ∧ Cond.code yX7_newTop cX7_newTop 2 (some (.object "GlassHouse$Frame")) ∈ tGd ∧ okM yX7_newTop 0 := ⟨tGc4 101 rfl rfl, tG_in 14 (by decide +kernel) (by decide +kernel), tGc1 2 rfl rfl, tGc4 102 rfl rfl, ⟨by decide +kernel, by decide +kernel, by decide +kernel⟩⟩
theorem mwX6_lengthOf : Cond.instanceMethod yX6_lengthOf ∈ tGd ∧ Cond.selects yX6_lengthOf.cls yX6_lengthOf yX6_lengthOf ∈ tGd ∧ Cond.initialized yX6_lengthOf.cls ∈ tGd ∧ Cond.code yX6_lengthOf cX6_lengthOf 2 (some .int) ∈ tGd ∧ okM yX6_lengthOf 1 := ⟨tGc4 154 rfl rfl, tGc4 155 rfl rfl, tGc1 4 rfl rfl, tGc4 156 rfl rfl, ⟨by decide +kernel, by decide +kernel, by decide +kernel⟩⟩
theorem mwX8_undoTo : Cond.instanceMethod yX8_undoTo ∈ tGd ∧ Cond.selects yX8_undoTo.cls yX8_undoTo yX8_undoTo ∈ tGd ∧ Cond.initialized yX8_undoTo.cls ∈ tGd ∧ Cond.code yX8_undoTo cX8_undoTo 5 none ∈ tGd ∧ okM yX8_undoTo 1 := ⟨tGc4 171 rfl rfl, tGc4 172 rfl rfl, tGc1 5 rfl rfl, tGc4 173 rfl rfl, ⟨by decide +kernel, by decide +kernel, by decide +kernel⟩⟩
theorem mwX7_undoFaulted : Cond.instanceMethod yX7_undoFaulted ∈ tGd ∧ Cond.selects yX7_undoFaulted.cls yX7_undoFaulted yX7_undoFaulted ∈ tGd ∧ Cond.initialized yX7_undoFaulted.cls ∈ tGd ∧ Cond.code yX7_undoFaulted cX7_undoFaulted 2 none ∈ tGd ∧ okM yX7_undoFaulted 1 := ⟨tGc4 168 rfl rfl, tG_in 17 (by decide +kernel) (by decide +kernel), tGc1 2 rfl rfl, tGc4 169 rfl rfl, ⟨by decide +kernel, by decide +kernel, by decide +kernel⟩⟩
theorem mwX7_counted : Cond.instanceMethod yX7_counted ∈ tGd ∧ Cond.selects yX7_counted.cls yX7_counted yX7_counted ∈ tGd ∧ Cond.initialized yX7_counted.cls ∈ tGd ∧ Cond.code yX7_counted cX7_counted 1 (some .boolean) ∈ tGd ∧ okM yX7_counted 0 := ⟨tGc4 192 rfl rfl, tG_in 20 (by decide +kernel) (by decide +kernel), tGc1 2 rfl rfl, tGc4 193 rfl rfl, ⟨by decide +kernel, by decide +kernel, by decide +kernel⟩⟩
theorem mwX6_endAt : Cond.instanceMethod yX6_endAt ∈ tGd ∧ Cond.selects yX6_endAt.cls yX6_endAt yX6_endAt ∈ tGd ∧ Cond.initialized yX6_endAt.cls ∈ tGd ∧ Cond.code yX6_endAt cX6_endAt 3 (some .int) ∈ tGd ∧ okM yX6_endAt 2 := ⟨tGc4 207 rfl rfl, tGc4 208 rfl rfl, tGc1 4 rfl rfl, tGc4 209 rfl rfl, ⟨by decide +kernel, by decide +kernel, by decide +kernel⟩⟩
theorem mwX6_opAt : Cond.instanceMethod yX6_opAt ∈ tGd ∧ Cond.selects yX6_opAt.cls yX6_opAt yX6_opAt ∈ tGd ∧ Cond.initialized yX6_opAt.cls ∈ tGd ∧ Cond.code yX6_opAt cX6_opAt 3 (some .int) ∈ tGd ∧ okM yX6_opAt 2 := ⟨tGc4 215 rfl rfl, tGc4 216 rfl rfl, tGc1 4 rfl rfl, tGc4 217 rfl rfl, ⟨by decide +kernel, by decide +kernel, by decide +kernel⟩⟩
theorem mwX7_enterPart : Cond.instanceMethod yX7_enterPart ∈ tGd ∧ Cond.selects yX7_enterPart.cls yX7_enterPart yX7_enterPart ∈ tGd ∧ Cond.initialized yX7_enterPart.cls ∈ tGd ∧ Cond.code yX7_enterPart cX7_enterPart 4 none ∈ tGd ∧ okM yX7_enterPart 3 := ⟨tGc4 224 rfl rfl, tG_in 25 (by decide +kernel) (by decide +kernel), tGc1 2 rfl rfl, tGc4 225 rfl rfl, ⟨by decide +kernel, by decide +kernel, by decide +kernel⟩⟩
theorem mwX6_aAt : Cond.instanceMethod yX6_aAt ∈ tGd ∧ Cond.selects yX6_aAt.cls yX6_aAt yX6_aAt ∈ tGd ∧ Cond.initialized yX6_aAt.cls ∈ tGd ∧ Cond.code yX6_aAt cX6_aAt 3 (some .int) ∈ tGd ∧ okM yX6_aAt 2 := ⟨tGc4 219 rfl rfl, tGc4 220 rfl rfl, tGc1 4 rfl rfl, tGc4 221 rfl rfl, ⟨by decide +kernel, by decide +kernel, by decide +kernel⟩⟩
theorem mwX7_entersLast : Cond.instanceMethod yX7_entersLast ∈ tGd ∧ Cond.selects yX7_entersLast.cls yX7_entersLast yX7_entersLast ∈ tGd ∧ Cond.initialized yX7_entersLast.cls ∈ tGd ∧ Cond.code yX7_entersLast cX7_entersLast 4 (some .boolean) ∈ tGd ∧ okM yX7_entersLast 1 := ⟨tGc4 228 rfl rfl, tG_in 26 (by decide +kernel) (by decide +kernel), tGc1 2 rfl rfl, tGc4 229 rfl rfl, ⟨by decide +kernel, by decide +kernel, by decide +kernel⟩⟩
theorem mwX7_meets : Cond.instanceMethod yX7_meets ∈ tGd ∧ Cond.selects yX7_meets.cls yX7_meets yX7_meets ∈ tGd ∧ Cond.initialized yX7_meets.cls ∈ tGd ∧ Cond.code yX7_meets cX7_meets 5 (some .boolean) ∈ tGd ∧ okM yX7_meets 1 := ⟨tGc4 204 rfl rfl, tG_in 23 (by decide +kernel) (by decide +kernel), tGc1 2 rfl rfl, tGc4 205 rfl rfl, ⟨by decide +kernel, by decide +kernel, by decide +kernel⟩⟩
theorem mwX7_settleLast : Cond.instanceMethod yX7_settleLast ∈ tGd ∧ Cond.selects yX7_settleLast.cls yX7_settleLast yX7_settleLast ∈ tGd ∧ Cond.initialized yX7_settleLast.cls ∈ tGd ∧ Cond.code yX7_settleLast cX7_settleLast 3 none ∈ tGd ∧ okM yX7_settleLast 1 := ⟨tGc4 200 rfl rfl, tG_in 22 (by decide +kernel) (by decide +kernel), tGc1 2 rfl rfl, tGc4 201 rfl rfl, ⟨by decide +kernel, by decide +kernel, by decide +kernel⟩⟩
theorem mwX7_top : Cond.instanceMethod yX7_top ∈ tGd ∧ Cond.selects yX7_top.cls yX7_top yX7_top ∈ tGd ∧ Cond.initialized yX7_top.cls ∈ tGd ∧ Cond.code yX7_top cX7_top 1 (some (.object "GlassHouse$Frame")) ∈ tGd ∧ okM yX7_top 0 := ⟨tGc4 160 rfl rfl, tG_in 15 (by decide +kernel) (by decide +kernel), tGc1 2 rfl rfl, tGc4 161 rfl rfl, ⟨by decide +kernel, by decide +kernel, by decide +kernel⟩⟩
theorem mwX8_noteChange : Cond.instanceMethod yX8_noteChange ∈ tGd ∧ Cond.selects yX8_noteChange.cls yX8_noteChange yX8_noteChange ∈ tGd ∧ Cond.initialized yX8_noteChange.cls ∈ tGd ∧ Cond.code yX8_noteChange cX8_noteChange 5 none ∈ tGd ∧ okM yX8_noteChange 3 := ⟨tGc4 184 rfl rfl, tG_in 18 (by decide +kernel) (by decide +kernel), tGc1 5 rfl rfl, tGc4 185 rfl rfl, ⟨by decide +kernel, by decide +kernel, by decide +kernel⟩⟩
theorem mwX7_lookAgain : Cond.instanceMethod yX7_lookAgain ∈ tGd ∧ Cond.selects yX7_lookAgain.cls yX7_lookAgain yX7_lookAgain ∈ tGd ∧ Cond.initialized yX7_lookAgain.cls ∈ tGd ∧ Cond.code yX7_lookAgain cX7_lookAgain 3 none ∈ tGd ∧ okM yX7_lookAgain 1 := ⟨tGc4 232 rfl rfl, tG_in 27 (by decide +kernel) (by decide +kernel), tGc1 2 rfl rfl, tGc4 233 rfl rfl, ⟨by decide +kernel, by decide +kernel, by decide +kernel⟩⟩
theorem mwX7_goesOnTrying : Cond.instanceMethod yX7_goesOnTrying ∈ tGd ∧ Cond.selects yX7_goesOnTrying.cls yX7_goesOnTrying yX7_goesOnTrying ∈ tGd ∧ Cond.initialized yX7_goesOnTrying.cls ∈ tGd ∧ Cond.code yX7_goesOnTrying cX7_goesOnTrying 2 (some .boolean) ∈ tGd ∧ okM yX7_goesOnTrying 1 := ⟨tGc4 196 rfl rfl, tG_in 21 (by decide +kernel) (by decide +kernel), tGc1 2 rfl rfl, tGc4 197 rfl rfl, ⟨by decide +kernel, by decide +kernel, by decide +kernel⟩⟩
theorem mwX7_goesAgain : Cond.instanceMethod yX7_goesAgain ∈ tGd ∧ Cond.selects yX7_goesAgain.cls yX7_goesAgain yX7_goesAgain ∈ tGd ∧ Cond.initialized yX7_goesAgain.cls ∈ tGd ∧ Cond.code yX7_goesAgain cX7_goesAgain 2 (some .boolean) ∈ tGd ∧ okM yX7_goesAgain 1 := ⟨tGc4 188 rfl rfl, tG_in 19 (by decide +kernel) (by decide +kernel), tGc1 2 rfl rfl, tGc4 189 rfl rfl, ⟨by decide +kernel, by decide +kernel, by decide +kernel⟩⟩
theorem mwX8_changeStock : Cond.instanceMethod yX8_changeStock ∈ tGd ∧ Cond.selects yX8_changeStock.cls yX8_changeStock yX8_changeStock ∈ tGd ∧ Cond.initialized yX8_changeStock.cls ∈ tGd ∧ Cond.code yX8_changeStock cX8_changeStock 4 none ∈ tGd ∧ okM yX8_changeStock 2 := ⟨tGc4 179 rfl rfl, tGc4 180 rfl rfl, tGc1 5 rfl rfl, tGc4 181 rfl rfl, ⟨by decide +kernel, by decide +kernel, by decide +kernel⟩⟩
theorem mwX7_arise : Cond.instanceMethod yX7_arise ∈ tGd ∧ Cond.selects yX7_arise.cls yX7_arise yX7_arise ∈ tGd ∧ Cond.initialized yX7_arise.cls ∈ tGd ∧ Cond.code yX7_arise cX7_arise 3 none ∈ tGd ∧ okM yX7_arise 2 := ⟨tGc5 15 rfl rfl, tG_in 30 (by decide +kernel) (by decide +kernel), tGc1 2 rfl rfl, tGc5 16 rfl rfl, ⟨by decide +kernel, by decide +kernel, by decide +kernel⟩⟩
theorem mwX11_isStock : Cond.static yX11_isStock ∈ tGd ∧ Cond.initialized yX11_isStock.cls ∈ tGd ∧ Cond.code yX11_isStock cX11_isStock 1 (some .boolean) ∈ tGd ∧ okM yX11_isStock 1 := ⟨tGc5 6 rfl rfl, tGc1 1 rfl rfl, tGc5 7 rfl rfl, ⟨by decide +kernel, by decide +kernel, by decide +kernel⟩⟩
theorem mwX0_beginAsk : Cond.instanceMethod yX0_beginAsk ∈ tGd ∧ Cond.selects yX0_beginAsk.cls yX0_beginAsk yX0_beginAsk ∈ tGd ∧ Cond.initialized yX0_beginAsk.cls ∈ tGd ∧ Cond.code yX0_beginAsk cX0_beginAsk 1 none ∈ tGd ∧ okM yX0_beginAsk 0 := ⟨tGc3 224 rfl rfl, tGc3 225 rfl rfl, tGc1 3 rfl rfl, tGc3 226 rfl rfl, ⟨by decide +kernel, by decide +kernel, by decide +kernel⟩⟩
theorem mwX0_tell : Cond.instanceMethod yX0_tell ∈ tGd ∧ Cond.selects yX0_tell.cls yX0_tell yX0_tell ∈ tGd ∧ Cond.initialized yX0_tell.cls ∈ tGd ∧ Cond.code yX0_tell cX0_tell 4 (some .int) ∈ tGd ∧ okM yX0_tell 2 := ⟨tGc3 228 rfl rfl, tGc3 229 rfl rfl, tGc1 3 rfl rfl, tGc3 230 rfl rfl, ⟨by decide +kernel, by decide +kernel, by decide +kernel⟩⟩
theorem mwX6_bAt : Cond.instanceMethod yX6_bAt ∈ tGd ∧ Cond.selects yX6_bAt.cls yX6_bAt yX6_bAt ∈ tGd ∧ Cond.initialized yX6_bAt.cls ∈ tGd ∧ Cond.code yX6_bAt cX6_bAt 3 (some .int) ∈ tGd ∧ okM yX6_bAt 2 := ⟨tGc5 18 rfl rfl, tGc5 19 rfl rfl, tGc1 4 rfl rfl, tGc5 20 rfl rfl, ⟨by decide +kernel, by decide +kernel, by decide +kernel⟩⟩
theorem mwX6_cAt : Cond.instanceMethod yX6_cAt ∈ tGd ∧ Cond.selects yX6_cAt.cls yX6_cAt yX6_cAt ∈ tGd ∧ Cond.initialized yX6_cAt.cls ∈ tGd ∧ Cond.code yX6_cAt cX6_cAt 3 (some .int) ∈ tGd ∧ okM yX6_cAt 2 := ⟨tGc5 22 rfl rfl, tGc5 23 rfl rfl, tGc1 4 rfl rfl, tGc5 24 rfl rfl, ⟨by decide +kernel, by decide +kernel, by decide +kernel⟩⟩
theorem mwX7_enterBody : Cond.instanceMethod yX7_enterBody ∈ tGd ∧ Cond.selects yX7_enterBody.cls yX7_enterBody yX7_enterBody ∈ tGd ∧ Cond.initialized yX7_enterBody.cls ∈ tGd ∧ Cond.code yX7_enterBody cX7_enterBody 5 none ∈ tGd ∧ okM yX7_enterBody 3 := ⟨tGc5 64 rfl rfl, tG_in 38 (by decide +kernel) (by decide +kernel), tGc1 2 rfl rfl, tGc5 65 rfl rfl, ⟨by decide +kernel, by decide +kernel, by decide +kernel⟩⟩
theorem mwX8_heldInAll : Cond.instanceMethod yX8_heldInAll ∈ tGd ∧ Cond.selects yX8_heldInAll.cls yX8_heldInAll yX8_heldInAll ∈ tGd ∧ Cond.initialized yX8_heldInAll.cls ∈ tGd ∧ Cond.code yX8_heldInAll cX8_heldInAll 3 (some .int) ∈ tGd ∧ okM yX8_heldInAll 0 := ⟨tGc5 67 rfl rfl, tGc5 68 rfl rfl, tGc1 5 rfl rfl, tGc5 69 rfl rfl, ⟨by decide +kernel, by decide +kernel, by decide +kernel⟩⟩
theorem mwX6_firstWrong : Cond.instanceMethod yX6_firstWrong ∈ tGd ∧ Cond.selects yX6_firstWrong.cls yX6_firstWrong yX6_firstWrong ∈ tGd ∧ Cond.initialized yX6_firstWrong.cls ∈ tGd ∧ Cond.code yX6_firstWrong cX6_firstWrong 7 (some .int) ∈ tGd ∧ okM yX6_firstWrong 1 := ⟨tGc4 80 rfl rfl, tGc4 81 rfl rfl, tGc1 4 rfl rfl, tGc4 82 rfl rfl, ⟨by decide +kernel, by decide +kernel, by decide +kernel⟩⟩
theorem mwX7_enterPlan : Cond.instanceMethod yX7_enterPlan ∈ tGd ∧ Cond.selects yX7_enterPlan.cls yX7_enterPlan yX7_enterPlan ∈ tGd ∧ Cond.initialized yX7_enterPlan.cls ∈ tGd ∧ Cond.code yX7_enterPlan cX7_enterPlan 4 none ∈ tGd ∧ okM yX7_enterPlan 2 := ⟨tGc4 97 rfl rfl, tG_in 13 (by decide +kernel) (by decide +kernel), tGc1 2 rfl rfl, tGc4 98 rfl rfl, ⟨by decide +kernel, by decide +kernel, by decide +kernel⟩⟩
theorem mwX11_isValve : Cond.static yX11_isValve ∈ tGd ∧ Cond.initialized yX11_isValve.cls ∈ tGd ∧ Cond.code yX11_isValve cX11_isValve 1 (some .boolean) ∈ tGd ∧ okM yX11_isValve 1 := ⟨tGc5 10 rfl rfl, tGc1 1 rfl rfl, tGc5 11 rfl rfl, ⟨by decide +kernel, by decide +kernel, by decide +kernel⟩⟩
theorem mwX11_isPlan : Cond.static yX11_isPlan ∈ tGd ∧ Cond.initialized yX11_isPlan.cls ∈ tGd ∧ Cond.code yX11_isPlan cX11_isPlan 1 (some .boolean) ∈ tGd ∧ okM yX11_isPlan 1 := ⟨tGc4 61 rfl rfl, tGc1 1 rfl rfl, tGc4 62 rfl rfl, ⟨by decide +kernel, by decide +kernel, by decide +kernel⟩⟩
theorem mwX11_isBin : Cond.static yX11_isBin ∈ tGd ∧ Cond.initialized yX11_isBin.cls ∈ tGd ∧ Cond.code yX11_isBin cX11_isBin 1 (some .boolean) ∈ tGd ∧ okM yX11_isBin 1 := ⟨tGc2 199 rfl rfl, tGc1 1 rfl rfl, tGc2 200 rfl rfl, ⟨by decide +kernel, by decide +kernel, by decide +kernel⟩⟩
theorem mwX11_goesFor : Cond.static yX11_goesFor ∈ tGd ∧ Cond.initialized yX11_goesFor.cls ∈ tGd ∧ Cond.code yX11_goesFor cX11_goesFor 2 (some .boolean) ∈ tGd ∧ okM yX11_goesFor 2 := ⟨tGc3 81 rfl rfl, tGc1 1 rfl rfl, tGc3 82 rfl rfl, ⟨by decide +kernel, by decide +kernel, by decide +kernel⟩⟩
theorem mwX11_takenFault : Cond.static yX11_takenFault ∈ tGd ∧ Cond.initialized yX11_takenFault.cls ∈ tGd ∧ Cond.code yX11_takenFault cX11_takenFault 2 (some .int) ∈ tGd ∧ okM yX11_takenFault 2 := ⟨tGc3 78 rfl rfl, tGc1 1 rfl rfl, tGc3 79 rfl rfl, ⟨by decide +kernel, by decide +kernel, by decide +kernel⟩⟩
theorem mwX11_cellFault : Cond.static yX11_cellFault ∈ tGd ∧ Cond.initialized yX11_cellFault.cls ∈ tGd ∧ Cond.code yX11_cellFault cX11_cellFault 4 (some .int) ∈ tGd ∧ okM yX11_cellFault 3 := ⟨tGc3 75 rfl rfl, tGc1 1 rfl rfl, tGc3 76 rfl rfl, ⟨by decide +kernel, by decide +kernel, by decide +kernel⟩⟩
theorem mwX8_changeCell : Cond.instanceMethod yX8_changeCell ∈ tGd ∧ Cond.selects yX8_changeCell.cls yX8_changeCell yX8_changeCell ∈ tGd ∧ Cond.initialized yX8_changeCell.cls ∈ tGd ∧ Cond.code yX8_changeCell cX8_changeCell 5 none ∈ tGd ∧ okM yX8_changeCell 3 := ⟨tGc5 35 rfl rfl, tGc5 36 rfl rfl, tGc1 5 rfl rfl, tGc5 37 rfl rfl, ⟨by decide +kernel, by decide +kernel, by decide +kernel⟩⟩
theorem mwX7_firstNumberFits : Cond.static yX7_firstNumberFits ∈ tGd ∧ Cond.initialized yX7_firstNumberFits.cls ∈ tGd ∧ Cond.code yX7_firstNumberFits cX7_firstNumberFits 2 (some .boolean) ∈ tGd ∧ okM yX7_firstNumberFits 2 := ⟨tGc5 3 rfl rfl, tGc1 2 rfl rfl, tGc5 4 rfl rfl, ⟨by decide +kernel, by decide +kernel, by decide +kernel⟩⟩
theorem mwX7_beginBody : Cond.instanceMethod yX7_beginBody ∈ tGd ∧ Cond.selects yX7_beginBody.cls yX7_beginBody yX7_beginBody ∈ tGd ∧ Cond.initialized yX7_beginBody.cls ∈ tGd ∧ Cond.code yX7_beginBody cX7_beginBody 5 none ∈ tGd ∧ okM yX7_beginBody 4 := ⟨tGc5 60 rfl rfl, tG_in 37 (by decide +kernel) (by decide +kernel), tGc1 2 rfl rfl, tGc5 61 rfl rfl, ⟨by decide +kernel, by decide +kernel, by decide +kernel⟩⟩
theorem mwX7_doPlan : Cond.instanceMethod yX7_doPlan ∈ tGd ∧ Cond.selects yX7_doPlan.cls yX7_doPlan yX7_doPlan ∈ tGd ∧ Cond.initialized yX7_doPlan.cls ∈ tGd ∧ Cond.code yX7_doPlan cX7_doPlan 2 none ∈ tGd ∧ okM yX7_doPlan 1 := ⟨tGc5 55 rfl rfl, tG_in 36 (by decide +kernel) (by decide +kernel), tGc1 2 rfl rfl, tGc5 56 rfl rfl, ⟨by decide +kernel, by decide +kernel, by decide +kernel⟩⟩
theorem mwX7_askPlant : Cond.instanceMethod yX7_askPlant ∈ tGd ∧ Cond.selects yX7_askPlant.cls yX7_askPlant yX7_askPlant ∈ tGd ∧ Cond.initialized yX7_askPlant.cls ∈ tGd ∧ Cond.code yX7_askPlant cX7_askPlant 5 none ∈ tGd ∧ okM yX7_askPlant 3 := ⟨tGc5 49 rfl rfl, tG_in 35 (by decide +kernel) (by decide +kernel), tGc1 2 rfl rfl, tGc5 50 rfl rfl, ⟨by decide +kernel, by decide +kernel, by decide +kernel⟩⟩
theorem mwX7_writeCard : Cond.instanceMethod yX7_writeCard ∈ tGd ∧ Cond.selects yX7_writeCard.cls yX7_writeCard yX7_writeCard ∈ tGd ∧ Cond.initialized yX7_writeCard.cls ∈ tGd ∧ Cond.code yX7_writeCard cX7_writeCard 4 none ∈ tGd ∧ okM yX7_writeCard 2 := ⟨tGc5 44 rfl rfl, tG_in 34 (by decide +kernel) (by decide +kernel), tGc1 2 rfl rfl, tGc5 45 rfl rfl, ⟨by decide +kernel, by decide +kernel, by decide +kernel⟩⟩
theorem mwX7_readCell : Cond.instanceMethod yX7_readCell ∈ tGd ∧ Cond.selects yX7_readCell.cls yX7_readCell yX7_readCell ∈ tGd ∧ Cond.initialized yX7_readCell.cls ∈ tGd ∧ Cond.code yX7_readCell cX7_readCell 6 none ∈ tGd ∧ okM yX7_readCell 3 := ⟨tGc5 40 rfl rfl, tG_in 33 (by decide +kernel) (by decide +kernel), tGc1 2 rfl rfl, tGc5 41 rfl rfl, ⟨by decide +kernel, by decide +kernel, by decide +kernel⟩⟩
theorem mwX7_layCell : Cond.instanceMethod yX7_layCell ∈ tGd ∧ Cond.selects yX7_layCell.cls yX7_layCell yX7_layCell ∈ tGd ∧ Cond.initialized yX7_layCell.cls ∈ tGd ∧ Cond.code yX7_layCell cX7_layCell 5 none ∈ tGd ∧ okM yX7_layCell 3 := ⟨tGc5 31 rfl rfl, tG_in 32 (by decide +kernel) (by decide +kernel), tGc1 2 rfl rfl, tGc5 32 rfl rfl, ⟨by decide +kernel, by decide +kernel, by decide +kernel⟩⟩
theorem mwX7_divideStock : Cond.instanceMethod yX7_divideStock ∈ tGd ∧ Cond.selects yX7_divideStock.cls yX7_divideStock yX7_divideStock ∈ tGd ∧ Cond.initialized yX7_divideStock.cls ∈ tGd ∧ Cond.code yX7_divideStock cX7_divideStock 3 none ∈ tGd ∧ okM yX7_divideStock 2 := ⟨tGc5 27 rfl rfl, tG_in 31 (by decide +kernel) (by decide +kernel), tGc1 2 rfl rfl, tGc5 28 rfl rfl, ⟨by decide +kernel, by decide +kernel, by decide +kernel⟩⟩
theorem mwX8_forgetChanges : Cond.instanceMethod yX8_forgetChanges ∈ tGd ∧ Cond.selects yX8_forgetChanges.cls yX8_forgetChanges yX8_forgetChanges ∈ tGd ∧ Cond.initialized yX8_forgetChanges.cls ∈ tGd ∧ Cond.code yX8_forgetChanges cX8_forgetChanges 1 none ∈ tGd ∧ okM yX8_forgetChanges 0 := ⟨tGc4 92 rfl rfl, tGc4 93 rfl rfl, tGc1 5 rfl rfl, tGc4 94 rfl rfl, ⟨by decide +kernel, by decide +kernel, by decide +kernel⟩⟩
theorem mwX7_leave : Cond.instanceMethod yX7_leave ∈ tGd ∧ Cond.selects yX7_leave.cls yX7_leave yX7_leave ∈ tGd ∧ Cond.initialized yX7_leave.cls ∈ tGd ∧ Cond.code yX7_leave cX7_leave 3 none ∈ tGd ∧ okM yX7_leave 1 := ⟨tGc4 164 rfl rfl, tG_in 16 (by decide +kernel) (by decide +kernel), tGc1 2 rfl rfl, tGc4 165 rfl rfl, ⟨by decide +kernel, by decide +kernel, by decide +kernel⟩⟩
theorem mwX7_stepBegins : Cond.instanceMethod yX7_stepBegins ∈ tGd ∧ Cond.selects yX7_stepBegins.cls yX7_stepBegins yX7_stepBegins ∈ tGd ∧ Cond.initialized yX7_stepBegins.cls ∈ tGd ∧ Cond.code yX7_stepBegins cX7_stepBegins 3 (some .boolean) ∈ tGd ∧ okM yX7_stepBegins 1 := ⟨tGc4 236 rfl rfl, tG_in 28 (by decide +kernel) (by decide +kernel), tGc1 2 rfl rfl, tGc4 237 rfl rfl, ⟨by decide +kernel, by decide +kernel, by decide +kernel⟩⟩
theorem mwX7_perform : Cond.instanceMethod yX7_perform ∈ tGd ∧ Cond.selects yX7_perform.cls yX7_perform yX7_perform ∈ tGd ∧ Cond.initialized yX7_perform.cls ∈ tGd ∧ Cond.code yX7_perform cX7_perform 6 none ∈ tGd ∧ okM yX7_perform 3 := ⟨tGc5 0 rfl rfl, tG_in 29 (by decide +kernel) (by decide +kernel), tGc1 2 rfl rfl, tGc5 1 rfl rfl, ⟨by decide +kernel, by decide +kernel, by decide +kernel⟩⟩
theorem mwX7_init : Cond.instanceMethod yX7_init ∈ tGd ∧ Cond.initialized yX7_init.cls ∈ tGd ∧ Cond.code yX7_init cX7_init 1 none ∈ tGd ∧ okM yX7_init 0 := ⟨tGc1 28 rfl rfl, tGc1 2 rfl rfl, tGc1 29 rfl rfl, ⟨by decide +kernel, by decide +kernel, by decide +kernel⟩⟩
theorem mwX4_init : Cond.instanceMethod yX4_init ∈ tGd ∧ Cond.initialized yX4_init.cls ∈ tGd ∧ Cond.code yX4_init cX4_init 2 none ∈ tGd ∧ okM yX4_init 0 := ⟨tGc1 168 rfl rfl, tGc1 6 rfl rfl, tGc1 169 rfl rfl, ⟨by decide +kernel, by decide +kernel, by decide +kernel⟩⟩
theorem mwX2_init : Cond.instanceMethod yX2_init ∈ tGd ∧ Cond.initialized yX2_init.cls ∈ tGd ∧ Cond.code yX2_init cX2_init 1 none ∈ tGd ∧ okM yX2_init 0 := ⟨tGc2 29 rfl rfl, tGc1 8 rfl rfl, tGc2 30 rfl rfl, ⟨by decide +kernel, by decide +kernel, by decide +kernel⟩⟩
theorem mwX5_init : Cond.instanceMethod yX5_init ∈ tGd ∧ Cond.initialized yX5_init.cls ∈ tGd ∧ Cond.code yX5_init cX5_init 1 none ∈ tGd ∧ okM yX5_init 0 := ⟨tGc2 62 rfl rfl, tGc1 9 rfl rfl, tGc2 63 rfl rfl, ⟨by decide +kernel, by decide +kernel, by decide +kernel⟩⟩
theorem mwX1_init : Cond.instanceMethod yX1_init ∈ tGd ∧ Cond.initialized yX1_init.cls ∈ tGd ∧ Cond.code yX1_init cX1_init 1 none ∈ tGd ∧ okM yX1_init 0 := ⟨tGc2 104 rfl rfl, tGc1 10 rfl rfl, tGc2 105 rfl rfl, ⟨by decide +kernel, by decide +kernel, by decide +kernel⟩⟩
theorem mwX10_init : Cond.instanceMethod yX10_init ∈ tGd ∧ Cond.initialized yX10_init.cls ∈ tGd ∧ Cond.code yX10_init cX10_init 4 none ∈ tGd ∧ okM yX10_init 3 := ⟨tGc2 219 rfl rfl, tGc1 12 rfl rfl, tGc2 220 rfl rfl, ⟨by decide +kernel, by decide +kernel, by decide +kernel⟩⟩
theorem mwX11_isLane : Cond.static yX11_isLane ∈ tGd ∧ Cond.initialized yX11_isLane.cls ∈ tGd ∧ Cond.code yX11_isLane cX11_isLane 1 (some .boolean) ∈ tGd ∧ okM yX11_isLane 1 := ⟨tGc2 202 rfl rfl, tGc1 1 rfl rfl, tGc2 203 rfl rfl, ⟨by decide +kernel, by decide +kernel, by decide +kernel⟩⟩
theorem mwX11_isFull : Cond.instanceMethod yX11_isFull ∈ tGd ∧ Cond.selects yX11_isFull.cls yX11_isFull yX11_isFull ∈ tGd ∧ Cond.initialized yX11_isFull.cls ∈ tGd ∧ Cond.code yX11_isFull cX11_isFull 1 (some .boolean) ∈ tGd ∧ okM yX11_isFull 0 := ⟨tGc2 206 rfl rfl, tG_in 0 (by decide +kernel) (by decide +kernel), tGc1 1 rfl rfl, tGc2 207 rfl rfl, ⟨by decide +kernel, by decide +kernel, by decide +kernel⟩⟩
theorem mwX11_newRow : Cond.instanceMethod yX11_newRow ∈ tGd ∧ Cond.selects yX11_newRow.cls yX11_newRow yX11_newRow ∈ tGd ∧ Cond.initialized yX11_newRow.cls ∈ tGd ∧ Cond.code yX11_newRow cX11_newRow 3 (some (.object "GlassHouse$Thing")) ∈ tGd ∧ okM yX11_newRow 2 := ⟨tGc2 214 rfl rfl, tG_in 2 (by decide +kernel) (by decide +kernel), tGc1 1 rfl rfl, tGc2 215 rfl rfl, ⟨by decide +kernel, by decide +kernel, by decide +kernel⟩⟩
theorem mwX11_fail : Cond.instanceMethod yX11_fail ∈ tGd ∧ Cond.selects yX11_fail.cls yX11_fail yX11_fail ∈ tGd ∧ Cond.initialized yX11_fail.cls ∈ tGd ∧ Cond.code yX11_fail cX11_fail 2 (some .int) ∈ tGd ∧ okM yX11_fail 1 := ⟨tGc2 210 rfl rfl, tG_in 1 (by decide +kernel) (by decide +kernel), tGc1 1 rfl rfl, tGc2 211 rfl rfl, ⟨by decide +kernel, by decide +kernel, by decide +kernel⟩⟩
theorem mwX11_isGridForm : Cond.static yX11_isGridForm ∈ tGd ∧ Cond.initialized yX11_isGridForm.cls ∈ tGd ∧ Cond.code yX11_isGridForm cX11_isGridForm 1 (some .boolean) ∈ tGd ∧ okM yX11_isGridForm 1 := ⟨tGc3 27 rfl rfl, tGc1 1 rfl rfl, tGc3 28 rfl rfl, ⟨by decide +kernel, by decide +kernel, by decide +kernel⟩⟩
theorem mwX11_newPlaces : Cond.instanceMethod yX11_newPlaces ∈ tGd ∧ Cond.selects yX11_newPlaces.cls yX11_newPlaces yX11_newPlaces ∈ tGd ∧ Cond.initialized yX11_newPlaces.cls ∈ tGd ∧ Cond.code yX11_newPlaces cX11_newPlaces 3 (some (.object "GlassHouse$Thing")) ∈ tGd ∧ okM yX11_newPlaces 2 := ⟨tGc3 31 rfl rfl, tG_in 3 (by decide +kernel) (by decide +kernel), tGc1 1 rfl rfl, tGc3 32 rfl rfl, ⟨by decide +kernel, by decide +kernel, by decide +kernel⟩⟩
theorem mwX11_laneOfGrid : Cond.static yX11_laneOfGrid ∈ tGd ∧ Cond.initialized yX11_laneOfGrid.cls ∈ tGd ∧ Cond.code yX11_laneOfGrid cX11_laneOfGrid 1 (some .int) ∈ tGd ∧ okM yX11_laneOfGrid 1 := ⟨tGc3 36 rfl rfl, tGc1 1 rfl rfl, tGc3 37 rfl rfl, ⟨by decide +kernel, by decide +kernel, by decide +kernel⟩⟩
theorem mwX11_intoBin : Cond.instanceMethod yX11_intoBin ∈ tGd ∧ Cond.selects yX11_intoBin.cls yX11_intoBin yX11_intoBin ∈ tGd ∧ Cond.initialized yX11_intoBin.cls ∈ tGd ∧ Cond.code yX11_intoBin cX11_intoBin 4 (some .int) ∈ tGd ∧ okM yX11_intoBin 3 := ⟨tGc3 44 rfl rfl, tG_in 4 (by decide +kernel) (by decide +kernel), tGc1 1 rfl rfl, tGc3 45 rfl rfl, ⟨by decide +kernel, by decide +kernel, by decide +kernel⟩⟩
theorem mwX11_isForm : Cond.static yX11_isForm ∈ tGd ∧ Cond.initialized yX11_isForm.cls ∈ tGd ∧ Cond.code yX11_isForm cX11_isForm 1 (some .boolean) ∈ tGd ∧ okM yX11_isForm 1 := ⟨tGc3 59 rfl rfl, tGc1 1 rfl rfl, tGc3 60 rfl rfl, ⟨by decide +kernel, by decide +kernel, by decide +kernel⟩⟩
theorem mwX11_isTrayForm : Cond.static yX11_isTrayForm ∈ tGd ∧ Cond.initialized yX11_isTrayForm.cls ∈ tGd ∧ Cond.code yX11_isTrayForm cX11_isTrayForm 1 (some .boolean) ∈ tGd ∧ okM yX11_isTrayForm 1 := ⟨tGc3 62 rfl rfl, tGc1 1 rfl rfl, tGc3 63 rfl rfl, ⟨by decide +kernel, by decide +kernel, by decide +kernel⟩⟩
theorem mwX11_trayTakes : Cond.static yX11_trayTakes ∈ tGd ∧ Cond.initialized yX11_trayTakes.cls ∈ tGd ∧ Cond.code yX11_trayTakes cX11_trayTakes 2 (some .boolean) ∈ tGd ∧ okM yX11_trayTakes 2 := ⟨tGc3 65 rfl rfl, tGc1 1 rfl rfl, tGc3 66 rfl rfl, ⟨by decide +kernel, by decide +kernel, by decide +kernel⟩⟩
theorem mwX11_placeFault : Cond.static yX11_placeFault ∈ tGd ∧ Cond.initialized yX11_placeFault.cls ∈ tGd ∧ Cond.code yX11_placeFault cX11_placeFault 4 (some .int) ∈ tGd ∧ okM yX11_placeFault 3 := ⟨tGc3 108 rfl rfl, tGc1 1 rfl rfl, tGc3 109 rfl rfl, ⟨by decide +kernel, by decide +kernel, by decide +kernel⟩⟩
theorem mwX11_placeOf : Cond.static yX11_placeOf ∈ tGd ∧ Cond.initialized yX11_placeOf.cls ∈ tGd ∧ Cond.code yX11_placeOf cX11_placeOf 2 (some (.object "GlassHouse$Thing")) ∈ tGd ∧ okM yX11_placeOf 2 := ⟨tGc3 111 rfl rfl, tGc1 1 rfl rfl, tGc3 112 rfl rfl, ⟨by decide +kernel, by decide +kernel, by decide +kernel⟩⟩
theorem mwX11_bayAt : Cond.static yX11_bayAt ∈ tGd ∧ Cond.initialized yX11_bayAt.cls ∈ tGd ∧ Cond.code yX11_bayAt cX11_bayAt 3 (some (.object "GlassHouse$Thing")) ∈ tGd ∧ okM yX11_bayAt 3 := ⟨tGc3 105 rfl rfl, tGc1 1 rfl rfl, tGc3 106 rfl rfl, ⟨by decide +kernel, by decide +kernel, by decide +kernel⟩⟩
theorem mwX11_bayFault : Cond.static yX11_bayFault ∈ tGd ∧ Cond.initialized yX11_bayFault.cls ∈ tGd ∧ Cond.code yX11_bayFault cX11_bayFault 5 (some .int) ∈ tGd ∧ okM yX11_bayFault 4 := ⟨tGc3 114 rfl rfl, tGc1 1 rfl rfl, tGc3 115 rfl rfl, ⟨by decide +kernel, by decide +kernel, by decide +kernel⟩⟩
theorem mwX11_isPlacesForm : Cond.static yX11_isPlacesForm ∈ tGd ∧ Cond.initialized yX11_isPlacesForm.cls ∈ tGd ∧ Cond.code yX11_isPlacesForm cX11_isPlacesForm 1 (some .boolean) ∈ tGd ∧ okM yX11_isPlacesForm 1 := ⟨tGc3 132 rfl rfl, tGc1 1 rfl rfl, tGc3 133 rfl rfl, ⟨by decide +kernel, by decide +kernel, by decide +kernel⟩⟩
theorem mwX11_placesFault : Cond.static yX11_placesFault ∈ tGd ∧ Cond.initialized yX11_placesFault.cls ∈ tGd ∧ Cond.code yX11_placesFault cX11_placesFault 2 (some .int) ∈ tGd ∧ okM yX11_placesFault 2 := ⟨tGc3 129 rfl rfl, tGc1 1 rfl rfl, tGc3 130 rfl rfl, ⟨by decide +kernel, by decide +kernel, by decide +kernel⟩⟩
theorem mwX11_takes : Cond.static yX11_takes ∈ tGd ∧ Cond.initialized yX11_takes.cls ∈ tGd ∧ Cond.code yX11_takes cX11_takes 2 (some .boolean) ∈ tGd ∧ okM yX11_takes 2 := ⟨tGc3 135 rfl rfl, tGc1 1 rfl rfl, tGc3 136 rfl rfl, ⟨by decide +kernel, by decide +kernel, by decide +kernel⟩⟩
theorem mwX11_spanFits : Cond.static yX11_spanFits ∈ tGd ∧ Cond.initialized yX11_spanFits.cls ∈ tGd ∧ Cond.code yX11_spanFits cX11_spanFits 3 (some .boolean) ∈ tGd ∧ okM yX11_spanFits 3 := ⟨tGc3 160 rfl rfl, tGc1 1 rfl rfl, tGc3 161 rfl rfl, ⟨by decide +kernel, by decide +kernel, by decide +kernel⟩⟩
theorem mwX11_isRow : Cond.static yX11_isRow ∈ tGd ∧ Cond.initialized yX11_isRow.cls ∈ tGd ∧ Cond.code yX11_isRow cX11_isRow 1 (some .boolean) ∈ tGd ∧ okM yX11_isRow 1 := ⟨tGc3 153 rfl rfl, tGc1 1 rfl rfl, tGc3 154 rfl rfl, ⟨by decide +kernel, by decide +kernel, by decide +kernel⟩⟩
theorem mwX11_shiftable : Cond.static yX11_shiftable ∈ tGd ∧ Cond.initialized yX11_shiftable.cls ∈ tGd ∧ Cond.code yX11_shiftable cX11_shiftable 2 (some .boolean) ∈ tGd ∧ okM yX11_shiftable 2 := ⟨tGc3 150 rfl rfl, tGc1 1 rfl rfl, tGc3 151 rfl rfl, ⟨by decide +kernel, by decide +kernel, by decide +kernel⟩⟩
theorem mwX10_length : Cond.instanceMethod yX10_length ∈ tGd ∧ Cond.selects yX10_length.cls yX10_length yX10_length ∈ tGd ∧ Cond.initialized yX10_length.cls ∈ tGd ∧ Cond.code yX10_length cX10_length 1 (some .int) ∈ tGd ∧ okM yX10_length 0 := ⟨tGc3 156 rfl rfl, tGc3 157 rfl rfl, tGc1 12 rfl rfl, tGc3 158 rfl rfl, ⟨by decide +kernel, by decide +kernel, by decide +kernel⟩⟩
theorem mwX11_leadTaken : Cond.static yX11_leadTaken ∈ tGd ∧ Cond.initialized yX11_leadTaken.cls ∈ tGd ∧ Cond.code yX11_leadTaken cX11_leadTaken 5 (some .int) ∈ tGd ∧ okM yX11_leadTaken 4 := ⟨tGc3 166 rfl rfl, tGc1 1 rfl rfl, tGc3 167 rfl rfl, ⟨by decide +kernel, by decide +kernel, by decide +kernel⟩⟩
theorem mwX11_movePlaces : Cond.static yX11_movePlaces ∈ tGd ∧ Cond.initialized yX11_movePlaces.cls ∈ tGd ∧ Cond.code yX11_movePlaces cX11_movePlaces 7 none ∈ tGd ∧ okM yX11_movePlaces 5 := ⟨tGc3 169 rfl rfl, tGc1 1 rfl rfl, tGc3 170 rfl rfl, ⟨by decide +kernel, by decide +kernel, by decide +kernel⟩⟩
theorem mwX11_moveCells : Cond.static yX11_moveCells ∈ tGd ∧ Cond.initialized yX11_moveCells.cls ∈ tGd ∧ Cond.code yX11_moveCells cX11_moveCells 7 none ∈ tGd ∧ okM yX11_moveCells 5 := ⟨tGc3 163 rfl rfl, tGc1 1 rfl rfl, tGc3 164 rfl rfl, ⟨by decide +kernel, by decide +kernel, by decide +kernel⟩⟩
theorem mwX11_copied : Cond.instanceMethod yX11_copied ∈ tGd ∧ Cond.selects yX11_copied.cls yX11_copied yX11_copied ∈ tGd ∧ Cond.initialized yX11_copied.cls ∈ tGd ∧ Cond.code yX11_copied cX11_copied 6 (some (.object "GlassHouse$Thing")) ∈ tGd ∧ okM yX11_copied 3 := ⟨tGc3 181 rfl rfl, tG_in 5 (by decide +kernel) (by decide +kernel), tGc1 1 rfl rfl, tGc3 182 rfl rfl, ⟨by decide +kernel, by decide +kernel, by decide +kernel⟩⟩
theorem mwX11_newCard : Cond.instanceMethod yX11_newCard ∈ tGd ∧ Cond.selects yX11_newCard.cls yX11_newCard yX11_newCard ∈ tGd ∧ Cond.initialized yX11_newCard.cls ∈ tGd ∧ Cond.code yX11_newCard cX11_newCard 2 (some (.object "GlassHouse$Thing")) ∈ tGd ∧ okM yX11_newCard 0 := ⟨tGc3 185 rfl rfl, tG_in 6 (by decide +kernel) (by decide +kernel), tGc1 1 rfl rfl, tGc3 186 rfl rfl, ⟨by decide +kernel, by decide +kernel, by decide +kernel⟩⟩
theorem mwX11_equalCells : Cond.static yX11_equalCells ∈ tGd ∧ Cond.initialized yX11_equalCells.cls ∈ tGd ∧ Cond.code yX11_equalCells cX11_equalCells 3 (some .boolean) ∈ tGd ∧ okM yX11_equalCells 2 := ⟨tGc3 195 rfl rfl, tGc1 1 rfl rfl, tGc3 196 rfl rfl, ⟨by decide +kernel, by decide +kernel, by decide +kernel⟩⟩
theorem mwX11_equalThings : Cond.static yX11_equalThings ∈ tGd ∧ Cond.initialized yX11_equalThings.cls ∈ tGd ∧ Cond.code yX11_equalThings cX11_equalThings 5 (some .boolean) ∈ tGd ∧ okM yX11_equalThings 3 := ⟨tGc3 192 rfl rfl, tGc1 1 rfl rfl, tGc3 193 rfl rfl, ⟨by decide +kernel, by decide +kernel, by decide +kernel⟩⟩
theorem mwX10_emptyPlaces : Cond.instanceMethod yX10_emptyPlaces ∈ tGd ∧ Cond.selects yX10_emptyPlaces.cls yX10_emptyPlaces yX10_emptyPlaces ∈ tGd ∧ Cond.initialized yX10_emptyPlaces.cls ∈ tGd ∧ Cond.code yX10_emptyPlaces cX10_emptyPlaces 3 (some .int) ∈ tGd ∧ okM yX10_emptyPlaces 0 := ⟨tGc3 202 rfl rfl, tGc3 203 rfl rfl, tGc1 12 rfl rfl, tGc3 204 rfl rfl, ⟨by decide +kernel, by decide +kernel, by decide +kernel⟩⟩
theorem mwX11_depthOf : Cond.static yX11_depthOf ∈ tGd ∧ Cond.initialized yX11_depthOf.cls ∈ tGd ∧ Cond.code yX11_depthOf cX11_depthOf 1 (some .int) ∈ tGd ∧ okM yX11_depthOf 1 := ⟨tGc3 210 rfl rfl, tGc1 1 rfl rfl, tGc3 211 rfl rfl, ⟨by decide +kernel, by decide +kernel, by decide +kernel⟩⟩
theorem mwX0_traceAt : Cond.instanceMethod yX0_traceAt ∈ tGd ∧ Cond.selects yX0_traceAt.cls yX0_traceAt yX0_traceAt ∈ tGd ∧ Cond.initialized yX0_traceAt.cls ∈ tGd ∧ Cond.code yX0_traceAt cX0_traceAt 2 (some .int) ∈ tGd ∧ okM yX0_traceAt 1 := ⟨tGc4 28 rfl rfl, tGc4 29 rfl rfl, tGc1 3 rfl rfl, tGc4 30 rfl rfl, ⟨by decide +kernel, by decide +kernel, by decide +kernel⟩⟩
theorem mwX6_added : Cond.instanceMethod yX6_added ∈ tGd ∧ Cond.selects yX6_added.cls yX6_added yX6_added ∈ tGd ∧ Cond.initialized yX6_added.cls ∈ tGd ∧ Cond.code yX6_added cX6_added 8 (some .int) ∈ tGd ∧ okM yX6_added 5 := ⟨tGc4 64 rfl rfl, tGc4 65 rfl rfl, tGc1 4 rfl rfl, tGc4 66 rfl rfl, ⟨by decide +kernel, by decide +kernel, by decide +kernel⟩⟩
theorem mwX6_emptied : Cond.instanceMethod yX6_emptied ∈ tGd ∧ Cond.selects yX6_emptied.cls yX6_emptied yX6_emptied ∈ tGd ∧ Cond.initialized yX6_emptied.cls ∈ tGd ∧ Cond.code yX6_emptied cX6_emptied 3 (some .int) ∈ tGd ∧ okM yX6_emptied 1 := ⟨tGc4 72 rfl rfl, tGc4 73 rfl rfl, tGc1 4 rfl rfl, tGc4 74 rfl rfl, ⟨by decide +kernel, by decide +kernel, by decide +kernel⟩⟩
theorem mwX7_wholeRun : Cond.instanceMethod yX7_wholeRun ∈ tGd ∧ Cond.selects yX7_wholeRun.cls yX7_wholeRun yX7_wholeRun ∈ tGd ∧ Cond.initialized yX7_wholeRun.cls ∈ tGd ∧ Cond.code yX7_wholeRun cX7_wholeRun 4 (some .int) ∈ tGd ∧ okM yX7_wholeRun 1 := ⟨tGc4 88 rfl rfl, tGc4 89 rfl rfl, tGc1 2 rfl rfl, tGc4 90 rfl rfl, ⟨by decide +kernel, by decide +kernel, by decide +kernel⟩⟩
theorem mwX7_toldOf : Cond.instanceMethod yX7_toldOf ∈ tGd ∧ Cond.selects yX7_toldOf.cls yX7_toldOf yX7_toldOf ∈ tGd ∧ Cond.initialized yX7_toldOf.cls ∈ tGd ∧ Cond.code yX7_toldOf cX7_toldOf 3 (some .int) ∈ tGd ∧ okM yX7_toldOf 1 := ⟨tGc5 72 rfl rfl, tGc5 73 rfl rfl, tGc1 2 rfl rfl, tGc5 74 rfl rfl, ⟨by decide +kernel, by decide +kernel, by decide +kernel⟩⟩
theorem mwX7_faultOut : Cond.instanceMethod yX7_faultOut ∈ tGd ∧ Cond.selects yX7_faultOut.cls yX7_faultOut yX7_faultOut ∈ tGd ∧ Cond.initialized yX7_faultOut.cls ∈ tGd ∧ Cond.code yX7_faultOut cX7_faultOut 1 (some .int) ∈ tGd ∧ okM yX7_faultOut 0 := ⟨tGc5 76 rfl rfl, tGc5 77 rfl rfl, tGc1 2 rfl rfl, tGc5 78 rfl rfl, ⟨by decide +kernel, by decide +kernel, by decide +kernel⟩⟩
theorem mwX11_isTable : Cond.static yX11_isTable ∈ tGd ∧ Cond.initialized yX11_isTable.cls ∈ tGd ∧ Cond.code yX11_isTable cX11_isTable 1 (some .boolean) ∈ tGd ∧ okM yX11_isTable 1 := ⟨tGc5 102 rfl rfl, tGc1 1 rfl rfl, tGc5 103 rfl rfl, ⟨by decide +kernel, by decide +kernel, by decide +kernel⟩⟩
theorem mwX9_lineAdded : Cond.instanceMethod yX9_lineAdded ∈ tGd ∧ Cond.selects yX9_lineAdded.cls yX9_lineAdded yX9_lineAdded ∈ tGd ∧ Cond.initialized yX9_lineAdded.cls ∈ tGd ∧ Cond.code yX9_lineAdded cX9_lineAdded 5 (some .int) ∈ tGd ∧ okM yX9_lineAdded 3 := ⟨tGc5 105 rfl rfl, tGc5 106 rfl rfl, tGc1 7 rfl rfl, tGc5 107 rfl rfl, ⟨by decide +kernel, by decide +kernel, by decide +kernel⟩⟩
theorem mwX9_rested : Cond.instanceMethod yX9_rested ∈ tGd ∧ Cond.selects yX9_rested.cls yX9_rested yX9_rested ∈ tGd ∧ Cond.initialized yX9_rested.cls ∈ tGd ∧ Cond.code yX9_rested cX9_rested 3 (some .int) ∈ tGd ∧ okM yX9_rested 2 := ⟨tGc5 115 rfl rfl, tGc5 116 rfl rfl, tGc1 7 rfl rfl, tGc5 117 rfl rfl, ⟨by decide +kernel, by decide +kernel, by decide +kernel⟩⟩
theorem mwX9_laidAt : Cond.instanceMethod yX9_laidAt ∈ tGd ∧ Cond.selects yX9_laidAt.cls yX9_laidAt yX9_laidAt ∈ tGd ∧ Cond.initialized yX9_laidAt.cls ∈ tGd ∧ Cond.code yX9_laidAt cX9_laidAt 2 (some .int) ∈ tGd ∧ okM yX9_laidAt 1 := ⟨tGc5 142 rfl rfl, tGc5 143 rfl rfl, tGc1 7 rfl rfl, tGc5 144 rfl rfl, ⟨by decide +kernel, by decide +kernel, by decide +kernel⟩⟩
theorem mwX11_isProbe : Cond.static yX11_isProbe ∈ tGd ∧ Cond.initialized yX11_isProbe.cls ∈ tGd ∧ Cond.code yX11_isProbe cX11_isProbe 1 (some .boolean) ∈ tGd ∧ okM yX11_isProbe 1 := ⟨tGc5 150 rfl rfl, tGc1 1 rfl rfl, tGc5 151 rfl rfl, ⟨by decide +kernel, by decide +kernel, by decide +kernel⟩⟩
theorem mwX4_takeReading : Cond.instanceMethod yX4_takeReading ∈ tGd ∧ Cond.selects yX4_takeReading.cls yX4_takeReading yX4_takeReading ∈ tGd ∧ Cond.initialized yX4_takeReading.cls ∈ tGd ∧ Cond.code yX4_takeReading cX4_takeReading 4 none ∈ tGd ∧ okM yX4_takeReading 2 := ⟨tGc5 153 rfl rfl, tGc5 154 rfl rfl, tGc1 6 rfl rfl, tGc5 155 rfl rfl, ⟨by decide +kernel, by decide +kernel, by decide +kernel⟩⟩
theorem mwX11_isHouse : Cond.static yX11_isHouse ∈ tGd ∧ Cond.initialized yX11_isHouse.cls ∈ tGd ∧ Cond.code yX11_isHouse cX11_isHouse 1 (some .boolean) ∈ tGd ∧ okM yX11_isHouse 1 := ⟨tGc5 182 rfl rfl, tGc1 1 rfl rfl, tGc5 183 rfl rfl, ⟨by decide +kernel, by decide +kernel, by decide +kernel⟩⟩
theorem mwX4_newWeather : Cond.instanceMethod yX4_newWeather ∈ tGd ∧ Cond.selects yX4_newWeather.cls yX4_newWeather yX4_newWeather ∈ tGd ∧ Cond.initialized yX4_newWeather.cls ∈ tGd ∧ Cond.code yX4_newWeather cX4_newWeather 4 (some .int) ∈ tGd ∧ okM yX4_newWeather 2 := ⟨tGc5 189 rfl rfl, tGc5 190 rfl rfl, tGc1 6 rfl rfl, tGc5 191 rfl rfl, ⟨by decide +kernel, by decide +kernel, by decide +kernel⟩⟩
theorem mwX4_markAdded : Cond.instanceMethod yX4_markAdded ∈ tGd ∧ Cond.selects yX4_markAdded.cls yX4_markAdded yX4_markAdded ∈ tGd ∧ Cond.initialized yX4_markAdded.cls ∈ tGd ∧ Cond.code yX4_markAdded cX4_markAdded 5 (some .int) ∈ tGd ∧ okM yX4_markAdded 3 := ⟨tGc5 202 rfl rfl, tGc5 203 rfl rfl, tGc1 6 rfl rfl, tGc5 204 rfl rfl, ⟨by decide +kernel, by decide +kernel, by decide +kernel⟩⟩
theorem mwX4_marksGone : Cond.instanceMethod yX4_marksGone ∈ tGd ∧ Cond.selects yX4_marksGone.cls yX4_marksGone yX4_marksGone ∈ tGd ∧ Cond.initialized yX4_marksGone.cls ∈ tGd ∧ Cond.code yX4_marksGone cX4_marksGone 3 (some .int) ∈ tGd ∧ okM yX4_marksGone 1 := ⟨tGc5 212 rfl rfl, tGc5 213 rfl rfl, tGc1 6 rfl rfl, tGc5 214 rfl rfl, ⟨by decide +kernel, by decide +kernel, by decide +kernel⟩⟩
theorem mwX4_passMinute : Cond.instanceMethod yX4_passMinute ∈ tGd ∧ Cond.selects yX4_passMinute.cls yX4_passMinute yX4_passMinute ∈ tGd ∧ Cond.initialized yX4_passMinute.cls ∈ tGd ∧ Cond.code yX4_passMinute cX4_passMinute 2 none ∈ tGd ∧ okM yX4_passMinute 0 := ⟨tGc5 236 rfl rfl, tGc5 237 rfl rfl, tGc1 6 rfl rfl, tGc5 238 rfl rfl, ⟨by decide +kernel, by decide +kernel, by decide +kernel⟩⟩
theorem mwX11_canShare : Cond.static yX11_canShare ∈ tGd ∧ Cond.initialized yX11_canShare.cls ∈ tGd ∧ Cond.code yX11_canShare cX11_canShare 4 (some .boolean) ∈ tGd ∧ okM yX11_canShare 1 := ⟨tGc6 112 rfl rfl, tGc1 1 rfl rfl, tGc6 113 rfl rfl, ⟨by decide +kernel, by decide +kernel, by decide +kernel⟩⟩
theorem mwXN_nlzI : Cond.static yXN_nlzI ∈ tGd ∧ Cond.initialized yXN_nlzI.cls ∈ tGd ∧ Cond.code yXN_nlzI cXN_nlzI 2 (some .int) ∈ tGd ∧ okM yXN_nlzI 1 := ⟨tGc6 140 rfl rfl, tGc1 16 rfl rfl, tGc6 141 rfl rfl, ⟨by decide +kernel, by decide +kernel, by decide +kernel⟩⟩
theorem mwXN_nlzL : Cond.static yXN_nlzL ∈ tGd ∧ Cond.initialized yXN_nlzL.cls ∈ tGd ∧ Cond.code yXN_nlzL cXN_nlzL 3 (some .int) ∈ tGd ∧ okM yXN_nlzL 1 := ⟨tGc6 137 rfl rfl, tGc1 15 rfl rfl, tGc6 138 rfl rfl, ⟨by decide +kernel, by decide +kernel, by decide +kernel⟩⟩
theorem mwX11_widened : Cond.static yX11_widened ∈ tGd ∧ Cond.initialized yX11_widened.cls ∈ tGd ∧ Cond.code yX11_widened cX11_widened 9 (some .long) ∈ tGd ∧ okM yX11_widened 1 := ⟨tGc6 130 rfl rfl, tGc1 1 rfl rfl, tGc6 131 rfl rfl, ⟨by decide +kernel, by decide +kernel, by decide +kernel⟩⟩
theorem mwX11_doubleBits : Cond.static yX11_doubleBits ∈ tGd ∧ Cond.initialized yX11_doubleBits.cls ∈ tGd ∧ Cond.code yX11_doubleBits cX11_doubleBits 3 (some .long) ∈ tGd ∧ okM yX11_doubleBits 2 := ⟨tGc6 127 rfl rfl, tGc1 1 rfl rfl, tGc6 128 rfl rfl, ⟨by decide +kernel, by decide +kernel, by decide +kernel⟩⟩
theorem mwX11_flagsOf : Cond.static yX11_flagsOf ∈ tGd ∧ Cond.initialized yX11_flagsOf.cls ∈ tGd ∧ Cond.code yX11_flagsOf cX11_flagsOf 8 (some .int) ∈ tGd ∧ okM yX11_flagsOf 2 := ⟨tGc6 145 rfl rfl, tGc1 1 rfl rfl, tGc6 146 rfl rfl, ⟨by decide +kernel, by decide +kernel, by decide +kernel⟩⟩
theorem mwX11_isEndless : Cond.static yX11_isEndless ∈ tGd ∧ Cond.initialized yX11_isEndless.cls ∈ tGd ∧ Cond.code yX11_isEndless cX11_isEndless 2 (some .boolean) ∈ tGd ∧ okM yX11_isEndless 1 := ⟨tGc6 160 rfl rfl, tGc1 1 rfl rfl, tGc6 161 rfl rfl, ⟨by decide +kernel, by decide +kernel, by decide +kernel⟩⟩
theorem mwX11_bitsOf : Cond.static yX11_bitsOf ∈ tGd ∧ Cond.initialized yX11_bitsOf.cls ∈ tGd ∧ Cond.code yX11_bitsOf cX11_bitsOf 7 (some .long) ∈ tGd ∧ okM yX11_bitsOf 1 := ⟨tGc6 163 rfl rfl, tGc1 1 rfl rfl, tGc6 164 rfl rfl, ⟨by decide +kernel, by decide +kernel, by decide +kernel⟩⟩
theorem mwX11_gatherNumbers : Cond.instanceMethod yX11_gatherNumbers ∈ tGd ∧ Cond.selects yX11_gatherNumbers.cls yX11_gatherNumbers yX11_gatherNumbers ∈ tGd ∧ Cond.initialized yX11_gatherNumbers.cls ∈ tGd ∧ Cond.code yX11_gatherNumbers cX11_gatherNumbers 7 (some .int) ∈ tGd ∧ okM yX11_gatherNumbers 2 := ⟨tGc6 153 rfl rfl, tG_in 54 (by decide +kernel) (by decide +kernel), tGc1 1 rfl rfl, tGc6 154 rfl rfl, ⟨by decide +kernel, by decide +kernel, by decide +kernel⟩⟩
theorem mwX11_meanBits : Cond.instanceMethod yX11_meanBits ∈ tGd ∧ Cond.selects yX11_meanBits.cls yX11_meanBits yX11_meanBits ∈ tGd ∧ Cond.initialized yX11_meanBits.cls ∈ tGd ∧ Cond.code yX11_meanBits cX11_meanBits 7 (some .long) ∈ tGd ∧ okM yX11_meanBits 1 := ⟨tGc6 157 rfl rfl, tG_in 55 (by decide +kernel) (by decide +kernel), tGc1 1 rfl rfl, tGc6 158 rfl rfl, ⟨by decide +kernel, by decide +kernel, by decide +kernel⟩⟩
theorem mwX2_becomes : Cond.instanceMethod yX2_becomes ∈ tGd ∧ Cond.selects yX2_becomes.cls yX2_becomes yX2_becomes ∈ tGd ∧ Cond.initialized yX2_becomes.cls ∈ tGd ∧ Cond.code yX2_becomes cX2_becomes 5 (some .int) ∈ tGd ∧ okM yX2_becomes 3 := ⟨tGc6 176 rfl rfl, tGc6 177 rfl rfl, tGc1 8 rfl rfl, tGc6 178 rfl rfl, ⟨by decide +kernel, by decide +kernel, by decide +kernel⟩⟩
theorem mwX2_solved : Cond.instanceMethod yX2_solved ∈ tGd ∧ Cond.selects yX2_solved.cls yX2_solved yX2_solved ∈ tGd ∧ Cond.initialized yX2_solved.cls ∈ tGd ∧ Cond.code yX2_solved cX2_solved 2 (some .int) ∈ tGd ∧ okM yX2_solved 0 := ⟨tGc6 184 rfl rfl, tGc6 185 rfl rfl, tGc1 8 rfl rfl, tGc6 186 rfl rfl, ⟨by decide +kernel, by decide +kernel, by decide +kernel⟩⟩
theorem mwX2_outcome : Cond.instanceMethod yX2_outcome ∈ tGd ∧ Cond.selects yX2_outcome.cls yX2_outcome yX2_outcome ∈ tGd ∧ Cond.initialized yX2_outcome.cls ∈ tGd ∧ Cond.code yX2_outcome cX2_outcome 3 (some .long) ∈ tGd ∧ okM yX2_outcome 2 := ⟨tGc6 236 rfl rfl, tGc6 237 rfl rfl, tGc1 8 rfl rfl, tGc6 238 rfl rfl, ⟨by decide +kernel, by decide +kernel, by decide +kernel⟩⟩
theorem mwX11_isPest : Cond.static yX11_isPest ∈ tGd ∧ Cond.initialized yX11_isPest.cls ∈ tGd ∧ Cond.code yX11_isPest cX11_isPest 1 (some .boolean) ∈ tGd ∧ okM yX11_isPest 1 := ⟨tGc7 4 rfl rfl, tGc1 1 rfl rfl, tGc7 5 rfl rfl, ⟨by decide +kernel, by decide +kernel, by decide +kernel⟩⟩
theorem mwX11_isStage : Cond.static yX11_isStage ∈ tGd ∧ Cond.initialized yX11_isStage.cls ∈ tGd ∧ Cond.code yX11_isStage cX11_isStage 1 (some .boolean) ∈ tGd ∧ okM yX11_isStage 1 := ⟨tGc7 7 rfl rfl, tGc1 1 rfl rfl, tGc7 8 rfl rfl, ⟨by decide +kernel, by decide +kernel, by decide +kernel⟩⟩
theorem mwX11_isPart : Cond.static yX11_isPart ∈ tGd ∧ Cond.initialized yX11_isPart.cls ∈ tGd ∧ Cond.code yX11_isPart cX11_isPart 1 (some .boolean) ∈ tGd ∧ okM yX11_isPart 1 := ⟨tGc7 15 rfl rfl, tGc1 1 rfl rfl, tGc7 16 rfl rfl, ⟨by decide +kernel, by decide +kernel, by decide +kernel⟩⟩
theorem mwX5_setParts : Cond.instanceMethod yX5_setParts ∈ tGd ∧ Cond.selects yX5_setParts.cls yX5_setParts yX5_setParts ∈ tGd ∧ Cond.initialized yX5_setParts.cls ∈ tGd ∧ Cond.code yX5_setParts cX5_setParts 6 none ∈ tGd ∧ okM yX5_setParts 5 := ⟨tGc7 18 rfl rfl, tGc7 19 rfl rfl, tGc1 9 rfl rfl, tGc7 20 rfl rfl, ⟨by decide +kernel, by decide +kernel, by decide +kernel⟩⟩
theorem mwX5_passDay : Cond.instanceMethod yX5_passDay ∈ tGd ∧ Cond.selects yX5_passDay.cls yX5_passDay yX5_passDay ∈ tGd ∧ Cond.initialized yX5_passDay.cls ∈ tGd ∧ Cond.code yX5_passDay cX5_passDay 2 none ∈ tGd ∧ okM yX5_passDay 0 := ⟨tGc7 26 rfl rfl, tGc7 27 rfl rfl, tGc1 9 rfl rfl, tGc7 28 rfl rfl, ⟨by decide +kernel, by decide +kernel, by decide +kernel⟩⟩
theorem mwX5_lessen : Cond.instanceMethod yX5_lessen ∈ tGd ∧ Cond.selects yX5_lessen.cls yX5_lessen yX5_lessen ∈ tGd ∧ Cond.initialized yX5_lessen.cls ∈ tGd ∧ Cond.code yX5_lessen cX5_lessen 3 none ∈ tGd ∧ okM yX5_lessen 1 := ⟨tGc7 43 rfl rfl, tGc7 44 rfl rfl, tGc1 9 rfl rfl, tGc7 45 rfl rfl, ⟨by decide +kernel, by decide +kernel, by decide +kernel⟩⟩
theorem mwX1_written : Cond.instanceMethod yX1_written ∈ tGd ∧ Cond.selects yX1_written.cls yX1_written yX1_written ∈ tGd ∧ Cond.initialized yX1_written.cls ∈ tGd ∧ Cond.code yX1_written cX1_written 5 (some .int) ∈ tGd ∧ okM yX1_written 2 := ⟨tGc7 63 rfl rfl, tGc7 64 rfl rfl, tGc1 10 rfl rfl, tGc7 65 rfl rfl, ⟨by decide +kernel, by decide +kernel, by decide +kernel⟩⟩
theorem mwX1_powerSet : Cond.instanceMethod yX1_powerSet ∈ tGd ∧ Cond.selects yX1_powerSet.cls yX1_powerSet yX1_powerSet ∈ tGd ∧ Cond.initialized yX1_powerSet.cls ∈ tGd ∧ Cond.code yX1_powerSet cX1_powerSet 2 (some .int) ∈ tGd ∧ okM yX1_powerSet 1 := ⟨tGc7 88 rfl rfl, tGc7 89 rfl rfl, tGc1 10 rfl rfl, tGc7 90 rfl rfl, ⟨by decide +kernel, by decide +kernel, by decide +kernel⟩⟩
theorem mwX1_opened : Cond.instanceMethod yX1_opened ∈ tGd ∧ Cond.selects yX1_opened.cls yX1_opened yX1_opened ∈ tGd ∧ Cond.initialized yX1_opened.cls ∈ tGd ∧ Cond.code yX1_opened cX1_opened 3 (some .int) ∈ tGd ∧ okM yX1_opened 0 := ⟨tGc7 96 rfl rfl, tGc7 97 rfl rfl, tGc1 10 rfl rfl, tGc7 98 rfl rfl, ⟨by decide +kernel, by decide +kernel, by decide +kernel⟩⟩
theorem mwX1_readOf : Cond.instanceMethod yX1_readOf ∈ tGd ∧ Cond.selects yX1_readOf.cls yX1_readOf yX1_readOf ∈ tGd ∧ Cond.initialized yX1_readOf.cls ∈ tGd ∧ Cond.code yX1_readOf cX1_readOf 5 (some .long) ∈ tGd ∧ okM yX1_readOf 2 := ⟨tGc7 133 rfl rfl, tGc7 134 rfl rfl, tGc1 10 rfl rfl, tGc7 135 rfl rfl, ⟨by decide +kernel, by decide +kernel, by decide +kernel⟩⟩
theorem mwX6_stepsInAll : Cond.instanceMethod yX6_stepsInAll ∈ tGd ∧ Cond.selects yX6_stepsInAll.cls yX6_stepsInAll yX6_stepsInAll ∈ tGd ∧ Cond.initialized yX6_stepsInAll.cls ∈ tGd ∧ Cond.code yX6_stepsInAll cX6_stepsInAll 3 (some .int) ∈ tGd ∧ okM yX6_stepsInAll 0 := ⟨tGc7 160 rfl rfl, tGc7 161 rfl rfl, tGc1 4 rfl rfl, tGc7 162 rfl rfl, ⟨by decide +kernel, by decide +kernel, by decide +kernel⟩⟩
theorem mwX1_clashes : Cond.instanceMethod yX1_clashes ∈ tGd ∧ Cond.selects yX1_clashes.cls yX1_clashes yX1_clashes ∈ tGd ∧ Cond.initialized yX1_clashes.cls ∈ tGd ∧ Cond.code yX1_clashes cX1_clashes 3 (some .int) ∈ tGd ∧ okM yX1_clashes 0 := ⟨tGc7 151 rfl rfl, tGc7 152 rfl rfl, tGc1 10 rfl rfl, tGc7 153 rfl rfl, ⟨by decide +kernel, by decide +kernel, by decide +kernel⟩⟩
theorem mwX12_no : Cond.instanceMethod yX12_no ∈ tGd ∧ Cond.selects yX12_no.cls yX12_no yX12_no ∈ tGd ∧ Cond.initialized yX12_no.cls ∈ tGd ∧ Cond.code yX12_no cX12_no 2 (some .int) ∈ tGd ∧ okM yX12_no 1 := ⟨tGc9 123 rfl rfl, tG_in 76 (by decide +kernel) (by decide +kernel), tGc1 11 rfl rfl, tGc9 124 rfl rfl, ⟨by decide +kernel, by decide +kernel, by decide +kernel⟩⟩
theorem mwX12_thing : Cond.instanceMethod yX12_thing ∈ tGd ∧ Cond.selects yX12_thing.cls yX12_thing yX12_thing ∈ tGd ∧ Cond.initialized yX12_thing.cls ∈ tGd ∧ Cond.code yX12_thing cX12_thing 3 (some .int) ∈ tGd ∧ okM yX12_thing 2 := ⟨tGc9 131 rfl rfl, tG_in 78 (by decide +kernel) (by decide +kernel), tGc1 11 rfl rfl, tGc9 132 rfl rfl, ⟨by decide +kernel, by decide +kernel, by decide +kernel⟩⟩
theorem mwX12_in : Cond.static yX12_in ∈ tGd ∧ Cond.initialized yX12_in.cls ∈ tGd ∧ Cond.code yX12_in cX12_in 3 (some .boolean) ∈ tGd ∧ okM yX12_in 3 := ⟨tGc9 115 rfl rfl, tGc1 11 rfl rfl, tGc9 116 rfl rfl, ⟨by decide +kernel, by decide +kernel, by decide +kernel⟩⟩
theorem mwX12_isTrayFor : Cond.static yX12_isTrayFor ∈ tGd ∧ Cond.initialized yX12_isTrayFor.cls ∈ tGd ∧ Cond.code yX12_isTrayFor cX12_isTrayFor 2 (some .boolean) ∈ tGd ∧ okM yX12_isTrayFor 2 := ⟨tGc9 169 rfl rfl, tGc1 11 rfl rfl, tGc9 170 rfl rfl, ⟨by decide +kernel, by decide +kernel, by decide +kernel⟩⟩
theorem mwX12_laneOf : Cond.static yX12_laneOf ∈ tGd ∧ Cond.initialized yX12_laneOf.cls ∈ tGd ∧ Cond.code yX12_laneOf cX12_laneOf 1 (some .int) ∈ tGd ∧ okM yX12_laneOf 1 := ⟨tGc9 142 rfl rfl, tGc1 11 rfl rfl, tGc9 143 rfl rfl, ⟨by decide +kernel, by decide +kernel, by decide +kernel⟩⟩
theorem mwX12_isBin : Cond.static yX12_isBin ∈ tGd ∧ Cond.initialized yX12_isBin.cls ∈ tGd ∧ Cond.code yX12_isBin cX12_isBin 1 (some .boolean) ∈ tGd ∧ okM yX12_isBin 1 := ⟨tGc9 112 rfl rfl, tGc1 11 rfl rfl, tGc9 113 rfl rfl, ⟨by decide +kernel, by decide +kernel, by decide +kernel⟩⟩
theorem mwX12_isFull : Cond.instanceMethod yX12_isFull ∈ tGd ∧ Cond.selects yX12_isFull.cls yX12_isFull yX12_isFull ∈ tGd ∧ Cond.initialized yX12_isFull.cls ∈ tGd ∧ Cond.code yX12_isFull cX12_isFull 1 (some .boolean) ∈ tGd ∧ okM yX12_isFull 0 := ⟨tGc9 119 rfl rfl, tG_in 75 (by decide +kernel) (by decide +kernel), tGc1 11 rfl rfl, tGc9 120 rfl rfl, ⟨by decide +kernel, by decide +kernel, by decide +kernel⟩⟩
theorem mwX12_newRow : Cond.instanceMethod yX12_newRow ∈ tGd ∧ Cond.selects yX12_newRow.cls yX12_newRow yX12_newRow ∈ tGd ∧ Cond.initialized yX12_newRow.cls ∈ tGd ∧ Cond.code yX12_newRow cX12_newRow 4 (some .int) ∈ tGd ∧ okM yX12_newRow 2 := ⟨tGc9 127 rfl rfl, tG_in 77 (by decide +kernel) (by decide +kernel), tGc1 11 rfl rfl, tGc9 128 rfl rfl, ⟨by decide +kernel, by decide +kernel, by decide +kernel⟩⟩
theorem mwX12_newPlaces : Cond.instanceMethod yX12_newPlaces ∈ tGd ∧ Cond.selects yX12_newPlaces.cls yX12_newPlaces yX12_newPlaces ∈ tGd ∧ Cond.initialized yX12_newPlaces.cls ∈ tGd ∧ Cond.code yX12_newPlaces cX12_newPlaces 4 (some .int) ∈ tGd ∧ okM yX12_newPlaces 2 := ⟨tGc9 139 rfl rfl, tG_in 79 (by decide +kernel) (by decide +kernel), tGc1 11 rfl rfl, tGc9 140 rfl rfl, ⟨by decide +kernel, by decide +kernel, by decide +kernel⟩⟩
theorem mwX12_hollow : Cond.instanceMethod yX12_hollow ∈ tGd ∧ Cond.selects yX12_hollow.cls yX12_hollow yX12_hollow ∈ tGd ∧ Cond.initialized yX12_hollow.cls ∈ tGd ∧ Cond.code yX12_hollow cX12_hollow 5 (some .int) ∈ tGd ∧ okM yX12_hollow 4 := ⟨tGc9 150 rfl rfl, tG_in 80 (by decide +kernel) (by decide +kernel), tGc1 11 rfl rfl, tGc9 151 rfl rfl, ⟨by decide +kernel, by decide +kernel, by decide +kernel⟩⟩
theorem mwX12_isOf : Cond.instanceMethod yX12_isOf ∈ tGd ∧ Cond.selects yX12_isOf.cls yX12_isOf yX12_isOf ∈ tGd ∧ Cond.initialized yX12_isOf.cls ∈ tGd ∧ Cond.code yX12_isOf cX12_isOf 3 (some .boolean) ∈ tGd ∧ okM yX12_isOf 2 := ⟨tGc9 181 rfl rfl, tG_in 82 (by decide +kernel) (by decide +kernel), tGc1 11 rfl rfl, tGc9 182 rfl rfl, ⟨by decide +kernel, by decide +kernel, by decide +kernel⟩⟩
theorem mwX12_looked : Cond.instanceMethod yX12_looked ∈ tGd ∧ Cond.selects yX12_looked.cls yX12_looked yX12_looked ∈ tGd ∧ Cond.initialized yX12_looked.cls ∈ tGd ∧ Cond.code yX12_looked cX12_looked 3 (some .int) ∈ tGd ∧ okM yX12_looked 2 := ⟨tGc9 185 rfl rfl, tG_in 83 (by decide +kernel) (by decide +kernel), tGc1 11 rfl rfl, tGc9 186 rfl rfl, ⟨by decide +kernel, by decide +kernel, by decide +kernel⟩⟩
theorem mwX12_against : Cond.instanceMethod yX12_against ∈ tGd ∧ Cond.selects yX12_against.cls yX12_against yX12_against ∈ tGd ∧ Cond.initialized yX12_against.cls ∈ tGd ∧ Cond.code yX12_against cX12_against 4 (some .int) ∈ tGd ∧ okM yX12_against 3 := ⟨tGc9 177 rfl rfl, tG_in 81 (by decide +kernel) (by decide +kernel), tGc1 11 rfl rfl, tGc9 178 rfl rfl, ⟨by decide +kernel, by decide +kernel, by decide +kernel⟩⟩
theorem mwX12_noBits : Cond.instanceMethod yX12_noBits ∈ tGd ∧ Cond.selects yX12_noBits.cls yX12_noBits yX12_noBits ∈ tGd ∧ Cond.initialized yX12_noBits.cls ∈ tGd ∧ Cond.code yX12_noBits cX12_noBits 3 (some .long) ∈ tGd ∧ okM yX12_noBits 1 := ⟨tGc9 189 rfl rfl, tG_in 84 (by decide +kernel) (by decide +kernel), tGc1 11 rfl rfl, tGc9 190 rfl rfl, ⟨by decide +kernel, by decide +kernel, by decide +kernel⟩⟩
theorem mwX12_fitted : Cond.static yX12_fitted ∈ tGd ∧ Cond.initialized yX12_fitted.cls ∈ tGd ∧ Cond.code yX12_fitted cX12_fitted 3 (some .long) ∈ tGd ∧ okM yX12_fitted 2 := ⟨tGc9 196 rfl rfl, tGc1 11 rfl rfl, tGc9 197 rfl rfl, ⟨by decide +kernel, by decide +kernel, by decide +kernel⟩⟩
theorem mwX12_againstBed : Cond.instanceMethod yX12_againstBed ∈ tGd ∧ Cond.selects yX12_againstBed.cls yX12_againstBed yX12_againstBed ∈ tGd ∧ Cond.initialized yX12_againstBed.cls ∈ tGd ∧ Cond.code yX12_againstBed cX12_againstBed 7 (some .int) ∈ tGd ∧ okM yX12_againstBed 4 := ⟨tGc9 210 rfl rfl, tG_in 85 (by decide +kernel) (by decide +kernel), tGc1 11 rfl rfl, tGc9 211 rfl rfl, ⟨by decide +kernel, by decide +kernel, by decide +kernel⟩⟩
theorem mwX12_hasPlaces : Cond.instanceMethod yX12_hasPlaces ∈ tGd ∧ Cond.selects yX12_hasPlaces.cls yX12_hasPlaces yX12_hasPlaces ∈ tGd ∧ Cond.initialized yX12_hasPlaces.cls ∈ tGd ∧ Cond.code yX12_hasPlaces cX12_hasPlaces 2 (some .boolean) ∈ tGd ∧ okM yX12_hasPlaces 1 := ⟨tGc9 230 rfl rfl, tG_in 87 (by decide +kernel) (by decide +kernel), tGc1 11 rfl rfl, tGc9 231 rfl rfl, ⟨by decide +kernel, by decide +kernel, by decide +kernel⟩⟩
theorem mwX12_againstPlace : Cond.instanceMethod yX12_againstPlace ∈ tGd ∧ Cond.selects yX12_againstPlace.cls yX12_againstPlace yX12_againstPlace ∈ tGd ∧ Cond.initialized yX12_againstPlace.cls ∈ tGd ∧ Cond.code yX12_againstPlace cX12_againstPlace 3 (some .int) ∈ tGd ∧ okM yX12_againstPlace 2 := ⟨tGc9 226 rfl rfl, tG_in 86 (by decide +kernel) (by decide +kernel), tGc1 11 rfl rfl, tGc9 227 rfl rfl, ⟨by decide +kernel, by decide +kernel, by decide +kernel⟩⟩
theorem mwX12_isFor : Cond.instanceMethod yX12_isFor ∈ tGd ∧ Cond.selects yX12_isFor.cls yX12_isFor yX12_isFor ∈ tGd ∧ Cond.initialized yX12_isFor.cls ∈ tGd ∧ Cond.code yX12_isFor cX12_isFor 3 (some .boolean) ∈ tGd ∧ okM yX12_isFor 2 := ⟨tGc9 234 rfl rfl, tG_in 88 (by decide +kernel) (by decide +kernel), tGc1 11 rfl rfl, tGc9 235 rfl rfl, ⟨by decide +kernel, by decide +kernel, by decide +kernel⟩⟩
theorem mwX12_isRow : Cond.instanceMethod yX12_isRow ∈ tGd ∧ Cond.selects yX12_isRow.cls yX12_isRow yX12_isRow ∈ tGd ∧ Cond.initialized yX12_isRow.cls ∈ tGd ∧ Cond.code yX12_isRow cX12_isRow 2 (some .boolean) ∈ tGd ∧ okM yX12_isRow 1 := ⟨tGc10 14 rfl rfl, tG_in 90 (by decide +kernel) (by decide +kernel), tGc1 11 rfl rfl, tGc10 15 rfl rfl, ⟨by decide +kernel, by decide +kernel, by decide +kernel⟩⟩
theorem mwX12_againstShift : Cond.instanceMethod yX12_againstShift ∈ tGd ∧ Cond.selects yX12_againstShift.cls yX12_againstShift yX12_againstShift ∈ tGd ∧ Cond.initialized yX12_againstShift.cls ∈ tGd ∧ Cond.code yX12_againstShift cX12_againstShift 7 (some .int) ∈ tGd ∧ okM yX12_againstShift 5 := ⟨tGc10 10 rfl rfl, tG_in 89 (by decide +kernel) (by decide +kernel), tGc1 11 rfl rfl, tGc10 11 rfl rfl, ⟨by decide +kernel, by decide +kernel, by decide +kernel⟩⟩
theorem mwX12_rowCopy : Cond.instanceMethod yX12_rowCopy ∈ tGd ∧ Cond.selects yX12_rowCopy.cls yX12_rowCopy yX12_rowCopy ∈ tGd ∧ Cond.initialized yX12_rowCopy.cls ∈ tGd ∧ Cond.code yX12_rowCopy cX12_rowCopy 4 (some .int) ∈ tGd ∧ okM yX12_rowCopy 1 := ⟨tGc10 26 rfl rfl, tG_in 91 (by decide +kernel) (by decide +kernel), tGc1 11 rfl rfl, tGc10 27 rfl rfl, ⟨by decide +kernel, by decide +kernel, by decide +kernel⟩⟩
theorem mwX12_gridCopy : Cond.instanceMethod yX12_gridCopy ∈ tGd ∧ Cond.selects yX12_gridCopy.cls yX12_gridCopy yX12_gridCopy ∈ tGd ∧ Cond.initialized yX12_gridCopy.cls ∈ tGd ∧ Cond.code yX12_gridCopy cX12_gridCopy 5 (some .int) ∈ tGd ∧ okM yX12_gridCopy 1 := ⟨tGc10 42 rfl rfl, tG_in 95 (by decide +kernel) (by decide +kernel), tGc1 11 rfl rfl, tGc10 43 rfl rfl, ⟨by decide +kernel, by decide +kernel, by decide +kernel⟩⟩
theorem mwX12_newCard : Cond.instanceMethod yX12_newCard ∈ tGd ∧ Cond.selects yX12_newCard.cls yX12_newCard yX12_newCard ∈ tGd ∧ Cond.initialized yX12_newCard.cls ∈ tGd ∧ Cond.code yX12_newCard cX12_newCard 2 (some .int) ∈ tGd ∧ okM yX12_newCard 0 := ⟨tGc10 34 rfl rfl, tG_in 93 (by decide +kernel) (by decide +kernel), tGc1 11 rfl rfl, tGc10 35 rfl rfl, ⟨by decide +kernel, by decide +kernel, by decide +kernel⟩⟩
theorem mwX12_placesCopy : Cond.instanceMethod yX12_placesCopy ∈ tGd ∧ Cond.selects yX12_placesCopy.cls yX12_placesCopy yX12_placesCopy ∈ tGd ∧ Cond.initialized yX12_placesCopy.cls ∈ tGd ∧ Cond.code yX12_placesCopy cX12_placesCopy 7 (some .int) ∈ tGd ∧ okM yX12_placesCopy 2 := ⟨tGc10 38 rfl rfl, tG_in 94 (by decide +kernel) (by decide +kernel), tGc1 11 rfl rfl, tGc10 39 rfl rfl, ⟨by decide +kernel, by decide +kernel, by decide +kernel⟩⟩
theorem mwX12_cardCopy : Cond.instanceMethod yX12_cardCopy ∈ tGd ∧ Cond.selects yX12_cardCopy.cls yX12_cardCopy yX12_cardCopy ∈ tGd ∧ Cond.initialized yX12_cardCopy.cls ∈ tGd ∧ Cond.code yX12_cardCopy cX12_cardCopy 4 (some .int) ∈ tGd ∧ okM yX12_cardCopy 1 := ⟨tGc10 30 rfl rfl, tG_in 92 (by decide +kernel) (by decide +kernel), tGc1 11 rfl rfl, tGc10 31 rfl rfl, ⟨by decide +kernel, by decide +kernel, by decide +kernel⟩⟩
theorem mwX12_areRowsAlike : Cond.instanceMethod yX12_areRowsAlike ∈ tGd ∧ Cond.selects yX12_areRowsAlike.cls yX12_areRowsAlike yX12_areRowsAlike ∈ tGd ∧ Cond.initialized yX12_areRowsAlike.cls ∈ tGd ∧ Cond.code yX12_areRowsAlike cX12_areRowsAlike 5 (some .boolean) ∈ tGd ∧ okM yX12_areRowsAlike 2 := ⟨tGc10 50 rfl rfl, tG_in 96 (by decide +kernel) (by decide +kernel), tGc1 11 rfl rfl, tGc10 51 rfl rfl, ⟨by decide +kernel, by decide +kernel, by decide +kernel⟩⟩
theorem mwX12_areGridsAlike : Cond.instanceMethod yX12_areGridsAlike ∈ tGd ∧ Cond.selects yX12_areGridsAlike.cls yX12_areGridsAlike yX12_areGridsAlike ∈ tGd ∧ Cond.initialized yX12_areGridsAlike.cls ∈ tGd ∧ Cond.code yX12_areGridsAlike cX12_areGridsAlike 7 (some .boolean) ∈ tGd ∧ okM yX12_areGridsAlike 2 := ⟨tGc10 62 rfl rfl, tG_in 99 (by decide +kernel) (by decide +kernel), tGc1 11 rfl rfl, tGc10 63 rfl rfl, ⟨by decide +kernel, by decide +kernel, by decide +kernel⟩⟩
theorem mwX12_arePlacesAlike : Cond.instanceMethod yX12_arePlacesAlike ∈ tGd ∧ Cond.selects yX12_arePlacesAlike.cls yX12_arePlacesAlike yX12_arePlacesAlike ∈ tGd ∧ Cond.initialized yX12_arePlacesAlike.cls ∈ tGd ∧ Cond.code yX12_arePlacesAlike cX12_arePlacesAlike 7 (some .boolean) ∈ tGd ∧ okM yX12_arePlacesAlike 2 := ⟨tGc10 58 rfl rfl, tG_in 98 (by decide +kernel) (by decide +kernel), tGc1 11 rfl rfl, tGc10 59 rfl rfl, ⟨by decide +kernel, by decide +kernel, by decide +kernel⟩⟩
theorem mwX12_areCardsAlike : Cond.instanceMethod yX12_areCardsAlike ∈ tGd ∧ Cond.selects yX12_areCardsAlike.cls yX12_areCardsAlike yX12_areCardsAlike ∈ tGd ∧ Cond.initialized yX12_areCardsAlike.cls ∈ tGd ∧ Cond.code yX12_areCardsAlike cX12_areCardsAlike 5 (some .boolean) ∈ tGd ∧ okM yX12_areCardsAlike 2 := ⟨tGc10 54 rfl rfl, tG_in 97 (by decide +kernel) (by decide +kernel), tGc1 11 rfl rfl, tGc10 55 rfl rfl, ⟨by decide +kernel, by decide +kernel, by decide +kernel⟩⟩
theorem mwX12_body : Cond.instanceMethod yX12_body ∈ tGd ∧ Cond.selects yX12_body.cls yX12_body yX12_body ∈ tGd ∧ Cond.initialized yX12_body.cls ∈ tGd ∧ Cond.code yX12_body cX12_body 2 none ∈ tGd ∧ okM yX12_body 1 := ⟨tGc10 90 rfl rfl, tG_in 103 (by decide +kernel) (by decide +kernel), tGc1 11 rfl rfl, tGc10 91 rfl rfl, ⟨by decide +kernel, by decide +kernel, by decide +kernel⟩⟩
theorem mwX12_plainSize : Cond.instanceMethod yX12_plainSize ∈ tGd ∧ Cond.selects yX12_plainSize.cls yX12_plainSize yX12_plainSize ∈ tGd ∧ Cond.initialized yX12_plainSize.cls ∈ tGd ∧ Cond.code yX12_plainSize cX12_plainSize 2 (some .int) ∈ tGd ∧ okM yX12_plainSize 1 := ⟨tGc10 86 rfl rfl, tG_in 102 (by decide +kernel) (by decide +kernel), tGc1 11 rfl rfl, tGc10 87 rfl rfl, ⟨by decide +kernel, by decide +kernel, by decide +kernel⟩⟩
theorem mwX12_sizeOf : Cond.instanceMethod yX12_sizeOf ∈ tGd ∧ Cond.selects yX12_sizeOf.cls yX12_sizeOf yX12_sizeOf ∈ tGd ∧ Cond.initialized yX12_sizeOf.cls ∈ tGd ∧ Cond.code yX12_sizeOf cX12_sizeOf 7 (some .int) ∈ tGd ∧ okM yX12_sizeOf 1 := ⟨tGc10 82 rfl rfl, tG_in 101 (by decide +kernel) (by decide +kernel), tGc1 11 rfl rfl, tGc10 83 rfl rfl, ⟨by decide +kernel, by decide +kernel, by decide +kernel⟩⟩
theorem mwX12_thirstOf : Cond.instanceMethod yX12_thirstOf ∈ tGd ∧ Cond.selects yX12_thirstOf.cls yX12_thirstOf yX12_thirstOf ∈ tGd ∧ Cond.initialized yX12_thirstOf.cls ∈ tGd ∧ Cond.code yX12_thirstOf cX12_thirstOf 4 (some .int) ∈ tGd ∧ okM yX12_thirstOf 1 := ⟨tGc10 94 rfl rfl, tG_in 104 (by decide +kernel) (by decide +kernel), tGc1 11 rfl rfl, tGc10 95 rfl rfl, ⟨by decide +kernel, by decide +kernel, by decide +kernel⟩⟩
theorem mwX12_costOf : Cond.instanceMethod yX12_costOf ∈ tGd ∧ Cond.selects yX12_costOf.cls yX12_costOf yX12_costOf ∈ tGd ∧ Cond.initialized yX12_costOf.cls ∈ tGd ∧ Cond.code yX12_costOf cX12_costOf 3 (some .int) ∈ tGd ∧ okM yX12_costOf 1 := ⟨tGc10 98 rfl rfl, tG_in 105 (by decide +kernel) (by decide +kernel), tGc1 11 rfl rfl, tGc10 99 rfl rfl, ⟨by decide +kernel, by decide +kernel, by decide +kernel⟩⟩
theorem mwX12_askOf : Cond.instanceMethod yX12_askOf ∈ tGd ∧ Cond.selects yX12_askOf.cls yX12_askOf yX12_askOf ∈ tGd ∧ Cond.initialized yX12_askOf.cls ∈ tGd ∧ Cond.code yX12_askOf cX12_askOf 4 (some .int) ∈ tGd ∧ okM yX12_askOf 2 := ⟨tGc10 78 rfl rfl, tG_in 100 (by decide +kernel) (by decide +kernel), tGc1 11 rfl rfl, tGc10 79 rfl rfl, ⟨by decide +kernel, by decide +kernel, by decide +kernel⟩⟩
theorem mwX12_againstCard : Cond.instanceMethod yX12_againstCard ∈ tGd ∧ Cond.selects yX12_againstCard.cls yX12_againstCard yX12_againstCard ∈ tGd ∧ Cond.initialized yX12_againstCard.cls ∈ tGd ∧ Cond.code yX12_againstCard cX12_againstCard 2 (some .int) ∈ tGd ∧ okM yX12_againstCard 1 := ⟨tGc10 118 rfl rfl, tG_in 106 (by decide +kernel) (by decide +kernel), tGc1 11 rfl rfl, tGc10 119 rfl rfl, ⟨by decide +kernel, by decide +kernel, by decide +kernel⟩⟩
theorem mwX12_hasBody : Cond.static yX12_hasBody ∈ tGd ∧ Cond.initialized yX12_hasBody.cls ∈ tGd ∧ Cond.code yX12_hasBody cX12_hasBody 1 (some .boolean) ∈ tGd ∧ okM yX12_hasBody 1 := ⟨tGc10 153 rfl rfl, tGc1 11 rfl rfl, tGc10 154 rfl rfl, ⟨by decide +kernel, by decide +kernel, by decide +kernel⟩⟩
theorem mwX12_wrong : Cond.instanceMethod yX12_wrong ∈ tGd ∧ Cond.selects yX12_wrong.cls yX12_wrong yX12_wrong ∈ tGd ∧ Cond.initialized yX12_wrong.cls ∈ tGd ∧ Cond.code yX12_wrong cX12_wrong 6 (some .int) ∈ tGd ∧ okM yX12_wrong 1 := ⟨tGc10 150 rfl rfl, tG_in 107 (by decide +kernel) (by decide +kernel), tGc1 11 rfl rfl, tGc10 151 rfl rfl, ⟨by decide +kernel, by decide +kernel, by decide +kernel⟩⟩
theorem mwX12_note : Cond.instanceMethod yX12_note ∈ tGd ∧ Cond.selects yX12_note.cls yX12_note yX12_note ∈ tGd ∧ Cond.initialized yX12_note.cls ∈ tGd ∧ Cond.code yX12_note cX12_note 4 none ∈ tGd ∧ okM yX12_note 2 := ⟨tGc10 177 rfl rfl, tG_in 112 (by decide +kernel) (by decide +kernel), tGc1 11 rfl rfl, tGc10 178 rfl rfl, ⟨by decide +kernel, by decide +kernel, by decide +kernel⟩⟩
theorem mwX12_a : Cond.instanceMethod yX12_a ∈ tGd ∧ Cond.selects yX12_a.cls yX12_a yX12_a ∈ tGd ∧ Cond.initialized yX12_a.cls ∈ tGd ∧ Cond.code yX12_a cX12_a 1 (some .int) ∈ tGd ∧ okM yX12_a 0 := ⟨tGc10 221 rfl rfl, tG_in 123 (by decide +kernel) (by decide +kernel), tGc1 11 rfl rfl, tGc10 222 rfl rfl, ⟨by decide +kernel, by decide +kernel, by decide +kernel⟩⟩
theorem mwX12_push : Cond.instanceMethod yX12_push ∈ tGd ∧ Cond.selects yX12_push.cls yX12_push yX12_push ∈ tGd ∧ Cond.initialized yX12_push.cls ∈ tGd ∧ Cond.code yX12_push cX12_push 2 none ∈ tGd ∧ okM yX12_push 1 := ⟨tGc10 161 rfl rfl, tG_in 108 (by decide +kernel) (by decide +kernel), tGc1 11 rfl rfl, tGc10 162 rfl rfl, ⟨by decide +kernel, by decide +kernel, by decide +kernel⟩⟩
theorem mwX12_b : Cond.instanceMethod yX12_b ∈ tGd ∧ Cond.selects yX12_b.cls yX12_b yX12_b ∈ tGd ∧ Cond.initialized yX12_b.cls ∈ tGd ∧ Cond.code yX12_b cX12_b 1 (some .int) ∈ tGd ∧ okM yX12_b 0 := ⟨tGc10 229 rfl rfl, tG_in 125 (by decide +kernel) (by decide +kernel), tGc1 11 rfl rfl, tGc10 230 rfl rfl, ⟨by decide +kernel, by decide +kernel, by decide +kernel⟩⟩
theorem mwX12_changeStock : Cond.instanceMethod yX12_changeStock ∈ tGd ∧ Cond.selects yX12_changeStock.cls yX12_changeStock yX12_changeStock ∈ tGd ∧ Cond.initialized yX12_changeStock.cls ∈ tGd ∧ Cond.code yX12_changeStock cX12_changeStock 4 none ∈ tGd ∧ okM yX12_changeStock 2 := ⟨tGc10 173 rfl rfl, tG_in 111 (by decide +kernel) (by decide +kernel), tGc1 11 rfl rfl, tGc10 174 rfl rfl, ⟨by decide +kernel, by decide +kernel, by decide +kernel⟩⟩
theorem mwX12_endOf : Cond.instanceMethod yX12_endOf ∈ tGd ∧ Cond.selects yX12_endOf.cls yX12_endOf yX12_endOf ∈ tGd ∧ Cond.initialized yX12_endOf.cls ∈ tGd ∧ Cond.code yX12_endOf cX12_endOf 6 (some .int) ∈ tGd ∧ okM yX12_endOf 2 := ⟨tGc10 197 rfl rfl, tG_in 117 (by decide +kernel) (by decide +kernel), tGc1 11 rfl rfl, tGc10 198 rfl rfl, ⟨by decide +kernel, by decide +kernel, by decide +kernel⟩⟩
theorem mwX12_fails : Cond.instanceMethod yX12_fails ∈ tGd ∧ Cond.selects yX12_fails.cls yX12_fails yX12_fails ∈ tGd ∧ Cond.initialized yX12_fails.cls ∈ tGd ∧ Cond.code yX12_fails cX12_fails 3 none ∈ tGd ∧ okM yX12_fails 2 := ⟨tGc10 225 rfl rfl, tG_in 124 (by decide +kernel) (by decide +kernel), tGc1 11 rfl rfl, tGc10 226 rfl rfl, ⟨by decide +kernel, by decide +kernel, by decide +kernel⟩⟩
theorem mwX12_c : Cond.instanceMethod yX12_c ∈ tGd ∧ Cond.selects yX12_c.cls yX12_c yX12_c ∈ tGd ∧ Cond.initialized yX12_c.cls ∈ tGd ∧ Cond.code yX12_c cX12_c 1 (some .int) ∈ tGd ∧ okM yX12_c 0 := ⟨tGc10 237 rfl rfl, tG_in 127 (by decide +kernel) (by decide +kernel), tGc1 11 rfl rfl, tGc10 238 rfl rfl, ⟨by decide +kernel, by decide +kernel, by decide +kernel⟩⟩
theorem mwX12_setCell : Cond.instanceMethod yX12_setCell ∈ tGd ∧ Cond.selects yX12_setCell.cls yX12_setCell yX12_setCell ∈ tGd ∧ Cond.initialized yX12_setCell.cls ∈ tGd ∧ Cond.code yX12_setCell cX12_setCell 4 none ∈ tGd ∧ okM yX12_setCell 2 := ⟨tGc11 9 rfl rfl, tG_in 130 (by decide +kernel) (by decide +kernel), tGc1 11 rfl rfl, tGc11 10 rfl rfl, ⟨by decide +kernel, by decide +kernel, by decide +kernel⟩⟩
theorem mwX12_isStep : Cond.instanceMethod yX12_isStep ∈ tGd ∧ Cond.selects yX12_isStep.cls yX12_isStep yX12_isStep ∈ tGd ∧ Cond.initialized yX12_isStep.cls ∈ tGd ∧ Cond.code yX12_isStep cX12_isStep 1 (some .boolean) ∈ tGd ∧ okM yX12_isStep 0 := ⟨tGc10 189 rfl rfl, tG_in 115 (by decide +kernel) (by decide +kernel), tGc1 11 rfl rfl, tGc10 190 rfl rfl, ⟨by decide +kernel, by decide +kernel, by decide +kernel⟩⟩
theorem mwX12_areNumbers : Cond.instanceMethod yX12_areNumbers ∈ tGd ∧ Cond.selects yX12_areNumbers.cls yX12_areNumbers yX12_areNumbers ∈ tGd ∧ Cond.initialized yX12_areNumbers.cls ∈ tGd ∧ Cond.code yX12_areNumbers cX12_areNumbers 2 (some .boolean) ∈ tGd ∧ okM yX12_areNumbers 1 := ⟨tGc10 233 rfl rfl, tG_in 126 (by decide +kernel) (by decide +kernel), tGc1 11 rfl rfl, tGc10 234 rfl rfl, ⟨by decide +kernel, by decide +kernel, by decide +kernel⟩⟩
theorem mwX12_plain : Cond.instanceMethod yX12_plain ∈ tGd ∧ Cond.selects yX12_plain.cls yX12_plain yX12_plain ∈ tGd ∧ Cond.initialized yX12_plain.cls ∈ tGd ∧ Cond.code yX12_plain cX12_plain 7 (some .int) ∈ tGd ∧ okM yX12_plain 1 := ⟨tGc11 5 rfl rfl, tG_in 129 (by decide +kernel) (by decide +kernel), tGc1 11 rfl rfl, tGc11 6 rfl rfl, ⟨by decide +kernel, by decide +kernel, by decide +kernel⟩⟩
theorem mwX12_call : Cond.instanceMethod yX12_call ∈ tGd ∧ Cond.selects yX12_call.cls yX12_call yX12_call ∈ tGd ∧ Cond.initialized yX12_call.cls ∈ tGd ∧ Cond.code yX12_call cX12_call 2 none ∈ tGd ∧ okM yX12_call 0 := ⟨tGc11 1 rfl rfl, tG_in 128 (by decide +kernel) (by decide +kernel), tGc1 11 rfl rfl, tGc11 2 rfl rfl, ⟨by decide +kernel, by decide +kernel, by decide +kernel⟩⟩
theorem mwX12_enter : Cond.instanceMethod yX12_enter ∈ tGd ∧ Cond.selects yX12_enter.cls yX12_enter yX12_enter ∈ tGd ∧ Cond.initialized yX12_enter.cls ∈ tGd ∧ Cond.code yX12_enter cX12_enter 5 none ∈ tGd ∧ okM yX12_enter 1 := ⟨tGc10 217 rfl rfl, tG_in 122 (by decide +kernel) (by decide +kernel), tGc1 11 rfl rfl, tGc10 218 rfl rfl, ⟨by decide +kernel, by decide +kernel, by decide +kernel⟩⟩
theorem mwX12_giveBack : Cond.instanceMethod yX12_giveBack ∈ tGd ∧ Cond.selects yX12_giveBack.cls yX12_giveBack yX12_giveBack ∈ tGd ∧ Cond.initialized yX12_giveBack.cls ∈ tGd ∧ Cond.code yX12_giveBack cX12_giveBack 3 none ∈ tGd ∧ okM yX12_giveBack 1 := ⟨tGc10 169 rfl rfl, tG_in 110 (by decide +kernel) (by decide +kernel), tGc1 11 rfl rfl, tGc10 170 rfl rfl, ⟨by decide +kernel, by decide +kernel, by decide +kernel⟩⟩
theorem mwX12_behind : Cond.instanceMethod yX12_behind ∈ tGd ∧ Cond.selects yX12_behind.cls yX12_behind yX12_behind ∈ tGd ∧ Cond.initialized yX12_behind.cls ∈ tGd ∧ Cond.code yX12_behind cX12_behind 5 none ∈ tGd ∧ okM yX12_behind 2 := ⟨tGc10 205 rfl rfl, tG_in 119 (by decide +kernel) (by decide +kernel), tGc1 11 rfl rfl, tGc10 206 rfl rfl, ⟨by decide +kernel, by decide +kernel, by decide +kernel⟩⟩
theorem mwX12_undoTo : Cond.instanceMethod yX12_undoTo ∈ tGd ∧ Cond.selects yX12_undoTo.cls yX12_undoTo yX12_undoTo ∈ tGd ∧ Cond.initialized yX12_undoTo.cls ∈ tGd ∧ Cond.code yX12_undoTo cX12_undoTo 3 none ∈ tGd ∧ okM yX12_undoTo 1 := ⟨tGc10 181 rfl rfl, tG_in 113 (by decide +kernel) (by decide +kernel), tGc1 11 rfl rfl, tGc10 182 rfl rfl, ⟨by decide +kernel, by decide +kernel, by decide +kernel⟩⟩
theorem mwX12_leave : Cond.instanceMethod yX12_leave ∈ tGd ∧ Cond.selects yX12_leave.cls yX12_leave yX12_leave ∈ tGd ∧ Cond.initialized yX12_leave.cls ∈ tGd ∧ Cond.code yX12_leave cX12_leave 4 none ∈ tGd ∧ okM yX12_leave 2 := ⟨tGc10 201 rfl rfl, tG_in 118 (by decide +kernel) (by decide +kernel), tGc1 11 rfl rfl, tGc10 202 rfl rfl, ⟨by decide +kernel, by decide +kernel, by decide +kernel⟩⟩
theorem mwX12_isMet : Cond.instanceMethod yX12_isMet ∈ tGd ∧ Cond.selects yX12_isMet.cls yX12_isMet yX12_isMet ∈ tGd ∧ Cond.initialized yX12_isMet.cls ∈ tGd ∧ Cond.code yX12_isMet cX12_isMet 5 (some .boolean) ∈ tGd ∧ okM yX12_isMet 2 := ⟨tGc10 193 rfl rfl, tG_in 116 (by decide +kernel) (by decide +kernel), tGc1 11 rfl rfl, tGc10 194 rfl rfl, ⟨by decide +kernel, by decide +kernel, by decide +kernel⟩⟩
theorem mwX12_again : Cond.instanceMethod yX12_again ∈ tGd ∧ Cond.selects yX12_again.cls yX12_again yX12_again ∈ tGd ∧ Cond.initialized yX12_again.cls ∈ tGd ∧ Cond.code yX12_again cX12_again 3 none ∈ tGd ∧ okM yX12_again 1 := ⟨tGc10 185 rfl rfl, tG_in 114 (by decide +kernel) (by decide +kernel), tGc1 11 rfl rfl, tGc10 186 rfl rfl, ⟨by decide +kernel, by decide +kernel, by decide +kernel⟩⟩
theorem mwX12_begin : Cond.instanceMethod yX12_begin ∈ tGd ∧ Cond.selects yX12_begin.cls yX12_begin yX12_begin ∈ tGd ∧ Cond.initialized yX12_begin.cls ∈ tGd ∧ Cond.code yX12_begin cX12_begin 3 none ∈ tGd ∧ okM yX12_begin 1 := ⟨tGc10 213 rfl rfl, tG_in 121 (by decide +kernel) (by decide +kernel), tGc1 11 rfl rfl, tGc10 214 rfl rfl, ⟨by decide +kernel, by decide +kernel, by decide +kernel⟩⟩
theorem mwX12_close : Cond.instanceMethod yX12_close ∈ tGd ∧ Cond.selects yX12_close.cls yX12_close yX12_close ∈ tGd ∧ Cond.initialized yX12_close.cls ∈ tGd ∧ Cond.code yX12_close cX12_close 4 none ∈ tGd ∧ okM yX12_close 0 := ⟨tGc10 209 rfl rfl, tG_in 120 (by decide +kernel) (by decide +kernel), tGc1 11 rfl rfl, tGc10 210 rfl rfl, ⟨by decide +kernel, by decide +kernel, by decide +kernel⟩⟩
theorem mwX12_unwind : Cond.instanceMethod yX12_unwind ∈ tGd ∧ Cond.selects yX12_unwind.cls yX12_unwind yX12_unwind ∈ tGd ∧ Cond.initialized yX12_unwind.cls ∈ tGd ∧ Cond.code yX12_unwind cX12_unwind 4 none ∈ tGd ∧ okM yX12_unwind 0 := ⟨tGc10 165 rfl rfl, tG_in 109 (by decide +kernel) (by decide +kernel), tGc1 11 rfl rfl, tGc10 166 rfl rfl, ⟨by decide +kernel, by decide +kernel, by decide +kernel⟩⟩
theorem mwX12_isTable : Cond.static yX12_isTable ∈ tGd ∧ Cond.initialized yX12_isTable.cls ∈ tGd ∧ Cond.code yX12_isTable cX12_isTable 1 (some .boolean) ∈ tGd ∧ okM yX12_isTable 1 := ⟨tGc11 32 rfl rfl, tGc1 11 rfl rfl, tGc11 33 rfl rfl, ⟨by decide +kernel, by decide +kernel, by decide +kernel⟩⟩
theorem mwX12_lay : Cond.instanceMethod yX12_lay ∈ tGd ∧ Cond.selects yX12_lay.cls yX12_lay yX12_lay ∈ tGd ∧ Cond.initialized yX12_lay.cls ∈ tGd ∧ Cond.code yX12_lay cX12_lay 6 none ∈ tGd ∧ okM yX12_lay 1 := ⟨tGc11 50 rfl rfl, tG_in 132 (by decide +kernel) (by decide +kernel), tGc1 11 rfl rfl, tGc11 51 rfl rfl, ⟨by decide +kernel, by decide +kernel, by decide +kernel⟩⟩
theorem mwX12_down : Cond.static yX12_down ∈ tGd ∧ Cond.initialized yX12_down.cls ∈ tGd ∧ Cond.code yX12_down cX12_down 6 (some .long) ∈ tGd ∧ okM yX12_down 2 := ⟨tGc11 53 rfl rfl, tGc1 11 rfl rfl, tGc11 54 rfl rfl, ⟨by decide +kernel, by decide +kernel, by decide +kernel⟩⟩
theorem mwX12_valueOf : Cond.instanceMethod yX12_valueOf ∈ tGd ∧ Cond.selects yX12_valueOf.cls yX12_valueOf yX12_valueOf ∈ tGd ∧ Cond.initialized yX12_valueOf.cls ∈ tGd ∧ Cond.code yX12_valueOf cX12_valueOf 7 (some .int) ∈ tGd ∧ okM yX12_valueOf 2 := ⟨tGc11 46 rfl rfl, tG_in 131 (by decide +kernel) (by decide +kernel), tGc1 11 rfl rfl, tGc11 47 rfl rfl, ⟨by decide +kernel, by decide +kernel, by decide +kernel⟩⟩
theorem mwX12_powerOf : Cond.static yX12_powerOf ∈ tGd ∧ Cond.initialized yX12_powerOf.cls ∈ tGd ∧ Cond.code yX12_powerOf cX12_powerOf 7 (some .double) ∈ tGd ∧ okM yX12_powerOf 1 := ⟨tGc11 77 rfl rfl, tGc1 11 rfl rfl, tGc11 78 rfl rfl, ⟨by decide +kernel, by decide +kernel, by decide +kernel⟩⟩
theorem mwX12_scaled : Cond.static yX12_scaled ∈ tGd ∧ Cond.initialized yX12_scaled.cls ∈ tGd ∧ Cond.code yX12_scaled cX12_scaled 4 (some .double) ∈ tGd ∧ okM yX12_scaled 2 := ⟨tGc11 81 rfl rfl, tGc1 11 rfl rfl, tGc11 82 rfl rfl, ⟨by decide +kernel, by decide +kernel, by decide +kernel⟩⟩
theorem mwX12_great : Cond.static yX12_great ∈ tGd ∧ Cond.initialized yX12_great.cls ∈ tGd ∧ Cond.code yX12_great cX12_great 0 (some .double) ∈ tGd ∧ okM yX12_great 0 := ⟨tGc11 74 rfl rfl, tGc1 11 rfl rfl, tGc11 75 rfl rfl, ⟨by decide +kernel, by decide +kernel, by decide +kernel⟩⟩
theorem mwX12_fromBits : Cond.static yX12_fromBits ∈ tGd ∧ Cond.initialized yX12_fromBits.cls ∈ tGd ∧ Cond.code yX12_fromBits cX12_fromBits 7 (some .double) ∈ tGd ∧ okM yX12_fromBits 1 := ⟨tGc11 68 rfl rfl, tGc1 11 rfl rfl, tGc11 69 rfl rfl, ⟨by decide +kernel, by decide +kernel, by decide +kernel⟩⟩
theorem mwX12_reads : Cond.instanceMethod yX12_reads ∈ tGd ∧ Cond.selects yX12_reads.cls yX12_reads yX12_reads ∈ tGd ∧ Cond.initialized yX12_reads.cls ∈ tGd ∧ Cond.code yX12_reads cX12_reads 2 (some .boolean) ∈ tGd ∧ okM yX12_reads 1 := ⟨tGc11 133 rfl rfl, tG_in 136 (by decide +kernel) (by decide +kernel), tGc1 11 rfl rfl, tGc11 134 rfl rfl, ⟨by decide +kernel, by decide +kernel, by decide +kernel⟩⟩
theorem mwX12_isBelow : Cond.static yX12_isBelow ∈ tGd ∧ Cond.initialized yX12_isBelow.cls ∈ tGd ∧ Cond.code yX12_isBelow cX12_isBelow 8 (some .boolean) ∈ tGd ∧ okM yX12_isBelow 2 := ⟨tGc11 136 rfl rfl, tGc1 11 rfl rfl, tGc11 137 rfl rfl, ⟨by decide +kernel, by decide +kernel, by decide +kernel⟩⟩
theorem mwX12_isOff : Cond.instanceMethod yX12_isOff ∈ tGd ∧ Cond.selects yX12_isOff.cls yX12_isOff yX12_isOff ∈ tGd ∧ Cond.initialized yX12_isOff.cls ∈ tGd ∧ Cond.code yX12_isOff cX12_isOff 9 (some .boolean) ∈ tGd ∧ okM yX12_isOff 2 := ⟨tGc11 145 rfl rfl, tG_in 138 (by decide +kernel) (by decide +kernel), tGc1 11 rfl rfl, tGc11 146 rfl rfl, ⟨by decide +kernel, by decide +kernel, by decide +kernel⟩⟩
theorem mwX12_find : Cond.instanceMethod yX12_find ∈ tGd ∧ Cond.selects yX12_find.cls yX12_find yX12_find ∈ tGd ∧ Cond.initialized yX12_find.cls ∈ tGd ∧ Cond.code yX12_find cX12_find 7 none ∈ tGd ∧ okM yX12_find 1 := ⟨tGc11 129 rfl rfl, tG_in 135 (by decide +kernel) (by decide +kernel), tGc1 11 rfl rfl, tGc11 130 rfl rfl, ⟨by decide +kernel, by decide +kernel, by decide +kernel⟩⟩
theorem mwX12_countIn : Cond.instanceMethod yX12_countIn ∈ tGd ∧ Cond.selects yX12_countIn.cls yX12_countIn yX12_countIn ∈ tGd ∧ Cond.initialized yX12_countIn.cls ∈ tGd ∧ Cond.code yX12_countIn cX12_countIn 6 none ∈ tGd ∧ okM yX12_countIn 1 := ⟨tGc11 141 rfl rfl, tG_in 137 (by decide +kernel) (by decide +kernel), tGc1 11 rfl rfl, tGc11 142 rfl rfl, ⟨by decide +kernel, by decide +kernel, by decide +kernel⟩⟩
theorem mwX12_wishAt : Cond.instanceMethod yX12_wishAt ∈ tGd ∧ Cond.selects yX12_wishAt.cls yX12_wishAt yX12_wishAt ∈ tGd ∧ Cond.initialized yX12_wishAt.cls ∈ tGd ∧ Cond.code yX12_wishAt cX12_wishAt 9 (some .int) ∈ tGd ∧ okM yX12_wishAt 2 := ⟨tGc11 116 rfl rfl, tG_in 133 (by decide +kernel) (by decide +kernel), tGc1 11 rfl rfl, tGc11 117 rfl rfl, ⟨by decide +kernel, by decide +kernel, by decide +kernel⟩⟩
theorem mwX12_toward : Cond.static yX12_toward ∈ tGd ∧ Cond.initialized yX12_toward.cls ∈ tGd ∧ Cond.code yX12_toward cX12_toward 2 (some .int) ∈ tGd ∧ okM yX12_toward 2 := ⟨tGc11 152 rfl rfl, tGc1 11 rfl rfl, tGc11 153 rfl rfl, ⟨by decide +kernel, by decide +kernel, by decide +kernel⟩⟩
theorem mwX12_within : Cond.static yX12_within ∈ tGd ∧ Cond.initialized yX12_within.cls ∈ tGd ∧ Cond.code yX12_within cX12_within 4 (some .long) ∈ tGd ∧ okM yX12_within 2 := ⟨tGc11 157 rfl rfl, tGc1 11 rfl rfl, tGc11 158 rfl rfl, ⟨by decide +kernel, by decide +kernel, by decide +kernel⟩⟩
theorem mwX12_vote : Cond.instanceMethod yX12_vote ∈ tGd ∧ Cond.selects yX12_vote.cls yX12_vote yX12_vote ∈ tGd ∧ Cond.initialized yX12_vote.cls ∈ tGd ∧ Cond.code yX12_vote cX12_vote 7 none ∈ tGd ∧ okM yX12_vote 1 := ⟨tGc11 125 rfl rfl, tG_in 134 (by decide +kernel) (by decide +kernel), tGc1 11 rfl rfl, tGc11 126 rfl rfl, ⟨by decide +kernel, by decide +kernel, by decide +kernel⟩⟩
theorem mwX12_steer : Cond.instanceMethod yX12_steer ∈ tGd ∧ Cond.selects yX12_steer.cls yX12_steer yX12_steer ∈ tGd ∧ Cond.initialized yX12_steer.cls ∈ tGd ∧ Cond.code yX12_steer cX12_steer 12 none ∈ tGd ∧ okM yX12_steer 1 := ⟨tGc11 149 rfl rfl, tG_in 139 (by decide +kernel) (by decide +kernel), tGc1 11 rfl rfl, tGc11 150 rfl rfl, ⟨by decide +kernel, by decide +kernel, by decide +kernel⟩⟩
theorem mwX12_breathe : Cond.instanceMethod yX12_breathe ∈ tGd ∧ Cond.selects yX12_breathe.cls yX12_breathe yX12_breathe ∈ tGd ∧ Cond.initialized yX12_breathe.cls ∈ tGd ∧ Cond.code yX12_breathe cX12_breathe 16 none ∈ tGd ∧ okM yX12_breathe 1 := ⟨tGc11 166 rfl rfl, tG_in 140 (by decide +kernel) (by decide +kernel), tGc1 11 rfl rfl, tGc11 167 rfl rfl, ⟨by decide +kernel, by decide +kernel, by decide +kernel⟩⟩
theorem mwX12_partWhole : Cond.instanceMethod yX12_partWhole ∈ tGd ∧ Cond.selects yX12_partWhole.cls yX12_partWhole yX12_partWhole ∈ tGd ∧ Cond.initialized yX12_partWhole.cls ∈ tGd ∧ Cond.code yX12_partWhole cX12_partWhole 10 none ∈ tGd ∧ okM yX12_partWhole 2 := ⟨tGc11 183 rfl rfl, tG_in 141 (by decide +kernel) (by decide +kernel), tGc1 11 rfl rfl, tGc11 184 rfl rfl, ⟨by decide +kernel, by decide +kernel, by decide +kernel⟩⟩
theorem mwX12_fromSingle : Cond.static yX12_fromSingle ∈ tGd ∧ Cond.initialized yX12_fromSingle.cls ∈ tGd ∧ Cond.code yX12_fromSingle cX12_fromSingle 6 (some .double) ∈ tGd ∧ okM yX12_fromSingle 1 := ⟨tGc11 197 rfl rfl, tGc1 11 rfl rfl, tGc11 198 rfl rfl, ⟨by decide +kernel, by decide +kernel, by decide +kernel⟩⟩
theorem mwX12_realOf : Cond.static yX12_realOf ∈ tGd ∧ Cond.initialized yX12_realOf.cls ∈ tGd ∧ Cond.code yX12_realOf cX12_realOf 3 (some .double) ∈ tGd ∧ okM yX12_realOf 2 := ⟨tGc11 194 rfl rfl, tGc1 11 rfl rfl, tGc11 195 rfl rfl, ⟨by decide +kernel, by decide +kernel, by decide +kernel⟩⟩
theorem mwX12_isMinus : Cond.static yX12_isMinus ∈ tGd ∧ Cond.initialized yX12_isMinus.cls ∈ tGd ∧ Cond.code yX12_isMinus cX12_isMinus 2 (some .boolean) ∈ tGd ∧ okM yX12_isMinus 1 := ⟨tGc11 217 rfl rfl, tGc1 11 rfl rfl, tGc11 218 rfl rfl, ⟨by decide +kernel, by decide +kernel, by decide +kernel⟩⟩
theorem mwX12_parted : Cond.instanceMethod yX12_parted ∈ tGd ∧ Cond.selects yX12_parted.cls yX12_parted yX12_parted ∈ tGd ∧ Cond.initialized yX12_parted.cls ∈ tGd ∧ Cond.code yX12_parted cX12_parted 6 none ∈ tGd ∧ okM yX12_parted 2 := ⟨tGc11 228 rfl rfl, tG_in 143 (by decide +kernel) (by decide +kernel), tGc1 11 rfl rfl, tGc11 229 rfl rfl, ⟨by decide +kernel, by decide +kernel, by decide +kernel⟩⟩
theorem mwX12_isEndless : Cond.static yX12_isEndless ∈ tGd ∧ Cond.initialized yX12_isEndless.cls ∈ tGd ∧ Cond.code yX12_isEndless cX12_isEndless 2 (some .boolean) ∈ tGd ∧ okM yX12_isEndless 1 := ⟨tGc11 209 rfl rfl, tGc1 11 rfl rfl, tGc11 210 rfl rfl, ⟨by decide +kernel, by decide +kernel, by decide +kernel⟩⟩
theorem mwX12_bits : Cond.instanceMethod yX12_bits ∈ tGd ∧ Cond.selects yX12_bits.cls yX12_bits yX12_bits ∈ tGd ∧ Cond.initialized yX12_bits.cls ∈ tGd ∧ Cond.code yX12_bits cX12_bits 8 (some .long) ∈ tGd ∧ okM yX12_bits 1 := ⟨tGc11 224 rfl rfl, tG_in 142 (by decide +kernel) (by decide +kernel), tGc1 11 rfl rfl, tGc11 225 rfl rfl, ⟨by decide +kernel, by decide +kernel, by decide +kernel⟩⟩
theorem mwX12_overReal : Cond.static yX12_overReal ∈ tGd ∧ Cond.initialized yX12_overReal.cls ∈ tGd ∧ Cond.code yX12_overReal cX12_overReal 5 (some .double) ∈ tGd ∧ okM yX12_overReal 2 := ⟨tGc11 220 rfl rfl, tGc1 11 rfl rfl, tGc11 221 rfl rfl, ⟨by decide +kernel, by decide +kernel, by decide +kernel⟩⟩
theorem mwX12_plusReal : Cond.static yX12_plusReal ∈ tGd ∧ Cond.initialized yX12_plusReal.cls ∈ tGd ∧ Cond.code yX12_plusReal cX12_plusReal 5 (some .double) ∈ tGd ∧ okM yX12_plusReal 2 := ⟨tGc11 206 rfl rfl, tGc1 11 rfl rfl, tGc11 207 rfl rfl, ⟨by decide +kernel, by decide +kernel, by decide +kernel⟩⟩
theorem mwX12_isLess : Cond.static yX12_isLess ∈ tGd ∧ Cond.initialized yX12_isLess.cls ∈ tGd ∧ Cond.code yX12_isLess cX12_isLess 4 (some .boolean) ∈ tGd ∧ okM yX12_isLess 2 := ⟨tGc11 214 rfl rfl, tGc1 11 rfl rfl, tGc11 215 rfl rfl, ⟨by decide +kernel, by decide +kernel, by decide +kernel⟩⟩
theorem mwX12_common : Cond.static yX12_common ∈ tGd ∧ Cond.initialized yX12_common.cls ∈ tGd ∧ Cond.code yX12_common cX12_common 10 (some .long) ∈ tGd ∧ okM yX12_common 2 := ⟨tGc12 14 rfl rfl, tGc1 11 rfl rfl, tGc12 15 rfl rfl, ⟨by decide +kernel, by decide +kernel, by decide +kernel⟩⟩
theorem mwX12_fraction : Cond.instanceMethod yX12_fraction ∈ tGd ∧ Cond.selects yX12_fraction.cls yX12_fraction yX12_fraction ∈ tGd ∧ Cond.initialized yX12_fraction.cls ∈ tGd ∧ Cond.code yX12_fraction cX12_fraction 8 none ∈ tGd ∧ okM yX12_fraction 3 := ⟨tGc12 18 rfl rfl, tG_in 146 (by decide +kernel) (by decide +kernel), tGc1 11 rfl rfl, tGc12 19 rfl rfl, ⟨by decide +kernel, by decide +kernel, by decide +kernel⟩⟩
theorem mwX12_less : Cond.instanceMethod yX12_less ∈ tGd ∧ Cond.selects yX12_less.cls yX12_less yX12_less ∈ tGd ∧ Cond.initialized yX12_less.cls ∈ tGd ∧ Cond.code yX12_less cX12_less 17 none ∈ tGd ∧ okM yX12_less 4 := ⟨tGc12 22 rfl rfl, tG_in 147 (by decide +kernel) (by decide +kernel), tGc1 11 rfl rfl, tGc12 23 rfl rfl, ⟨by decide +kernel, by decide +kernel, by decide +kernel⟩⟩
theorem mwX12_makeWitness : Cond.instanceMethod yX12_makeWitness ∈ tGd ∧ Cond.selects yX12_makeWitness.cls yX12_makeWitness yX12_makeWitness ∈ tGd ∧ Cond.initialized yX12_makeWitness.cls ∈ tGd ∧ Cond.code yX12_makeWitness cX12_makeWitness 9 none ∈ tGd ∧ okM yX12_makeWitness 1 := ⟨tGc12 26 rfl rfl, tG_in 148 (by decide +kernel) (by decide +kernel), tGc1 11 rfl rfl, tGc12 27 rfl rfl, ⟨by decide +kernel, by decide +kernel, by decide +kernel⟩⟩
theorem mwX12_liftRow : Cond.instanceMethod yX12_liftRow ∈ tGd ∧ Cond.selects yX12_liftRow.cls yX12_liftRow yX12_liftRow ∈ tGd ∧ Cond.initialized yX12_liftRow.cls ∈ tGd ∧ Cond.code yX12_liftRow cX12_liftRow 7 none ∈ tGd ∧ okM yX12_liftRow 1 := ⟨tGc12 7 rfl rfl, tG_in 144 (by decide +kernel) (by decide +kernel), tGc1 11 rfl rfl, tGc12 8 rfl rfl, ⟨by decide +kernel, by decide +kernel, by decide +kernel⟩⟩
theorem mwX12_clear : Cond.instanceMethod yX12_clear ∈ tGd ∧ Cond.selects yX12_clear.cls yX12_clear yX12_clear ∈ tGd ∧ Cond.initialized yX12_clear.cls ∈ tGd ∧ Cond.code yX12_clear cX12_clear 12 none ∈ tGd ∧ okM yX12_clear 1 := ⟨tGc12 11 rfl rfl, tG_in 145 (by decide +kernel) (by decide +kernel), tGc1 11 rfl rfl, tGc12 12 rfl rfl, ⟨by decide +kernel, by decide +kernel, by decide +kernel⟩⟩
theorem mwX12_isStage : Cond.static yX12_isStage ∈ tGd ∧ Cond.initialized yX12_isStage.cls ∈ tGd ∧ Cond.code yX12_isStage cX12_isStage 2 (some .boolean) ∈ tGd ∧ okM yX12_isStage 2 := ⟨tGc12 37 rfl rfl, tGc1 11 rfl rfl, tGc12 38 rfl rfl, ⟨by decide +kernel, by decide +kernel, by decide +kernel⟩⟩
theorem mwX12_oneDay : Cond.instanceMethod yX12_oneDay ∈ tGd ∧ Cond.selects yX12_oneDay.cls yX12_oneDay yX12_oneDay ∈ tGd ∧ Cond.initialized yX12_oneDay.cls ∈ tGd ∧ Cond.code yX12_oneDay cX12_oneDay 4 none ∈ tGd ∧ okM yX12_oneDay 1 := ⟨tGc12 49 rfl rfl, tG_in 149 (by decide +kernel) (by decide +kernel), tGc1 11 rfl rfl, tGc12 50 rfl rfl, ⟨by decide +kernel, by decide +kernel, by decide +kernel⟩⟩
theorem mwX12_isPageLane : Cond.static yX12_isPageLane ∈ tGd ∧ Cond.initialized yX12_isPageLane.cls ∈ tGd ∧ Cond.code yX12_isPageLane cX12_isPageLane 1 (some .boolean) ∈ tGd ∧ okM yX12_isPageLane 1 := ⟨tGc12 70 rfl rfl, tGc1 11 rfl rfl, tGc12 71 rfl rfl, ⟨by decide +kernel, by decide +kernel, by decide +kernel⟩⟩
theorem mwX12_layWide : Cond.instanceMethod yX12_layWide ∈ tGd ∧ Cond.selects yX12_layWide.cls yX12_layWide yX12_layWide ∈ tGd ∧ Cond.initialized yX12_layWide.cls ∈ tGd ∧ Cond.code yX12_layWide cX12_layWide 6 none ∈ tGd ∧ okM yX12_layWide 3 := ⟨tGc12 75 rfl rfl, tG_in 150 (by decide +kernel) (by decide +kernel), tGc1 11 rfl rfl, tGc12 76 rfl rfl, ⟨by decide +kernel, by decide +kernel, by decide +kernel⟩⟩
theorem mwX12_sumOf : Cond.static yX12_sumOf ∈ tGd ∧ Cond.initialized yX12_sumOf.cls ∈ tGd ∧ Cond.code yX12_sumOf cX12_sumOf 5 (some .int) ∈ tGd ∧ okM yX12_sumOf 2 := ⟨tGc12 79 rfl rfl, tGc1 11 rfl rfl, tGc12 80 rfl rfl, ⟨by decide +kernel, by decide +kernel, by decide +kernel⟩⟩
theorem mwX12_wide : Cond.static yX12_wide ∈ tGd ∧ Cond.initialized yX12_wide.cls ∈ tGd ∧ Cond.code yX12_wide cX12_wide 6 (some .long) ∈ tGd ∧ okM yX12_wide 3 := ⟨tGc12 99 rfl rfl, tGc1 11 rfl rfl, tGc12 100 rfl rfl, ⟨by decide +kernel, by decide +kernel, by decide +kernel⟩⟩
theorem mwX12_numberOf : Cond.instanceMethod yX12_numberOf ∈ tGd ∧ Cond.selects yX12_numberOf.cls yX12_numberOf yX12_numberOf ∈ tGd ∧ Cond.initialized yX12_numberOf.cls ∈ tGd ∧ Cond.code yX12_numberOf cX12_numberOf 2 (some .int) ∈ tGd ∧ okM yX12_numberOf 1 := ⟨tGc12 96 rfl rfl, tG_in 152 (by decide +kernel) (by decide +kernel), tGc1 11 rfl rfl, tGc12 97 rfl rfl, ⟨by decide +kernel, by decide +kernel, by decide +kernel⟩⟩
theorem mwX12_isWhole : Cond.instanceMethod yX12_isWhole ∈ tGd ∧ Cond.selects yX12_isWhole.cls yX12_isWhole yX12_isWhole ∈ tGd ∧ Cond.initialized yX12_isWhole.cls ∈ tGd ∧ Cond.code yX12_isWhole cX12_isWhole 9 (some .boolean) ∈ tGd ∧ okM yX12_isWhole 1 := ⟨tGc12 92 rfl rfl, tG_in 151 (by decide +kernel) (by decide +kernel), tGc1 11 rfl rfl, tGc12 93 rfl rfl, ⟨by decide +kernel, by decide +kernel, by decide +kernel⟩⟩
theorem mwX12_above : Cond.instanceMethod yX12_above ∈ tGd ∧ Cond.selects yX12_above.cls yX12_above yX12_above ∈ tGd ∧ Cond.initialized yX12_above.cls ∈ tGd ∧ Cond.code yX12_above cX12_above 5 (some .int) ∈ tGd ∧ okM yX12_above 1 := ⟨tGc12 107 rfl rfl, tG_in 154 (by decide +kernel) (by decide +kernel), tGc1 11 rfl rfl, tGc12 108 rfl rfl, ⟨by decide +kernel, by decide +kernel, by decide +kernel⟩⟩
theorem mwX12_readMany : Cond.instanceMethod yX12_readMany ∈ tGd ∧ Cond.selects yX12_readMany.cls yX12_readMany yX12_readMany ∈ tGd ∧ Cond.initialized yX12_readMany.cls ∈ tGd ∧ Cond.code yX12_readMany cX12_readMany 3 (some .int) ∈ tGd ∧ okM yX12_readMany 0 := ⟨tGc12 103 rfl rfl, tG_in 153 (by decide +kernel) (by decide +kernel), tGc1 11 rfl rfl, tGc12 104 rfl rfl, ⟨by decide +kernel, by decide +kernel, by decide +kernel⟩⟩
theorem mwX12_pageOf : Cond.instanceMethod yX12_pageOf ∈ tGd ∧ Cond.selects yX12_pageOf.cls yX12_pageOf yX12_pageOf ∈ tGd ∧ Cond.initialized yX12_pageOf.cls ∈ tGd ∧ Cond.code yX12_pageOf cX12_pageOf 3 (some .int) ∈ tGd ∧ okM yX12_pageOf 1 := ⟨tGc12 115 rfl rfl, tG_in 155 (by decide +kernel) (by decide +kernel), tGc1 11 rfl rfl, tGc12 116 rfl rfl, ⟨by decide +kernel, by decide +kernel, by decide +kernel⟩⟩
theorem mwX12_clash : Cond.instanceMethod yX12_clash ∈ tGd ∧ Cond.selects yX12_clash.cls yX12_clash yX12_clash ∈ tGd ∧ Cond.initialized yX12_clash.cls ∈ tGd ∧ Cond.code yX12_clash cX12_clash 6 (some .int) ∈ tGd ∧ okM yX12_clash 0 := ⟨tGc12 131 rfl rfl, tG_in 156 (by decide +kernel) (by decide +kernel), tGc1 11 rfl rfl, tGc12 132 rfl rfl, ⟨by decide +kernel, by decide +kernel, by decide +kernel⟩⟩
