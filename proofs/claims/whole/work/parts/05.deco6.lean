theorem dX12_told_75 : decode cX12_told 75 = .ok (.aload_n 0, 1) := by decide +kernel
theorem dX12_told_76 : decode cX12_told 76 = .ok (.getfield 792, 3) := by decide +kernel
theorem dX12_told_79 : decode cX12_told 79 = .ok (.ireturn, 1) := by decide +kernel
theorem dX12_told_80 : decode cX12_told 80 = .ok (.aload_n 0, 1) := by decide +kernel
theorem dX12_told_81 : decode cX12_told 81 = .ok (.getfield 789, 3) := by decide +kernel
theorem dX12_told_84 : decode cX12_told 84 = .ok (.ireturn, 1) := by decide +kernel
theorem dX12_told_85 : decode cX12_told 85 = .ok (.aload_n 0, 1) := by decide +kernel
theorem dX12_told_86 : decode cX12_told 86 = .ok (.getfield 786, 3) := by decide +kernel
theorem dX12_told_89 : decode cX12_told 89 = .ok (.ifCond .eq 7, 3) := by decide +kernel
theorem dX12_told_92 : decode cX12_told 92 = .ok (.iconst 1, 1) := by decide +kernel
theorem dX12_told_93 : decode cX12_told 93 = .ok (.goto 4, 3) := by decide +kernel
theorem dX12_told_96 : decode cX12_told 96 = .ok (.iconst 0, 1) := by decide +kernel
theorem dX12_told_97 : decode cX12_told 97 = .ok (.ireturn, 1) := by decide +kernel
theorem dX12_told_98 : decode cX12_told 98 = .ok (.aload_n 0, 1) := by decide +kernel
theorem dX12_told_99 : decode cX12_told 99 = .ok (.invokevirtual 823, 3) := by decide +kernel
theorem dX12_told_102 : decode cX12_told 102 = .ok (.ireturn, 1) := by decide +kernel
theorem dX12_told_103 : decode cX12_told 103 = .ok (.aload_n 0, 1) := by decide +kernel
theorem dX12_told_104 : decode cX12_told 104 = .ok (.getfield 769, 3) := by decide +kernel
theorem dX12_told_107 : decode cX12_told 107 = .ok (.ireturn, 1) := by decide +kernel
theorem dX12_told_108 : decode cX12_told 108 = .ok (.aload_n 0, 1) := by decide +kernel
theorem dX12_told_109 : decode cX12_told 109 = .ok (.invokevirtual 817, 3) := by decide +kernel
theorem dX12_told_112 : decode cX12_told 112 = .ok (.ireturn, 1) := by decide +kernel
theorem dX12_told_113 : decode cX12_told 113 = .ok (.aload_n 0, 1) := by decide +kernel
theorem dX12_told_114 : decode cX12_told 114 = .ok (.getfield 74, 3) := by decide +kernel
theorem dX12_told_117 : decode cX12_told 117 = .ok (.iconst 0, 1) := by decide +kernel
theorem dX12_told_118 : decode cX12_told 118 = .ok (.iaload, 1) := by decide +kernel
theorem dX12_told_119 : decode cX12_told 119 = .ok (.aload_n 0, 1) := by decide +kernel
theorem dX12_told_120 : decode cX12_told 120 = .ok (.getfield 74, 3) := by decide +kernel
theorem dX12_told_123 : decode cX12_told 123 = .ok (.iconst 1, 1) := by decide +kernel
theorem dX12_told_124 : decode cX12_told 124 = .ok (.iaload, 1) := by decide +kernel
theorem dX12_told_125 : decode cX12_told 125 = .ok (.iadd, 1) := by decide +kernel
theorem dX12_told_126 : decode cX12_told 126 = .ok (.aload_n 0, 1) := by decide +kernel
theorem dX12_told_127 : decode cX12_told 127 = .ok (.getfield 74, 3) := by decide +kernel
theorem dX12_told_130 : decode cX12_told 130 = .ok (.iconst 2, 1) := by decide +kernel
theorem dX12_told_131 : decode cX12_told 131 = .ok (.iaload, 1) := by decide +kernel
theorem dX12_told_132 : decode cX12_told 132 = .ok (.iadd, 1) := by decide +kernel
theorem dX12_told_133 : decode cX12_told 133 = .ok (.aload_n 0, 1) := by decide +kernel
theorem dX12_told_134 : decode cX12_told 134 = .ok (.getfield 74, 3) := by decide +kernel
theorem dX12_told_137 : decode cX12_told 137 = .ok (.iconst 3, 1) := by decide +kernel
theorem dX12_told_138 : decode cX12_told 138 = .ok (.iaload, 1) := by decide +kernel
theorem dX12_told_139 : decode cX12_told 139 = .ok (.iadd, 1) := by decide +kernel
theorem dX12_told_140 : decode cX12_told 140 = .ok (.ireturn, 1) := by decide +kernel
theorem dX12_told_141 : decode cX12_told 141 = .ok (.aload_n 0, 1) := by decide +kernel
theorem dX12_told_142 : decode cX12_told 142 = .ok (.getfield 617, 3) := by decide +kernel
theorem dX12_told_145 : decode cX12_told 145 = .ok (.ireturn, 1) := by decide +kernel
theorem dX12_told_146 : decode cX12_told 146 = .ok (.bipush (-2), 2) := by decide +kernel
theorem dX12_told_148 : decode cX12_told 148 = .ok (.ireturn, 1) := by decide +kernel
theorem dX12_fault_0 : decode cX12_fault 0 = .ok (.aload_n 0, 1) := by decide +kernel
theorem dX12_fault_1 : decode cX12_fault 1 = .ok (.getfield 305, 3) := by decide +kernel
theorem dX12_fault_4 : decode cX12_fault 4 = .ok (.ireturn, 1) := by decide +kernel
theorem dX12_powerOf_0 : decode cX12_powerOf 0 = .ok (.dconst 1, 1) := by decide +kernel
theorem dX12_powerOf_1 : decode cX12_powerOf 1 = .ok (.dstore_n 1, 1) := by decide +kernel
theorem dX12_powerOf_2 : decode cX12_powerOf 2 = .ok (.iload_n 0, 1) := by decide +kernel
theorem dX12_powerOf_3 : decode cX12_powerOf 3 = .ok (.ifCond .ge 9, 3) := by decide +kernel
theorem dX12_powerOf_6 : decode cX12_powerOf 6 = .ok (.ldc2_w 826, 3) := by decide +kernel
theorem dX12_powerOf_9 : decode cX12_powerOf 9 = .ok (.goto 6, 3) := by decide +kernel
theorem dX12_powerOf_12 : decode cX12_powerOf 12 = .ok (.ldc2_w 198, 3) := by decide +kernel
theorem dX12_powerOf_15 : decode cX12_powerOf 15 = .ok (.dstore_n 3, 1) := by decide +kernel
theorem dX12_powerOf_16 : decode cX12_powerOf 16 = .ok (.iload_n 0, 1) := by decide +kernel
theorem dX12_powerOf_17 : decode cX12_powerOf 17 = .ok (.ifCond .ge 8, 3) := by decide +kernel
theorem dX12_powerOf_20 : decode cX12_powerOf 20 = .ok (.iload_n 0, 1) := by decide +kernel
theorem dX12_powerOf_21 : decode cX12_powerOf 21 = .ok (.ineg, 1) := by decide +kernel
theorem dX12_powerOf_22 : decode cX12_powerOf 22 = .ok (.goto 4, 3) := by decide +kernel
theorem dX12_powerOf_25 : decode cX12_powerOf 25 = .ok (.iload_n 0, 1) := by decide +kernel
theorem dX12_powerOf_26 : decode cX12_powerOf 26 = .ok (.istore 5, 2) := by decide +kernel
theorem dX12_powerOf_28 : decode cX12_powerOf 28 = .ok (.iconst 0, 1) := by decide +kernel
theorem dX12_powerOf_29 : decode cX12_powerOf 29 = .ok (.istore 6, 2) := by decide +kernel
theorem dX12_powerOf_31 : decode cX12_powerOf 31 = .ok (.iload 6, 2) := by decide +kernel
theorem dX12_powerOf_33 : decode cX12_powerOf 33 = .ok (.iload 5, 2) := by decide +kernel
theorem dX12_powerOf_35 : decode cX12_powerOf 35 = .ok (.if_icmp .ge 13, 3) := by decide +kernel
theorem dX12_powerOf_38 : decode cX12_powerOf 38 = .ok (.dload_n 1, 1) := by decide +kernel
theorem dX12_powerOf_39 : decode cX12_powerOf 39 = .ok (.dload_n 3, 1) := by decide +kernel
theorem dX12_powerOf_40 : decode cX12_powerOf 40 = .ok (.dmul, 1) := by decide +kernel
theorem dX12_powerOf_41 : decode cX12_powerOf 41 = .ok (.dstore_n 1, 1) := by decide +kernel
theorem dX12_powerOf_42 : decode cX12_powerOf 42 = .ok (.iinc 6 1, 3) := by decide +kernel
theorem dX12_powerOf_45 : decode cX12_powerOf 45 = .ok (.goto (-14), 3) := by decide +kernel
theorem dX12_powerOf_48 : decode cX12_powerOf 48 = .ok (.dload_n 1, 1) := by decide +kernel
theorem dX12_powerOf_49 : decode cX12_powerOf 49 = .ok (.dreturn, 1) := by decide +kernel
theorem dX12_scaled_0 : decode cX12_scaled 0 = .ok (.iload_n 2, 1) := by decide +kernel
theorem dX12_scaled_1 : decode cX12_scaled 1 = .ok (.ifCond .lt 11, 3) := by decide +kernel
theorem dX12_scaled_4 : decode cX12_scaled 4 = .ok (.lload_n 0, 1) := by decide +kernel
theorem dX12_scaled_5 : decode cX12_scaled 5 = .ok (.l2d, 1) := by decide +kernel
theorem dX12_scaled_6 : decode cX12_scaled 6 = .ok (.iload_n 2, 1) := by decide +kernel
theorem dX12_scaled_7 : decode cX12_scaled 7 = .ok (.invokestatic 828, 3) := by decide +kernel
theorem dX12_scaled_10 : decode cX12_scaled 10 = .ok (.dmul, 1) := by decide +kernel
theorem dX12_scaled_11 : decode cX12_scaled 11 = .ok (.dreturn, 1) := by decide +kernel
theorem dX12_scaled_12 : decode cX12_scaled 12 = .ok (.iload_n 2, 1) := by decide +kernel
theorem dX12_scaled_13 : decode cX12_scaled 13 = .ok (.iconst 2, 1) := by decide +kernel
theorem dX12_scaled_14 : decode cX12_scaled 14 = .ok (.idiv, 1) := by decide +kernel
theorem dX12_scaled_15 : decode cX12_scaled 15 = .ok (.istore_n 3, 1) := by decide +kernel
theorem dX12_scaled_16 : decode cX12_scaled 16 = .ok (.lload_n 0, 1) := by decide +kernel
theorem dX12_scaled_17 : decode cX12_scaled 17 = .ok (.l2d, 1) := by decide +kernel
theorem dX12_scaled_18 : decode cX12_scaled 18 = .ok (.iload_n 3, 1) := by decide +kernel
theorem dX12_scaled_19 : decode cX12_scaled 19 = .ok (.invokestatic 828, 3) := by decide +kernel
theorem dX12_scaled_22 : decode cX12_scaled 22 = .ok (.dmul, 1) := by decide +kernel
theorem dX12_scaled_23 : decode cX12_scaled 23 = .ok (.iload_n 2, 1) := by decide +kernel
theorem dX12_scaled_24 : decode cX12_scaled 24 = .ok (.iload_n 3, 1) := by decide +kernel
theorem dX12_scaled_25 : decode cX12_scaled 25 = .ok (.isub, 1) := by decide +kernel
theorem dX12_scaled_26 : decode cX12_scaled 26 = .ok (.invokestatic 828, 3) := by decide +kernel
theorem dX12_scaled_29 : decode cX12_scaled 29 = .ok (.dmul, 1) := by decide +kernel
theorem dX12_scaled_30 : decode cX12_scaled 30 = .ok (.dreturn, 1) := by decide +kernel
theorem dX12_great_0 : decode cX12_great 0 = .ok (.sipush 1023, 3) := by decide +kernel
theorem dX12_great_3 : decode cX12_great 3 = .ok (.invokestatic 828, 3) := by decide +kernel
theorem dX12_great_6 : decode cX12_great 6 = .ok (.ldc2_w 198, 3) := by decide +kernel
theorem dX12_great_9 : decode cX12_great 9 = .ok (.dmul, 1) := by decide +kernel
theorem dX12_great_10 : decode cX12_great 10 = .ok (.dreturn, 1) := by decide +kernel
theorem dX12_isEndless_0 : decode cX12_isEndless 0 = .ok (.dload_n 0, 1) := by decide +kernel
theorem dX12_isEndless_1 : decode cX12_isEndless 1 = .ok (.ldc2_w 831, 3) := by decide +kernel
theorem dX12_isEndless_4 : decode cX12_isEndless 4 = .ok (.dcmp .l, 1) := by decide +kernel
theorem dX12_isEndless_5 : decode cX12_isEndless 5 = .ok (.ifCond .gt 11, 3) := by decide +kernel
theorem dX12_isEndless_8 : decode cX12_isEndless 8 = .ok (.dload_n 0, 1) := by decide +kernel
theorem dX12_isEndless_9 : decode cX12_isEndless 9 = .ok (.ldc2_w 833, 3) := by decide +kernel
theorem dX12_isEndless_12 : decode cX12_isEndless 12 = .ok (.dcmp .g, 1) := by decide +kernel
theorem dX12_isEndless_13 : decode cX12_isEndless 13 = .ok (.ifCond .ge 7, 3) := by decide +kernel
theorem dX12_isEndless_16 : decode cX12_isEndless 16 = .ok (.iconst 1, 1) := by decide +kernel
theorem dX12_isEndless_17 : decode cX12_isEndless 17 = .ok (.goto 4, 3) := by decide +kernel
theorem dX12_isEndless_20 : decode cX12_isEndless 20 = .ok (.iconst 0, 1) := by decide +kernel
theorem dX12_isEndless_21 : decode cX12_isEndless 21 = .ok (.ireturn, 1) := by decide +kernel
theorem dX12_plusReal_0 : decode cX12_plusReal 0 = .ok (.dload_n 0, 1) := by decide +kernel
theorem dX12_plusReal_1 : decode cX12_plusReal 1 = .ok (.invokestatic 835, 3) := by decide +kernel
theorem dX12_plusReal_4 : decode cX12_plusReal 4 = .ok (.ifCond .eq 39, 3) := by decide +kernel
theorem dX12_plusReal_7 : decode cX12_plusReal 7 = .ok (.dload_n 2, 1) := by decide +kernel
theorem dX12_plusReal_8 : decode cX12_plusReal 8 = .ok (.invokestatic 835, 3) := by decide +kernel
theorem dX12_plusReal_11 : decode cX12_plusReal 11 = .ok (.ifCond .eq 32, 3) := by decide +kernel
theorem dX12_plusReal_14 : decode cX12_plusReal 14 = .ok (.dload_n 0, 1) := by decide +kernel
theorem dX12_plusReal_15 : decode cX12_plusReal 15 = .ok (.dconst 0, 1) := by decide +kernel
theorem dX12_plusReal_16 : decode cX12_plusReal 16 = .ok (.dcmp .l, 1) := by decide +kernel
theorem dX12_plusReal_17 : decode cX12_plusReal 17 = .ok (.ifCond .le 7, 3) := by decide +kernel
theorem dX12_plusReal_20 : decode cX12_plusReal 20 = .ok (.iconst 1, 1) := by decide +kernel
theorem dX12_plusReal_21 : decode cX12_plusReal 21 = .ok (.goto 4, 3) := by decide +kernel
theorem dX12_plusReal_24 : decode cX12_plusReal 24 = .ok (.iconst 0, 1) := by decide +kernel
theorem dX12_plusReal_25 : decode cX12_plusReal 25 = .ok (.dload_n 2, 1) := by decide +kernel
theorem dX12_plusReal_26 : decode cX12_plusReal 26 = .ok (.dconst 0, 1) := by decide +kernel
theorem dX12_plusReal_27 : decode cX12_plusReal 27 = .ok (.dcmp .l, 1) := by decide +kernel
theorem dX12_plusReal_28 : decode cX12_plusReal 28 = .ok (.ifCond .le 7, 3) := by decide +kernel
theorem dX12_plusReal_31 : decode cX12_plusReal 31 = .ok (.iconst 1, 1) := by decide +kernel
theorem dX12_plusReal_32 : decode cX12_plusReal 32 = .ok (.goto 4, 3) := by decide +kernel
theorem dX12_plusReal_35 : decode cX12_plusReal 35 = .ok (.iconst 0, 1) := by decide +kernel
theorem dX12_plusReal_36 : decode cX12_plusReal 36 = .ok (.if_icmp .eq 7, 3) := by decide +kernel
theorem dX12_plusReal_39 : decode cX12_plusReal 39 = .ok (.iconst 1, 1) := by decide +kernel
theorem dX12_plusReal_40 : decode cX12_plusReal 40 = .ok (.goto 4, 3) := by decide +kernel
theorem dX12_plusReal_43 : decode cX12_plusReal 43 = .ok (.iconst 0, 1) := by decide +kernel
theorem dX12_plusReal_44 : decode cX12_plusReal 44 = .ok (.istore 4, 2) := by decide +kernel
theorem dX12_plusReal_46 : decode cX12_plusReal 46 = .ok (.dload_n 0, 1) := by decide +kernel
theorem dX12_plusReal_47 : decode cX12_plusReal 47 = .ok (.dload_n 0, 1) := by decide +kernel
theorem dX12_plusReal_48 : decode cX12_plusReal 48 = .ok (.dcmp .l, 1) := by decide +kernel
theorem dX12_plusReal_49 : decode cX12_plusReal 49 = .ok (.ifCond .ne 14, 3) := by decide +kernel
theorem dX12_plusReal_52 : decode cX12_plusReal 52 = .ok (.dload_n 2, 1) := by decide +kernel
theorem dX12_plusReal_53 : decode cX12_plusReal 53 = .ok (.dload_n 2, 1) := by decide +kernel
theorem dX12_plusReal_54 : decode cX12_plusReal 54 = .ok (.dcmp .l, 1) := by decide +kernel
theorem dX12_plusReal_55 : decode cX12_plusReal 55 = .ok (.ifCond .ne 8, 3) := by decide +kernel
theorem dX12_plusReal_58 : decode cX12_plusReal 58 = .ok (.iload 4, 2) := by decide +kernel
theorem dX12_plusReal_60 : decode cX12_plusReal 60 = .ok (.ifCond .eq 9, 3) := by decide +kernel
theorem dX12_plusReal_63 : decode cX12_plusReal 63 = .ok (.ldc2_w 838, 3) := by decide +kernel
theorem dX12_plusReal_66 : decode cX12_plusReal 66 = .ok (.goto 6, 3) := by decide +kernel
theorem dX12_plusReal_69 : decode cX12_plusReal 69 = .ok (.dload_n 0, 1) := by decide +kernel
theorem dX12_plusReal_70 : decode cX12_plusReal 70 = .ok (.dload_n 2, 1) := by decide +kernel
theorem dX12_plusReal_71 : decode cX12_plusReal 71 = .ok (.dadd, 1) := by decide +kernel
theorem dX12_plusReal_72 : decode cX12_plusReal 72 = .ok (.dreturn, 1) := by decide +kernel
theorem dX12_overReal_0 : decode cX12_overReal 0 = .ok (.dload_n 0, 1) := by decide +kernel
theorem dX12_overReal_1 : decode cX12_overReal 1 = .ok (.dconst 0, 1) := by decide +kernel
theorem dX12_overReal_2 : decode cX12_overReal 2 = .ok (.dcmp .l, 1) := by decide +kernel
theorem dX12_overReal_3 : decode cX12_overReal 3 = .ok (.ifCond .ne 9, 3) := by decide +kernel
theorem dX12_overReal_6 : decode cX12_overReal 6 = .ok (.dload_n 2, 1) := by decide +kernel
theorem dX12_overReal_7 : decode cX12_overReal 7 = .ok (.dconst 0, 1) := by decide +kernel
theorem dX12_overReal_8 : decode cX12_overReal 8 = .ok (.dcmp .l, 1) := by decide +kernel
theorem dX12_overReal_9 : decode cX12_overReal 9 = .ok (.ifCond .eq 17, 3) := by decide +kernel
theorem dX12_overReal_12 : decode cX12_overReal 12 = .ok (.dload_n 0, 1) := by decide +kernel
theorem dX12_overReal_13 : decode cX12_overReal 13 = .ok (.invokestatic 835, 3) := by decide +kernel
theorem dX12_overReal_16 : decode cX12_overReal 16 = .ok (.ifCond .eq 14, 3) := by decide +kernel
theorem dX12_overReal_19 : decode cX12_overReal 19 = .ok (.dload_n 2, 1) := by decide +kernel
theorem dX12_overReal_20 : decode cX12_overReal 20 = .ok (.invokestatic 835, 3) := by decide +kernel
theorem dX12_overReal_23 : decode cX12_overReal 23 = .ok (.ifCond .eq 7, 3) := by decide +kernel
theorem dX12_overReal_26 : decode cX12_overReal 26 = .ok (.iconst 1, 1) := by decide +kernel
theorem dX12_overReal_27 : decode cX12_overReal 27 = .ok (.goto 4, 3) := by decide +kernel
theorem dX12_overReal_30 : decode cX12_overReal 30 = .ok (.iconst 0, 1) := by decide +kernel
theorem dX12_overReal_31 : decode cX12_overReal 31 = .ok (.istore 4, 2) := by decide +kernel
theorem dX12_overReal_33 : decode cX12_overReal 33 = .ok (.dload_n 0, 1) := by decide +kernel
theorem dX12_overReal_34 : decode cX12_overReal 34 = .ok (.dload_n 0, 1) := by decide +kernel
theorem dX12_overReal_35 : decode cX12_overReal 35 = .ok (.dcmp .l, 1) := by decide +kernel
theorem dX12_overReal_36 : decode cX12_overReal 36 = .ok (.ifCond .ne 14, 3) := by decide +kernel
theorem dX12_overReal_39 : decode cX12_overReal 39 = .ok (.dload_n 2, 1) := by decide +kernel
theorem dX12_overReal_40 : decode cX12_overReal 40 = .ok (.dload_n 2, 1) := by decide +kernel
theorem dX12_overReal_41 : decode cX12_overReal 41 = .ok (.dcmp .l, 1) := by decide +kernel
theorem dX12_overReal_42 : decode cX12_overReal 42 = .ok (.ifCond .ne 8, 3) := by decide +kernel
theorem dX12_overReal_45 : decode cX12_overReal 45 = .ok (.iload 4, 2) := by decide +kernel
theorem dX12_overReal_47 : decode cX12_overReal 47 = .ok (.ifCond .eq 9, 3) := by decide +kernel
theorem dX12_overReal_50 : decode cX12_overReal 50 = .ok (.ldc2_w 838, 3) := by decide +kernel
theorem dX12_overReal_53 : decode cX12_overReal 53 = .ok (.goto 6, 3) := by decide +kernel
theorem dX12_overReal_56 : decode cX12_overReal 56 = .ok (.dload_n 0, 1) := by decide +kernel
theorem dX12_overReal_57 : decode cX12_overReal 57 = .ok (.dload_n 2, 1) := by decide +kernel
theorem dX12_overReal_58 : decode cX12_overReal 58 = .ok (.ddiv, 1) := by decide +kernel
theorem dX12_overReal_59 : decode cX12_overReal 59 = .ok (.dreturn, 1) := by decide +kernel
theorem dX12_fromBits_0 : decode cX12_fromBits 0 = .ok (.lload_n 0, 1) := by decide +kernel
theorem dX12_fromBits_1 : decode cX12_fromBits 1 = .ok (.bipush 52, 2) := by decide +kernel
theorem dX12_fromBits_3 : decode cX12_fromBits 3 = .ok (.lshr, 1) := by decide +kernel
theorem dX12_fromBits_4 : decode cX12_fromBits 4 = .ok (.ldc2_w 840, 3) := by decide +kernel
theorem dX12_fromBits_7 : decode cX12_fromBits 7 = .ok (.land, 1) := by decide +kernel
theorem dX12_fromBits_8 : decode cX12_fromBits 8 = .ok (.l2i, 1) := by decide +kernel
theorem dX12_fromBits_9 : decode cX12_fromBits 9 = .ok (.istore_n 2, 1) := by decide +kernel
theorem dX12_fromBits_10 : decode cX12_fromBits 10 = .ok (.lload_n 0, 1) := by decide +kernel
theorem dX12_fromBits_11 : decode cX12_fromBits 11 = .ok (.ldc2_w 842, 3) := by decide +kernel
theorem dX12_fromBits_14 : decode cX12_fromBits 14 = .ok (.land, 1) := by decide +kernel
theorem dX12_fromBits_15 : decode cX12_fromBits 15 = .ok (.lstore_n 3, 1) := by decide +kernel
theorem dX12_fromBits_16 : decode cX12_fromBits 16 = .ok (.iload_n 2, 1) := by decide +kernel
theorem dX12_fromBits_17 : decode cX12_fromBits 17 = .ok (.sipush 2047, 3) := by decide +kernel
theorem dX12_fromBits_20 : decode cX12_fromBits 20 = .ok (.if_icmp .ne 21, 3) := by decide +kernel
theorem dX12_fromBits_23 : decode cX12_fromBits 23 = .ok (.lload_n 3, 1) := by decide +kernel
theorem dX12_fromBits_24 : decode cX12_fromBits 24 = .ok (.lconst 0, 1) := by decide +kernel
theorem dX12_fromBits_25 : decode cX12_fromBits 25 = .ok (.lcmp, 1) := by decide +kernel
theorem dX12_fromBits_26 : decode cX12_fromBits 26 = .ok (.ifCond .eq 7, 3) := by decide +kernel
theorem dX12_fromBits_29 : decode cX12_fromBits 29 = .ok (.ldc2_w 838, 3) := by decide +kernel
theorem dX12_fromBits_32 : decode cX12_fromBits 32 = .ok (.dreturn, 1) := by decide +kernel
theorem dX12_fromBits_33 : decode cX12_fromBits 33 = .ok (.invokestatic 844, 3) := by decide +kernel
theorem dX12_fromBits_36 : decode cX12_fromBits 36 = .ok (.dstore 5, 2) := by decide +kernel
theorem dX12_fromBits_38 : decode cX12_fromBits 38 = .ok (.goto 32, 3) := by decide +kernel
theorem dX12_fromBits_41 : decode cX12_fromBits 41 = .ok (.iload_n 2, 1) := by decide +kernel
theorem dX12_fromBits_42 : decode cX12_fromBits 42 = .ok (.ifCond .ne 13, 3) := by decide +kernel
theorem dX12_fromBits_45 : decode cX12_fromBits 45 = .ok (.lload_n 3, 1) := by decide +kernel
theorem dX12_fromBits_46 : decode cX12_fromBits 46 = .ok (.sipush (-1074), 3) := by decide +kernel
theorem dX12_fromBits_49 : decode cX12_fromBits 49 = .ok (.invokestatic 848, 3) := by decide +kernel
theorem dX12_fromBits_52 : decode cX12_fromBits 52 = .ok (.goto 16, 3) := by decide +kernel
theorem dX12_fromBits_55 : decode cX12_fromBits 55 = .ok (.lload_n 3, 1) := by decide +kernel
theorem dX12_fromBits_56 : decode cX12_fromBits 56 = .ok (.ldc2_w 852, 3) := by decide +kernel
theorem dX12_fromBits_59 : decode cX12_fromBits 59 = .ok (.lor, 1) := by decide +kernel
theorem dX12_fromBits_60 : decode cX12_fromBits 60 = .ok (.iload_n 2, 1) := by decide +kernel
theorem dX12_fromBits_61 : decode cX12_fromBits 61 = .ok (.sipush 1075, 3) := by decide +kernel
theorem dX12_fromBits_64 : decode cX12_fromBits 64 = .ok (.isub, 1) := by decide +kernel
theorem dX12_fromBits_65 : decode cX12_fromBits 65 = .ok (.invokestatic 848, 3) := by decide +kernel
theorem dX12_fromBits_68 : decode cX12_fromBits 68 = .ok (.dstore 5, 2) := by decide +kernel
theorem dX12_fromBits_70 : decode cX12_fromBits 70 = .ok (.lload_n 0, 1) := by decide +kernel
theorem dX12_fromBits_71 : decode cX12_fromBits 71 = .ok (.lconst 0, 1) := by decide +kernel
theorem dX12_fromBits_72 : decode cX12_fromBits 72 = .ok (.lcmp, 1) := by decide +kernel
theorem dX12_fromBits_73 : decode cX12_fromBits 73 = .ok (.ifCond .ge 9, 3) := by decide +kernel
theorem dX12_fromBits_76 : decode cX12_fromBits 76 = .ok (.dload 5, 2) := by decide +kernel
theorem dX12_fromBits_78 : decode cX12_fromBits 78 = .ok (.dneg, 1) := by decide +kernel
theorem dX12_fromBits_79 : decode cX12_fromBits 79 = .ok (.goto 5, 3) := by decide +kernel
theorem dX12_fromBits_82 : decode cX12_fromBits 82 = .ok (.dload 5, 2) := by decide +kernel
theorem dX12_fromBits_84 : decode cX12_fromBits 84 = .ok (.dreturn, 1) := by decide +kernel
theorem dX12_fromSingle_0 : decode cX12_fromSingle 0 = .ok (.iload_n 0, 1) := by decide +kernel
theorem dX12_fromSingle_1 : decode cX12_fromSingle 1 = .ok (.bipush 23, 2) := by decide +kernel
theorem dX12_fromSingle_3 : decode cX12_fromSingle 3 = .ok (.ishr, 1) := by decide +kernel
theorem dX12_fromSingle_4 : decode cX12_fromSingle 4 = .ok (.sipush 255, 3) := by decide +kernel
theorem dX12_fromSingle_7 : decode cX12_fromSingle 7 = .ok (.iand, 1) := by decide +kernel
theorem dX12_fromSingle_8 : decode cX12_fromSingle 8 = .ok (.istore_n 1, 1) := by decide +kernel
theorem dX12_fromSingle_9 : decode cX12_fromSingle 9 = .ok (.iload_n 0, 1) := by decide +kernel
theorem dX12_fromSingle_10 : decode cX12_fromSingle 10 = .ok (.i2l, 1) := by decide +kernel
theorem dX12_fromSingle_11 : decode cX12_fromSingle 11 = .ok (.ldc2_w 854, 3) := by decide +kernel
theorem dX12_fromSingle_14 : decode cX12_fromSingle 14 = .ok (.land, 1) := by decide +kernel
theorem dX12_fromSingle_15 : decode cX12_fromSingle 15 = .ok (.lstore_n 2, 1) := by decide +kernel
theorem dX12_fromSingle_16 : decode cX12_fromSingle 16 = .ok (.iload_n 1, 1) := by decide +kernel
theorem dX12_fromSingle_17 : decode cX12_fromSingle 17 = .ok (.sipush 255, 3) := by decide +kernel
theorem dX12_fromSingle_20 : decode cX12_fromSingle 20 = .ok (.if_icmp .ne 21, 3) := by decide +kernel
theorem dX12_fromSingle_23 : decode cX12_fromSingle 23 = .ok (.lload_n 2, 1) := by decide +kernel
theorem dX12_fromSingle_24 : decode cX12_fromSingle 24 = .ok (.lconst 0, 1) := by decide +kernel
theorem dX12_fromSingle_25 : decode cX12_fromSingle 25 = .ok (.lcmp, 1) := by decide +kernel
theorem dX12_fromSingle_26 : decode cX12_fromSingle 26 = .ok (.ifCond .eq 7, 3) := by decide +kernel
theorem dX12_fromSingle_29 : decode cX12_fromSingle 29 = .ok (.ldc2_w 838, 3) := by decide +kernel
theorem dX12_fromSingle_32 : decode cX12_fromSingle 32 = .ok (.dreturn, 1) := by decide +kernel
theorem dX12_fromSingle_33 : decode cX12_fromSingle 33 = .ok (.invokestatic 844, 3) := by decide +kernel
theorem dX12_fromSingle_36 : decode cX12_fromSingle 36 = .ok (.dstore 4, 2) := by decide +kernel
theorem dX12_fromSingle_38 : decode cX12_fromSingle 38 = .ok (.goto 32, 3) := by decide +kernel
theorem dX12_fromSingle_41 : decode cX12_fromSingle 41 = .ok (.iload_n 1, 1) := by decide +kernel
theorem dX12_fromSingle_42 : decode cX12_fromSingle 42 = .ok (.ifCond .ne 13, 3) := by decide +kernel
theorem dX12_fromSingle_45 : decode cX12_fromSingle 45 = .ok (.lload_n 2, 1) := by decide +kernel
theorem dX12_fromSingle_46 : decode cX12_fromSingle 46 = .ok (.sipush (-149), 3) := by decide +kernel
theorem dX12_fromSingle_49 : decode cX12_fromSingle 49 = .ok (.invokestatic 848, 3) := by decide +kernel
theorem dX12_fromSingle_52 : decode cX12_fromSingle 52 = .ok (.goto 16, 3) := by decide +kernel
theorem dX12_fromSingle_55 : decode cX12_fromSingle 55 = .ok (.lload_n 2, 1) := by decide +kernel
theorem dX12_fromSingle_56 : decode cX12_fromSingle 56 = .ok (.ldc2_w 856, 3) := by decide +kernel
theorem dX12_fromSingle_59 : decode cX12_fromSingle 59 = .ok (.lor, 1) := by decide +kernel
theorem dX12_fromSingle_60 : decode cX12_fromSingle 60 = .ok (.iload_n 1, 1) := by decide +kernel
theorem dX12_fromSingle_61 : decode cX12_fromSingle 61 = .ok (.sipush 150, 3) := by decide +kernel
theorem dX12_fromSingle_64 : decode cX12_fromSingle 64 = .ok (.isub, 1) := by decide +kernel
theorem dX12_fromSingle_65 : decode cX12_fromSingle 65 = .ok (.invokestatic 848, 3) := by decide +kernel
theorem dX12_fromSingle_68 : decode cX12_fromSingle 68 = .ok (.dstore 4, 2) := by decide +kernel
theorem dX12_fromSingle_70 : decode cX12_fromSingle 70 = .ok (.iload_n 0, 1) := by decide +kernel
theorem dX12_fromSingle_71 : decode cX12_fromSingle 71 = .ok (.ifCond .ge 9, 3) := by decide +kernel
theorem dX12_fromSingle_74 : decode cX12_fromSingle 74 = .ok (.dload 4, 2) := by decide +kernel
theorem dX12_fromSingle_76 : decode cX12_fromSingle 76 = .ok (.dneg, 1) := by decide +kernel
theorem dX12_fromSingle_77 : decode cX12_fromSingle 77 = .ok (.goto 5, 3) := by decide +kernel
theorem dX12_fromSingle_80 : decode cX12_fromSingle 80 = .ok (.dload 4, 2) := by decide +kernel
theorem dX12_fromSingle_82 : decode cX12_fromSingle 82 = .ok (.dreturn, 1) := by decide +kernel
theorem dX12_isMinus_0 : decode cX12_isMinus 0 = .ok (.dload_n 0, 1) := by decide +kernel
theorem dX12_isMinus_1 : decode cX12_isMinus 1 = .ok (.dconst 0, 1) := by decide +kernel
theorem dX12_isMinus_2 : decode cX12_isMinus 2 = .ok (.dcmp .g, 1) := by decide +kernel
theorem dX12_isMinus_3 : decode cX12_isMinus 3 = .ok (.ifCond .lt 17, 3) := by decide +kernel
theorem dX12_isMinus_6 : decode cX12_isMinus 6 = .ok (.dload_n 0, 1) := by decide +kernel
theorem dX12_isMinus_7 : decode cX12_isMinus 7 = .ok (.dconst 0, 1) := by decide +kernel
theorem dX12_isMinus_8 : decode cX12_isMinus 8 = .ok (.dcmp .l, 1) := by decide +kernel
theorem dX12_isMinus_9 : decode cX12_isMinus 9 = .ok (.ifCond .ne 15, 3) := by decide +kernel
theorem dX12_isMinus_12 : decode cX12_isMinus 12 = .ok (.dconst 1, 1) := by decide +kernel
theorem dX12_isMinus_13 : decode cX12_isMinus 13 = .ok (.dload_n 0, 1) := by decide +kernel
theorem dX12_isMinus_14 : decode cX12_isMinus 14 = .ok (.ddiv, 1) := by decide +kernel
theorem dX12_isMinus_15 : decode cX12_isMinus 15 = .ok (.dconst 0, 1) := by decide +kernel
theorem dX12_isMinus_16 : decode cX12_isMinus 16 = .ok (.dcmp .g, 1) := by decide +kernel
theorem dX12_isMinus_17 : decode cX12_isMinus 17 = .ok (.ifCond .ge 7, 3) := by decide +kernel
theorem dX12_isMinus_20 : decode cX12_isMinus 20 = .ok (.iconst 1, 1) := by decide +kernel
theorem dX12_isMinus_21 : decode cX12_isMinus 21 = .ok (.goto 4, 3) := by decide +kernel
theorem dX12_isMinus_24 : decode cX12_isMinus 24 = .ok (.iconst 0, 1) := by decide +kernel
theorem dX12_isMinus_25 : decode cX12_isMinus 25 = .ok (.ireturn, 1) := by decide +kernel
theorem dX12_parted_0 : decode cX12_parted 0 = .ok (.dload_n 1, 1) := by decide +kernel
theorem dX12_parted_1 : decode cX12_parted 1 = .ok (.dstore 4, 2) := by decide +kernel
theorem dX12_parted_3 : decode cX12_parted 3 = .ok (.aload_n 0, 1) := by decide +kernel
theorem dX12_parted_4 : decode cX12_parted 4 = .ok (.iconst 0, 1) := by decide +kernel
theorem dX12_parted_5 : decode cX12_parted 5 = .ok (.putfield 858, 3) := by decide +kernel
theorem dX12_parted_8 : decode cX12_parted 8 = .ok (.dload 4, 2) := by decide +kernel
theorem dX12_parted_10 : decode cX12_parted 10 = .ok (.ldc2_w 861, 3) := by decide +kernel
theorem dX12_parted_13 : decode cX12_parted 13 = .ok (.dcmp .l, 1) := by decide +kernel
theorem dX12_parted_14 : decode cX12_parted 14 = .ok (.ifCond .lt 24, 3) := by decide +kernel
theorem dX12_parted_17 : decode cX12_parted 17 = .ok (.dload 4, 2) := by decide +kernel
theorem dX12_parted_19 : decode cX12_parted 19 = .ok (.ldc2_w 198, 3) := by decide +kernel
theorem dX12_parted_22 : decode cX12_parted 22 = .ok (.ddiv, 1) := by decide +kernel
theorem dX12_parted_23 : decode cX12_parted 23 = .ok (.dstore 4, 2) := by decide +kernel
theorem dX12_parted_25 : decode cX12_parted 25 = .ok (.aload_n 0, 1) := by decide +kernel
theorem dX12_parted_26 : decode cX12_parted 26 = .ok (.dup, 1) := by decide +kernel
theorem dX12_parted_27 : decode cX12_parted 27 = .ok (.getfield 858, 3) := by decide +kernel
theorem dX12_parted_30 : decode cX12_parted 30 = .ok (.iconst 1, 1) := by decide +kernel
theorem dX12_parted_31 : decode cX12_parted 31 = .ok (.iadd, 1) := by decide +kernel
theorem dX12_parted_32 : decode cX12_parted 32 = .ok (.putfield 858, 3) := by decide +kernel
theorem dX12_parted_35 : decode cX12_parted 35 = .ok (.goto (-27), 3) := by decide +kernel
theorem dX12_parted_38 : decode cX12_parted 38 = .ok (.dload 4, 2) := by decide +kernel
theorem dX12_parted_40 : decode cX12_parted 40 = .ok (.ldc2_w 863, 3) := by decide +kernel
theorem dX12_parted_43 : decode cX12_parted 43 = .ok (.dcmp .g, 1) := by decide +kernel
theorem dX12_parted_44 : decode cX12_parted 44 = .ok (.ifCond .ge 32, 3) := by decide +kernel
theorem dX12_parted_47 : decode cX12_parted 47 = .ok (.aload_n 0, 1) := by decide +kernel
theorem dX12_parted_48 : decode cX12_parted 48 = .ok (.getfield 858, 3) := by decide +kernel
theorem dX12_parted_51 : decode cX12_parted 51 = .ok (.iload_n 3, 1) := by decide +kernel
theorem dX12_parted_52 : decode cX12_parted 52 = .ok (.if_icmp .le 24, 3) := by decide +kernel
theorem dX12_parted_55 : decode cX12_parted 55 = .ok (.dload 4, 2) := by decide +kernel
theorem dX12_parted_57 : decode cX12_parted 57 = .ok (.ldc2_w 198, 3) := by decide +kernel
theorem dX12_parted_60 : decode cX12_parted 60 = .ok (.dmul, 1) := by decide +kernel
theorem dX12_parted_61 : decode cX12_parted 61 = .ok (.dstore 4, 2) := by decide +kernel
theorem dX12_parted_63 : decode cX12_parted 63 = .ok (.aload_n 0, 1) := by decide +kernel
theorem dX12_parted_64 : decode cX12_parted 64 = .ok (.dup, 1) := by decide +kernel
theorem dX12_parted_65 : decode cX12_parted 65 = .ok (.getfield 858, 3) := by decide +kernel
theorem dX12_parted_68 : decode cX12_parted 68 = .ok (.iconst 1, 1) := by decide +kernel
theorem dX12_parted_69 : decode cX12_parted 69 = .ok (.isub, 1) := by decide +kernel
theorem dX12_parted_70 : decode cX12_parted 70 = .ok (.putfield 858, 3) := by decide +kernel
theorem dX12_parted_73 : decode cX12_parted 73 = .ok (.goto (-35), 3) := by decide +kernel
theorem dX12_parted_76 : decode cX12_parted 76 = .ok (.aload_n 0, 1) := by decide +kernel
theorem dX12_parted_77 : decode cX12_parted 77 = .ok (.dload 4, 2) := by decide +kernel
theorem dX12_parted_79 : decode cX12_parted 79 = .ok (.d2l, 1) := by decide +kernel
theorem dX12_parted_80 : decode cX12_parted 80 = .ok (.putfield 865, 3) := by decide +kernel
theorem dX12_parted_83 : decode cX12_parted 83 = .ok (.return_, 1) := by decide +kernel
theorem dX12_bits_0 : decode cX12_bits 0 = .ok (.dload_n 1, 1) := by decide +kernel
theorem dX12_bits_1 : decode cX12_bits 1 = .ok (.dload_n 1, 1) := by decide +kernel
theorem dX12_bits_2 : decode cX12_bits 2 = .ok (.dcmp .l, 1) := by decide +kernel
theorem dX12_bits_3 : decode cX12_bits 3 = .ok (.ifCond .eq 7, 3) := by decide +kernel
theorem dX12_bits_6 : decode cX12_bits 6 = .ok (.ldc2_w 172, 3) := by decide +kernel
theorem dX12_bits_9 : decode cX12_bits 9 = .ok (.lreturn, 1) := by decide +kernel
theorem dX12_bits_10 : decode cX12_bits 10 = .ok (.dload_n 1, 1) := by decide +kernel
theorem dX12_bits_11 : decode cX12_bits 11 = .ok (.invokestatic 715, 3) := by decide +kernel
theorem dX12_bits_14 : decode cX12_bits 14 = .ok (.istore_n 3, 1) := by decide +kernel
theorem dX12_bits_15 : decode cX12_bits 15 = .ok (.iload_n 3, 1) := by decide +kernel
theorem dX12_bits_16 : decode cX12_bits 16 = .ok (.ifCond .eq 8, 3) := by decide +kernel
theorem dX12_bits_19 : decode cX12_bits 19 = .ok (.dload_n 1, 1) := by decide +kernel
theorem dX12_bits_20 : decode cX12_bits 20 = .ok (.dneg, 1) := by decide +kernel
theorem dX12_bits_21 : decode cX12_bits 21 = .ok (.goto 4, 3) := by decide +kernel
theorem dX12_bits_24 : decode cX12_bits 24 = .ok (.dload_n 1, 1) := by decide +kernel
theorem dX12_bits_25 : decode cX12_bits 25 = .ok (.dstore 4, 2) := by decide +kernel
theorem dX12_bits_27 : decode cX12_bits 27 = .ok (.lconst 0, 1) := by decide +kernel
theorem dX12_bits_28 : decode cX12_bits 28 = .ok (.lstore 6, 2) := by decide +kernel
theorem dX12_bits_30 : decode cX12_bits 30 = .ok (.dload 4, 2) := by decide +kernel
theorem dX12_bits_32 : decode cX12_bits 32 = .ok (.dconst 0, 1) := by decide +kernel
theorem dX12_bits_33 : decode cX12_bits 33 = .ok (.dcmp .l, 1) := by decide +kernel
theorem dX12_bits_34 : decode cX12_bits 34 = .ok (.ifCond .le 23, 3) := by decide +kernel
theorem dX12_bits_37 : decode cX12_bits 37 = .ok (.dload 4, 2) := by decide +kernel
theorem dX12_bits_39 : decode cX12_bits 39 = .ok (.ldc2_w 198, 3) := by decide +kernel
theorem dX12_bits_42 : decode cX12_bits 42 = .ok (.ddiv, 1) := by decide +kernel
theorem dX12_bits_43 : decode cX12_bits 43 = .ok (.dload 4, 2) := by decide +kernel
theorem dX12_bits_45 : decode cX12_bits 45 = .ok (.dcmp .l, 1) := by decide +kernel
theorem dX12_bits_46 : decode cX12_bits 46 = .ok (.ifCond .ne 11, 3) := by decide +kernel
theorem dX12_bits_49 : decode cX12_bits 49 = .ok (.ldc2_w 343, 3) := by decide +kernel
theorem dX12_bits_52 : decode cX12_bits 52 = .ok (.lstore 6, 2) := by decide +kernel
theorem dX12_bits_54 : decode cX12_bits 54 = .ok (.goto 60, 3) := by decide +kernel
theorem dX12_bits_57 : decode cX12_bits 57 = .ok (.dload 4, 2) := by decide +kernel
theorem dX12_bits_59 : decode cX12_bits 59 = .ok (.dconst 0, 1) := by decide +kernel
theorem dX12_bits_60 : decode cX12_bits 60 = .ok (.dcmp .l, 1) := by decide +kernel
theorem dX12_bits_61 : decode cX12_bits 61 = .ok (.ifCond .le 53, 3) := by decide +kernel
theorem dX12_bits_64 : decode cX12_bits 64 = .ok (.aload_n 0, 1) := by decide +kernel
theorem dX12_bits_65 : decode cX12_bits 65 = .ok (.dload 4, 2) := by decide +kernel
theorem dX12_bits_67 : decode cX12_bits 67 = .ok (.sipush (-1074), 3) := by decide +kernel
theorem dX12_bits_70 : decode cX12_bits 70 = .ok (.invokevirtual 869, 3) := by decide +kernel
theorem dX12_bits_73 : decode cX12_bits 73 = .ok (.aload_n 0, 1) := by decide +kernel
theorem dX12_bits_74 : decode cX12_bits 74 = .ok (.getfield 865, 3) := by decide +kernel
theorem dX12_bits_77 : decode cX12_bits 77 = .ok (.ldc2_w 852, 3) := by decide +kernel
theorem dX12_bits_80 : decode cX12_bits 80 = .ok (.lcmp, 1) := by decide +kernel
theorem dX12_bits_81 : decode cX12_bits 81 = .ok (.ifCond .ge 10, 3) := by decide +kernel
theorem dX12_bits_84 : decode cX12_bits 84 = .ok (.aload_n 0, 1) := by decide +kernel
theorem dX12_bits_85 : decode cX12_bits 85 = .ok (.getfield 865, 3) := by decide +kernel
theorem dX12_bits_88 : decode cX12_bits 88 = .ok (.goto 24, 3) := by decide +kernel
theorem dX12_bits_91 : decode cX12_bits 91 = .ok (.aload_n 0, 1) := by decide +kernel
theorem dX12_bits_92 : decode cX12_bits 92 = .ok (.getfield 858, 3) := by decide +kernel
theorem dX12_bits_95 : decode cX12_bits 95 = .ok (.sipush 1075, 3) := by decide +kernel
theorem dX12_bits_98 : decode cX12_bits 98 = .ok (.iadd, 1) := by decide +kernel
theorem dX12_bits_99 : decode cX12_bits 99 = .ok (.i2l, 1) := by decide +kernel
theorem dX12_bits_100 : decode cX12_bits 100 = .ok (.bipush 52, 2) := by decide +kernel
theorem dX12_bits_102 : decode cX12_bits 102 = .ok (.lshl, 1) := by decide +kernel
theorem dX12_bits_103 : decode cX12_bits 103 = .ok (.aload_n 0, 1) := by decide +kernel
theorem dX12_bits_104 : decode cX12_bits 104 = .ok (.getfield 865, 3) := by decide +kernel
theorem dX12_bits_107 : decode cX12_bits 107 = .ok (.ldc2_w 842, 3) := by decide +kernel
theorem dX12_bits_110 : decode cX12_bits 110 = .ok (.land, 1) := by decide +kernel
theorem dX12_bits_111 : decode cX12_bits 111 = .ok (.lor, 1) := by decide +kernel
theorem dX12_bits_112 : decode cX12_bits 112 = .ok (.lstore 6, 2) := by decide +kernel
theorem dX12_bits_114 : decode cX12_bits 114 = .ok (.iload_n 3, 1) := by decide +kernel
theorem dX12_bits_115 : decode cX12_bits 115 = .ok (.ifCond .eq 12, 3) := by decide +kernel
theorem dX12_bits_118 : decode cX12_bits 118 = .ok (.lload 6, 2) := by decide +kernel
theorem dX12_bits_120 : decode cX12_bits 120 = .ok (.ldc2_w 873, 3) := by decide +kernel
theorem dX12_bits_123 : decode cX12_bits 123 = .ok (.lor, 1) := by decide +kernel
theorem dX12_bits_124 : decode cX12_bits 124 = .ok (.goto 5, 3) := by decide +kernel
theorem dX12_bits_127 : decode cX12_bits 127 = .ok (.lload 6, 2) := by decide +kernel
theorem dX12_bits_129 : decode cX12_bits 129 = .ok (.lreturn, 1) := by decide +kernel
