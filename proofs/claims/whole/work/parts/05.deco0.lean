theorem dX0_init_0 : decode cX0_init 0 = .ok (.aload_n 0, 1) := by decide +kernel
theorem dX0_init_1 : decode cX0_init 1 = .ok (.invokespecial 3, 3) := by decide +kernel
theorem dX0_init_4 : decode cX0_init 4 = .ok (.aload_n 0, 1) := by decide +kernel
theorem dX0_init_5 : decode cX0_init 5 = .ok (.sipush 128, 3) := by decide +kernel
theorem dX0_init_8 : decode cX0_init 8 = .ok (.newarray .int, 2) := by decide +kernel
theorem dX0_init_10 : decode cX0_init 10 = .ok (.putfield 9, 3) := by decide +kernel
theorem dX0_init_13 : decode cX0_init 13 = .ok (.return_, 1) := by decide +kernel
theorem dX0_traceAt_0 : decode cX0_traceAt 0 = .ok (.iload_n 1, 1) := by decide +kernel
theorem dX0_traceAt_1 : decode cX0_traceAt 1 = .ok (.ifCond .lt 29, 3) := by decide +kernel
theorem dX0_traceAt_4 : decode cX0_traceAt 4 = .ok (.iload_n 1, 1) := by decide +kernel
theorem dX0_traceAt_5 : decode cX0_traceAt 5 = .ok (.aload_n 0, 1) := by decide +kernel
theorem dX0_traceAt_6 : decode cX0_traceAt 6 = .ok (.getfield 15, 3) := by decide +kernel
theorem dX0_traceAt_9 : decode cX0_traceAt 9 = .ok (.if_icmp .ge 21, 3) := by decide +kernel
theorem dX0_traceAt_12 : decode cX0_traceAt 12 = .ok (.iload_n 1, 1) := by decide +kernel
theorem dX0_traceAt_13 : decode cX0_traceAt 13 = .ok (.aload_n 0, 1) := by decide +kernel
theorem dX0_traceAt_14 : decode cX0_traceAt 14 = .ok (.getfield 9, 3) := by decide +kernel
theorem dX0_traceAt_17 : decode cX0_traceAt 17 = .ok (.arraylength, 1) := by decide +kernel
theorem dX0_traceAt_18 : decode cX0_traceAt 18 = .ok (.if_icmp .ge 12, 3) := by decide +kernel
theorem dX0_traceAt_21 : decode cX0_traceAt 21 = .ok (.aload_n 0, 1) := by decide +kernel
theorem dX0_traceAt_22 : decode cX0_traceAt 22 = .ok (.getfield 9, 3) := by decide +kernel
theorem dX0_traceAt_25 : decode cX0_traceAt 25 = .ok (.iload_n 1, 1) := by decide +kernel
theorem dX0_traceAt_26 : decode cX0_traceAt 26 = .ok (.iaload, 1) := by decide +kernel
theorem dX0_traceAt_27 : decode cX0_traceAt 27 = .ok (.goto 4, 3) := by decide +kernel
theorem dX0_traceAt_30 : decode cX0_traceAt 30 = .ok (.iconst (-1), 1) := by decide +kernel
theorem dX0_traceAt_31 : decode cX0_traceAt 31 = .ok (.ireturn, 1) := by decide +kernel
theorem dX0_beginAsk_0 : decode cX0_beginAsk 0 = .ok (.aload_n 0, 1) := by decide +kernel
theorem dX0_beginAsk_1 : decode cX0_beginAsk 1 = .ok (.iconst 0, 1) := by decide +kernel
theorem dX0_beginAsk_2 : decode cX0_beginAsk 2 = .ok (.putfield 15, 3) := by decide +kernel
theorem dX0_beginAsk_5 : decode cX0_beginAsk 5 = .ok (.aload_n 0, 1) := by decide +kernel
theorem dX0_beginAsk_6 : decode cX0_beginAsk 6 = .ok (.iconst 0, 1) := by decide +kernel
theorem dX0_beginAsk_7 : decode cX0_beginAsk 7 = .ok (.putfield 19, 3) := by decide +kernel
theorem dX0_beginAsk_10 : decode cX0_beginAsk 10 = .ok (.return_, 1) := by decide +kernel
theorem dX0_tell_0 : decode cX0_tell 0 = .ok (.aload_n 1, 1) := by decide +kernel
theorem dX0_tell_1 : decode cX0_tell 1 = .ok (.ifnonnull 9, 3) := by decide +kernel
theorem dX0_tell_4 : decode cX0_tell 4 = .ok (.aload_n 0, 1) := by decide +kernel
theorem dX0_tell_5 : decode cX0_tell 5 = .ok (.iconst 1, 1) := by decide +kernel
theorem dX0_tell_6 : decode cX0_tell 6 = .ok (.invokevirtual 22, 3) := by decide +kernel
theorem dX0_tell_9 : decode cX0_tell 9 = .ok (.ireturn, 1) := by decide +kernel
theorem dX0_tell_10 : decode cX0_tell 10 = .ok (.aload_n 1, 1) := by decide +kernel
theorem dX0_tell_11 : decode cX0_tell 11 = .ok (.getfield 26, 3) := by decide +kernel
theorem dX0_tell_14 : decode cX0_tell 14 = .ok (.bipush 16, 2) := by decide +kernel
theorem dX0_tell_16 : decode cX0_tell 16 = .ok (.if_icmp .ne 14, 3) := by decide +kernel
theorem dX0_tell_19 : decode cX0_tell 19 = .ok (.aload_n 1, 1) := by decide +kernel
theorem dX0_tell_20 : decode cX0_tell 20 = .ok (.getfield 31, 3) := by decide +kernel
theorem dX0_tell_23 : decode cX0_tell 23 = .ok (.iload_n 2, 1) := by decide +kernel
theorem dX0_tell_24 : decode cX0_tell 24 = .ok (.invokestatic 34, 3) := by decide +kernel
theorem dX0_tell_27 : decode cX0_tell 27 = .ok (.ifCond .ne 9, 3) := by decide +kernel
theorem dX0_tell_30 : decode cX0_tell 30 = .ok (.aload_n 0, 1) := by decide +kernel
theorem dX0_tell_31 : decode cX0_tell 31 = .ok (.iconst 4, 1) := by decide +kernel
theorem dX0_tell_32 : decode cX0_tell 32 = .ok (.invokevirtual 22, 3) := by decide +kernel
theorem dX0_tell_35 : decode cX0_tell 35 = .ok (.ireturn, 1) := by decide +kernel
theorem dX0_tell_36 : decode cX0_tell 36 = .ok (.iload_n 2, 1) := by decide +kernel
theorem dX0_tell_37 : decode cX0_tell 37 = .ok (.iconst 2, 1) := by decide +kernel
theorem dX0_tell_38 : decode cX0_tell 38 = .ok (.if_icmp .ne 36, 3) := by decide +kernel
theorem dX0_tell_41 : decode cX0_tell 41 = .ok (.aload_n 0, 1) := by decide +kernel
theorem dX0_tell_42 : decode cX0_tell 42 = .ok (.aload_n 1, 1) := by decide +kernel
theorem dX0_tell_43 : decode cX0_tell 43 = .ok (.invokevirtual 38, 3) := by decide +kernel
theorem dX0_tell_46 : decode cX0_tell 46 = .ok (.istore_n 3, 1) := by decide +kernel
theorem dX0_tell_47 : decode cX0_tell 47 = .ok (.aload_n 1, 1) := by decide +kernel
theorem dX0_tell_48 : decode cX0_tell 48 = .ok (.getfield 31, 3) := by decide +kernel
theorem dX0_tell_51 : decode cX0_tell 51 = .ok (.iconst 3, 1) := by decide +kernel
theorem dX0_tell_52 : decode cX0_tell 52 = .ok (.if_icmp .ne 20, 3) := by decide +kernel
theorem dX0_tell_55 : decode cX0_tell 55 = .ok (.aload_n 0, 1) := by decide +kernel
theorem dX0_tell_56 : decode cX0_tell 56 = .ok (.getfield 19, 3) := by decide +kernel
theorem dX0_tell_59 : decode cX0_tell 59 = .ok (.ifCond .ne 13, 3) := by decide +kernel
theorem dX0_tell_62 : decode cX0_tell 62 = .ok (.iload_n 3, 1) := by decide +kernel
theorem dX0_tell_63 : decode cX0_tell 63 = .ok (.aload_n 0, 1) := by decide +kernel
theorem dX0_tell_64 : decode cX0_tell 64 = .ok (.aload_n 1, 1) := by decide +kernel
theorem dX0_tell_65 : decode cX0_tell 65 = .ok (.invokevirtual 42, 3) := by decide +kernel
theorem dX0_tell_68 : decode cX0_tell 68 = .ok (.iadd, 1) := by decide +kernel
theorem dX0_tell_69 : decode cX0_tell 69 = .ok (.goto 4, 3) := by decide +kernel
theorem dX0_tell_72 : decode cX0_tell 72 = .ok (.iload_n 3, 1) := by decide +kernel
theorem dX0_tell_73 : decode cX0_tell 73 = .ok (.ireturn, 1) := by decide +kernel
theorem dX0_tell_74 : decode cX0_tell 74 = .ok (.iload_n 2, 1) := by decide +kernel
theorem dX0_tell_75 : decode cX0_tell 75 = .ok (.tableswitch 86 0 6 #[41, 48, 86, 54, 60, 76, 81], 41) := by decide +kernel
theorem dX0_tell_116 : decode cX0_tell 116 = .ok (.aload_n 0, 1) := by decide +kernel
theorem dX0_tell_117 : decode cX0_tell 117 = .ok (.aload_n 1, 1) := by decide +kernel
theorem dX0_tell_118 : decode cX0_tell 118 = .ok (.iconst 0, 1) := by decide +kernel
theorem dX0_tell_119 : decode cX0_tell 119 = .ok (.invokevirtual 45, 3) := by decide +kernel
theorem dX0_tell_122 : decode cX0_tell 122 = .ok (.ireturn, 1) := by decide +kernel
theorem dX0_tell_123 : decode cX0_tell 123 = .ok (.aload_n 0, 1) := by decide +kernel
theorem dX0_tell_124 : decode cX0_tell 124 = .ok (.aload_n 1, 1) := by decide +kernel
theorem dX0_tell_125 : decode cX0_tell 125 = .ok (.invokevirtual 42, 3) := by decide +kernel
theorem dX0_tell_128 : decode cX0_tell 128 = .ok (.ireturn, 1) := by decide +kernel
theorem dX0_tell_129 : decode cX0_tell 129 = .ok (.aload_n 0, 1) := by decide +kernel
theorem dX0_tell_130 : decode cX0_tell 130 = .ok (.aload_n 1, 1) := by decide +kernel
theorem dX0_tell_131 : decode cX0_tell 131 = .ok (.invokevirtual 49, 3) := by decide +kernel
theorem dX0_tell_134 : decode cX0_tell 134 = .ok (.ireturn, 1) := by decide +kernel
theorem dX0_tell_135 : decode cX0_tell 135 = .ok (.aload_n 1, 1) := by decide +kernel
theorem dX0_tell_136 : decode cX0_tell 136 = .ok (.getfield 31, 3) := by decide +kernel
theorem dX0_tell_139 : decode cX0_tell 139 = .ok (.iconst 2, 1) := by decide +kernel
theorem dX0_tell_140 : decode cX0_tell 140 = .ok (.if_icmp .ne 8, 3) := by decide +kernel
theorem dX0_tell_143 : decode cX0_tell 143 = .ok (.bipush 9, 2) := by decide +kernel
theorem dX0_tell_145 : decode cX0_tell 145 = .ok (.goto 5, 3) := by decide +kernel
theorem dX0_tell_148 : decode cX0_tell 148 = .ok (.bipush 7, 2) := by decide +kernel
theorem dX0_tell_150 : decode cX0_tell 150 = .ok (.ireturn, 1) := by decide +kernel
theorem dX0_tell_151 : decode cX0_tell 151 = .ok (.aload_n 1, 1) := by decide +kernel
theorem dX0_tell_152 : decode cX0_tell 152 = .ok (.getfield 52, 3) := by decide +kernel
theorem dX0_tell_155 : decode cX0_tell 155 = .ok (.ireturn, 1) := by decide +kernel
theorem dX0_tell_156 : decode cX0_tell 156 = .ok (.aload_n 1, 1) := by decide +kernel
theorem dX0_tell_157 : decode cX0_tell 157 = .ok (.getfield 31, 3) := by decide +kernel
theorem dX0_tell_160 : decode cX0_tell 160 = .ok (.ireturn, 1) := by decide +kernel
theorem dX0_tell_161 : decode cX0_tell 161 = .ok (.aload_n 1, 1) := by decide +kernel
theorem dX0_tell_162 : decode cX0_tell 162 = .ok (.getfield 55, 3) := by decide +kernel
theorem dX0_tell_165 : decode cX0_tell 165 = .ok (.ireturn, 1) := by decide +kernel
theorem dX0_answers_0 : decode cX0_answers 0 = .ok (.iload_n 1, 1) := by decide +kernel
theorem dX0_answers_1 : decode cX0_answers 1 = .ok (.iconst 1, 1) := by decide +kernel
theorem dX0_answers_2 : decode cX0_answers 2 = .ok (.if_icmp .ne 8, 3) := by decide +kernel
theorem dX0_answers_5 : decode cX0_answers 5 = .ok (.iload_n 0, 1) := by decide +kernel
theorem dX0_answers_6 : decode cX0_answers 6 = .ok (.invokestatic 58, 3) := by decide +kernel
theorem dX0_answers_9 : decode cX0_answers 9 = .ok (.ireturn, 1) := by decide +kernel
theorem dX0_answers_10 : decode cX0_answers 10 = .ok (.iload_n 1, 1) := by decide +kernel
theorem dX0_answers_11 : decode cX0_answers 11 = .ok (.iconst 2, 1) := by decide +kernel
theorem dX0_answers_12 : decode cX0_answers 12 = .ok (.if_icmp .ne 8, 3) := by decide +kernel
theorem dX0_answers_15 : decode cX0_answers 15 = .ok (.iload_n 0, 1) := by decide +kernel
theorem dX0_answers_16 : decode cX0_answers 16 = .ok (.iconst 5, 1) := by decide +kernel
theorem dX0_answers_17 : decode cX0_answers 17 = .ok (.if_icmp .eq 7, 3) := by decide +kernel
theorem dX0_answers_20 : decode cX0_answers 20 = .ok (.iconst 1, 1) := by decide +kernel
theorem dX0_answers_21 : decode cX0_answers 21 = .ok (.goto 4, 3) := by decide +kernel
theorem dX0_answers_24 : decode cX0_answers 24 = .ok (.iconst 0, 1) := by decide +kernel
theorem dX0_answers_25 : decode cX0_answers 25 = .ok (.ireturn, 1) := by decide +kernel
theorem dX0_begin_0 : decode cX0_begin 0 = .ok (.aload_n 0, 1) := by decide +kernel
theorem dX0_begin_1 : decode cX0_begin 1 = .ok (.getfield 15, 3) := by decide +kernel
theorem dX0_begin_4 : decode cX0_begin 4 = .ok (.aload_n 0, 1) := by decide +kernel
theorem dX0_begin_5 : decode cX0_begin 5 = .ok (.getfield 9, 3) := by decide +kernel
theorem dX0_begin_8 : decode cX0_begin 8 = .ok (.arraylength, 1) := by decide +kernel
theorem dX0_begin_9 : decode cX0_begin 9 = .ok (.if_icmp .ge 23, 3) := by decide +kernel
theorem dX0_begin_12 : decode cX0_begin 12 = .ok (.aload_n 0, 1) := by decide +kernel
theorem dX0_begin_13 : decode cX0_begin 13 = .ok (.getfield 9, 3) := by decide +kernel
theorem dX0_begin_16 : decode cX0_begin 16 = .ok (.aload_n 0, 1) := by decide +kernel
theorem dX0_begin_17 : decode cX0_begin 17 = .ok (.getfield 15, 3) := by decide +kernel
theorem dX0_begin_20 : decode cX0_begin 20 = .ok (.iload_n 1, 1) := by decide +kernel
theorem dX0_begin_21 : decode cX0_begin 21 = .ok (.iastore, 1) := by decide +kernel
theorem dX0_begin_22 : decode cX0_begin 22 = .ok (.aload_n 0, 1) := by decide +kernel
theorem dX0_begin_23 : decode cX0_begin 23 = .ok (.dup, 1) := by decide +kernel
theorem dX0_begin_24 : decode cX0_begin 24 = .ok (.getfield 15, 3) := by decide +kernel
theorem dX0_begin_27 : decode cX0_begin 27 = .ok (.iconst 1, 1) := by decide +kernel
theorem dX0_begin_28 : decode cX0_begin 28 = .ok (.iadd, 1) := by decide +kernel
theorem dX0_begin_29 : decode cX0_begin 29 = .ok (.putfield 15, 3) := by decide +kernel
theorem dX0_begin_32 : decode cX0_begin 32 = .ok (.return_, 1) := by decide +kernel
theorem dX0_faulted_0 : decode cX0_faulted 0 = .ok (.aload_n 0, 1) := by decide +kernel
theorem dX0_faulted_1 : decode cX0_faulted 1 = .ok (.iload_n 1, 1) := by decide +kernel
theorem dX0_faulted_2 : decode cX0_faulted 2 = .ok (.putfield 19, 3) := by decide +kernel
theorem dX0_faulted_5 : decode cX0_faulted 5 = .ok (.iconst 0, 1) := by decide +kernel
theorem dX0_faulted_6 : decode cX0_faulted 6 = .ok (.ireturn, 1) := by decide +kernel
theorem dX0_sizeOf_0 : decode cX0_sizeOf 0 = .ok (.aload_n 1, 1) := by decide +kernel
theorem dX0_sizeOf_1 : decode cX0_sizeOf 1 = .ok (.ifnull 8, 3) := by decide +kernel
theorem dX0_sizeOf_4 : decode cX0_sizeOf 4 = .ok (.iload_n 2, 1) := by decide +kernel
theorem dX0_sizeOf_5 : decode cX0_sizeOf 5 = .ok (.iconst 4, 1) := by decide +kernel
theorem dX0_sizeOf_6 : decode cX0_sizeOf 6 = .ok (.if_icmp .le 9, 3) := by decide +kernel
theorem dX0_sizeOf_9 : decode cX0_sizeOf 9 = .ok (.aload_n 0, 1) := by decide +kernel
theorem dX0_sizeOf_10 : decode cX0_sizeOf 10 = .ok (.iconst 1, 1) := by decide +kernel
theorem dX0_sizeOf_11 : decode cX0_sizeOf 11 = .ok (.invokevirtual 22, 3) := by decide +kernel
theorem dX0_sizeOf_14 : decode cX0_sizeOf 14 = .ok (.ireturn, 1) := by decide +kernel
theorem dX0_sizeOf_15 : decode cX0_sizeOf 15 = .ok (.iconst 0, 1) := by decide +kernel
theorem dX0_sizeOf_16 : decode cX0_sizeOf 16 = .ok (.istore_n 3, 1) := by decide +kernel
theorem dX0_sizeOf_17 : decode cX0_sizeOf 17 = .ok (.aload_n 1, 1) := by decide +kernel
theorem dX0_sizeOf_18 : decode cX0_sizeOf 18 = .ok (.getfield 31, 3) := by decide +kernel
theorem dX0_sizeOf_21 : decode cX0_sizeOf 21 = .ok (.iconst 2, 1) := by decide +kernel
theorem dX0_sizeOf_22 : decode cX0_sizeOf 22 = .ok (.if_icmp .ne 60, 3) := by decide +kernel
theorem dX0_sizeOf_25 : decode cX0_sizeOf 25 = .ok (.aload_n 0, 1) := by decide +kernel
theorem dX0_sizeOf_26 : decode cX0_sizeOf 26 = .ok (.iconst 3, 1) := by decide +kernel
theorem dX0_sizeOf_27 : decode cX0_sizeOf 27 = .ok (.invokevirtual 62, 3) := by decide +kernel
theorem dX0_sizeOf_30 : decode cX0_sizeOf 30 = .ok (.iconst 0, 1) := by decide +kernel
theorem dX0_sizeOf_31 : decode cX0_sizeOf 31 = .ok (.istore 4, 2) := by decide +kernel
theorem dX0_sizeOf_33 : decode cX0_sizeOf 33 = .ok (.iload 4, 2) := by decide +kernel
theorem dX0_sizeOf_35 : decode cX0_sizeOf 35 = .ok (.aload_n 1, 1) := by decide +kernel
theorem dX0_sizeOf_36 : decode cX0_sizeOf 36 = .ok (.getfield 66, 3) := by decide +kernel
theorem dX0_sizeOf_39 : decode cX0_sizeOf 39 = .ok (.arraylength, 1) := by decide +kernel
theorem dX0_sizeOf_40 : decode cX0_sizeOf 40 = .ok (.if_icmp .ge 33, 3) := by decide +kernel
theorem dX0_sizeOf_43 : decode cX0_sizeOf 43 = .ok (.aload_n 0, 1) := by decide +kernel
theorem dX0_sizeOf_44 : decode cX0_sizeOf 44 = .ok (.getfield 19, 3) := by decide +kernel
theorem dX0_sizeOf_47 : decode cX0_sizeOf 47 = .ok (.ifCond .ne 26, 3) := by decide +kernel
theorem dX0_sizeOf_50 : decode cX0_sizeOf 50 = .ok (.iload_n 3, 1) := by decide +kernel
theorem dX0_sizeOf_51 : decode cX0_sizeOf 51 = .ok (.aload_n 0, 1) := by decide +kernel
theorem dX0_sizeOf_52 : decode cX0_sizeOf 52 = .ok (.aload_n 1, 1) := by decide +kernel
theorem dX0_sizeOf_53 : decode cX0_sizeOf 53 = .ok (.getfield 66, 3) := by decide +kernel
theorem dX0_sizeOf_56 : decode cX0_sizeOf 56 = .ok (.iload 4, 2) := by decide +kernel
theorem dX0_sizeOf_58 : decode cX0_sizeOf 58 = .ok (.aaload, 1) := by decide +kernel
theorem dX0_sizeOf_59 : decode cX0_sizeOf 59 = .ok (.iload_n 2, 1) := by decide +kernel
theorem dX0_sizeOf_60 : decode cX0_sizeOf 60 = .ok (.iconst 1, 1) := by decide +kernel
theorem dX0_sizeOf_61 : decode cX0_sizeOf 61 = .ok (.iadd, 1) := by decide +kernel
theorem dX0_sizeOf_62 : decode cX0_sizeOf 62 = .ok (.invokevirtual 45, 3) := by decide +kernel
theorem dX0_sizeOf_65 : decode cX0_sizeOf 65 = .ok (.iadd, 1) := by decide +kernel
theorem dX0_sizeOf_66 : decode cX0_sizeOf 66 = .ok (.istore_n 3, 1) := by decide +kernel
theorem dX0_sizeOf_67 : decode cX0_sizeOf 67 = .ok (.iinc 4 1, 3) := by decide +kernel
theorem dX0_sizeOf_70 : decode cX0_sizeOf 70 = .ok (.goto (-37), 3) := by decide +kernel
theorem dX0_sizeOf_73 : decode cX0_sizeOf 73 = .ok (.aload_n 0, 1) := by decide +kernel
theorem dX0_sizeOf_74 : decode cX0_sizeOf 74 = .ok (.getfield 19, 3) := by decide +kernel
theorem dX0_sizeOf_77 : decode cX0_sizeOf 77 = .ok (.ifCond .eq 5, 3) := by decide +kernel
theorem dX0_sizeOf_80 : decode cX0_sizeOf 80 = .ok (.iconst 0, 1) := by decide +kernel
theorem dX0_sizeOf_81 : decode cX0_sizeOf 81 = .ok (.ireturn, 1) := by decide +kernel
theorem dX0_sizeOf_82 : decode cX0_sizeOf 82 = .ok (.aload_n 1, 1) := by decide +kernel
theorem dX0_sizeOf_83 : decode cX0_sizeOf 83 = .ok (.getfield 31, 3) := by decide +kernel
theorem dX0_sizeOf_86 : decode cX0_sizeOf 86 = .ok (.iconst 1, 1) := by decide +kernel
theorem dX0_sizeOf_87 : decode cX0_sizeOf 87 = .ok (.if_icmp .eq 11, 3) := by decide +kernel
theorem dX0_sizeOf_90 : decode cX0_sizeOf 90 = .ok (.aload_n 1, 1) := by decide +kernel
theorem dX0_sizeOf_91 : decode cX0_sizeOf 91 = .ok (.getfield 31, 3) := by decide +kernel
theorem dX0_sizeOf_94 : decode cX0_sizeOf 94 = .ok (.iconst 2, 1) := by decide +kernel
theorem dX0_sizeOf_95 : decode cX0_sizeOf 95 = .ok (.if_icmp .ne 27, 3) := by decide +kernel
theorem dX0_sizeOf_98 : decode cX0_sizeOf 98 = .ok (.aload_n 0, 1) := by decide +kernel
theorem dX0_sizeOf_99 : decode cX0_sizeOf 99 = .ok (.iconst 2, 1) := by decide +kernel
theorem dX0_sizeOf_100 : decode cX0_sizeOf 100 = .ok (.invokevirtual 62, 3) := by decide +kernel
theorem dX0_sizeOf_103 : decode cX0_sizeOf 103 = .ok (.aload_n 0, 1) := by decide +kernel
theorem dX0_sizeOf_104 : decode cX0_sizeOf 104 = .ok (.iconst 1, 1) := by decide +kernel
theorem dX0_sizeOf_105 : decode cX0_sizeOf 105 = .ok (.invokevirtual 62, 3) := by decide +kernel
theorem dX0_sizeOf_108 : decode cX0_sizeOf 108 = .ok (.iload_n 3, 1) := by decide +kernel
theorem dX0_sizeOf_109 : decode cX0_sizeOf 109 = .ok (.iconst 2, 1) := by decide +kernel
theorem dX0_sizeOf_110 : decode cX0_sizeOf 110 = .ok (.aload_n 1, 1) := by decide +kernel
theorem dX0_sizeOf_111 : decode cX0_sizeOf 111 = .ok (.getfield 70, 3) := by decide +kernel
theorem dX0_sizeOf_114 : decode cX0_sizeOf 114 = .ok (.imul, 1) := by decide +kernel
theorem dX0_sizeOf_115 : decode cX0_sizeOf 115 = .ok (.iadd, 1) := by decide +kernel
theorem dX0_sizeOf_116 : decode cX0_sizeOf 116 = .ok (.aload_n 1, 1) := by decide +kernel
theorem dX0_sizeOf_117 : decode cX0_sizeOf 117 = .ok (.getfield 73, 3) := by decide +kernel
theorem dX0_sizeOf_120 : decode cX0_sizeOf 120 = .ok (.iadd, 1) := by decide +kernel
theorem dX0_sizeOf_121 : decode cX0_sizeOf 121 = .ok (.ireturn, 1) := by decide +kernel
theorem dX0_sizeOf_122 : decode cX0_sizeOf 122 = .ok (.aload_n 1, 1) := by decide +kernel
theorem dX0_sizeOf_123 : decode cX0_sizeOf 123 = .ok (.getfield 31, 3) := by decide +kernel
theorem dX0_sizeOf_126 : decode cX0_sizeOf 126 = .ok (.iconst 3, 1) := by decide +kernel
theorem dX0_sizeOf_127 : decode cX0_sizeOf 127 = .ok (.if_icmp .ne 39, 3) := by decide +kernel
theorem dX0_sizeOf_130 : decode cX0_sizeOf 130 = .ok (.aload_n 0, 1) := by decide +kernel
theorem dX0_sizeOf_131 : decode cX0_sizeOf 131 = .ok (.iconst 4, 1) := by decide +kernel
theorem dX0_sizeOf_132 : decode cX0_sizeOf 132 = .ok (.invokevirtual 62, 3) := by decide +kernel
theorem dX0_sizeOf_135 : decode cX0_sizeOf 135 = .ok (.aload_n 0, 1) := by decide +kernel
theorem dX0_sizeOf_136 : decode cX0_sizeOf 136 = .ok (.iconst 1, 1) := by decide +kernel
theorem dX0_sizeOf_137 : decode cX0_sizeOf 137 = .ok (.invokevirtual 62, 3) := by decide +kernel
theorem dX0_sizeOf_140 : decode cX0_sizeOf 140 = .ok (.aload_n 1, 1) := by decide +kernel
theorem dX0_sizeOf_141 : decode cX0_sizeOf 141 = .ok (.getfield 73, 3) := by decide +kernel
theorem dX0_sizeOf_144 : decode cX0_sizeOf 144 = .ok (.ifCond .ne 12, 3) := by decide +kernel
theorem dX0_sizeOf_147 : decode cX0_sizeOf 147 = .ok (.aload_n 0, 1) := by decide +kernel
theorem dX0_sizeOf_148 : decode cX0_sizeOf 148 = .ok (.bipush 6, 2) := by decide +kernel
theorem dX0_sizeOf_150 : decode cX0_sizeOf 150 = .ok (.invokevirtual 22, 3) := by decide +kernel
theorem dX0_sizeOf_153 : decode cX0_sizeOf 153 = .ok (.goto 12, 3) := by decide +kernel
theorem dX0_sizeOf_156 : decode cX0_sizeOf 156 = .ok (.aload_n 1, 1) := by decide +kernel
theorem dX0_sizeOf_157 : decode cX0_sizeOf 157 = .ok (.getfield 70, 3) := by decide +kernel
theorem dX0_sizeOf_160 : decode cX0_sizeOf 160 = .ok (.aload_n 1, 1) := by decide +kernel
theorem dX0_sizeOf_161 : decode cX0_sizeOf 161 = .ok (.getfield 73, 3) := by decide +kernel
theorem dX0_sizeOf_164 : decode cX0_sizeOf 164 = .ok (.idiv, 1) := by decide +kernel
theorem dX0_sizeOf_165 : decode cX0_sizeOf 165 = .ok (.ireturn, 1) := by decide +kernel
theorem dX0_sizeOf_166 : decode cX0_sizeOf 166 = .ok (.aload_n 0, 1) := by decide +kernel
theorem dX0_sizeOf_167 : decode cX0_sizeOf 167 = .ok (.iconst 1, 1) := by decide +kernel
theorem dX0_sizeOf_168 : decode cX0_sizeOf 168 = .ok (.invokevirtual 62, 3) := by decide +kernel
theorem dX0_sizeOf_171 : decode cX0_sizeOf 171 = .ok (.aload_n 1, 1) := by decide +kernel
theorem dX0_sizeOf_172 : decode cX0_sizeOf 172 = .ok (.getfield 70, 3) := by decide +kernel
theorem dX0_sizeOf_175 : decode cX0_sizeOf 175 = .ok (.ireturn, 1) := by decide +kernel
theorem dX0_thirstOf_0 : decode cX0_thirstOf 0 = .ok (.aload_n 1, 1) := by decide +kernel
theorem dX0_thirstOf_1 : decode cX0_thirstOf 1 = .ok (.getfield 31, 3) := by decide +kernel
theorem dX0_thirstOf_4 : decode cX0_thirstOf 4 = .ok (.iconst 5, 1) := by decide +kernel
theorem dX0_thirstOf_5 : decode cX0_thirstOf 5 = .ok (.if_icmp .ne 14, 3) := by decide +kernel
theorem dX0_thirstOf_8 : decode cX0_thirstOf 8 = .ok (.aload_n 0, 1) := by decide +kernel
theorem dX0_thirstOf_9 : decode cX0_thirstOf 9 = .ok (.bipush 12, 2) := by decide +kernel
theorem dX0_thirstOf_11 : decode cX0_thirstOf 11 = .ok (.invokevirtual 62, 3) := by decide +kernel
theorem dX0_thirstOf_14 : decode cX0_thirstOf 14 = .ok (.aload_n 1, 1) := by decide +kernel
theorem dX0_thirstOf_15 : decode cX0_thirstOf 15 = .ok (.getfield 73, 3) := by decide +kernel
theorem dX0_thirstOf_18 : decode cX0_thirstOf 18 = .ok (.ireturn, 1) := by decide +kernel
theorem dX0_thirstOf_19 : decode cX0_thirstOf 19 = .ok (.aload_n 1, 1) := by decide +kernel
theorem dX0_thirstOf_20 : decode cX0_thirstOf 20 = .ok (.getfield 31, 3) := by decide +kernel
theorem dX0_thirstOf_23 : decode cX0_thirstOf 23 = .ok (.iconst 3, 1) := by decide +kernel
theorem dX0_thirstOf_24 : decode cX0_thirstOf 24 = .ok (.if_icmp .eq 7, 3) := by decide +kernel
theorem dX0_thirstOf_27 : decode cX0_thirstOf 27 = .ok (.iconst 1, 1) := by decide +kernel
theorem dX0_thirstOf_28 : decode cX0_thirstOf 28 = .ok (.goto 4, 3) := by decide +kernel
theorem dX0_thirstOf_31 : decode cX0_thirstOf 31 = .ok (.iconst 0, 1) := by decide +kernel
theorem dX0_thirstOf_32 : decode cX0_thirstOf 32 = .ok (.istore_n 2, 1) := by decide +kernel
theorem dX0_thirstOf_33 : decode cX0_thirstOf 33 = .ok (.iload_n 2, 1) := by decide +kernel
theorem dX0_thirstOf_34 : decode cX0_thirstOf 34 = .ok (.ifCond .eq 9, 3) := by decide +kernel
theorem dX0_thirstOf_37 : decode cX0_thirstOf 37 = .ok (.aload_n 0, 1) := by decide +kernel
theorem dX0_thirstOf_38 : decode cX0_thirstOf 38 = .ok (.bipush 11, 2) := by decide +kernel
theorem dX0_thirstOf_40 : decode cX0_thirstOf 40 = .ok (.invokevirtual 62, 3) := by decide +kernel
theorem dX0_thirstOf_43 : decode cX0_thirstOf 43 = .ok (.aload_n 0, 1) := by decide +kernel
theorem dX0_thirstOf_44 : decode cX0_thirstOf 44 = .ok (.bipush 10, 2) := by decide +kernel
theorem dX0_thirstOf_46 : decode cX0_thirstOf 46 = .ok (.invokevirtual 62, 3) := by decide +kernel
theorem dX0_thirstOf_49 : decode cX0_thirstOf 49 = .ok (.iconst 3, 1) := by decide +kernel
theorem dX0_thirstOf_50 : decode cX0_thirstOf 50 = .ok (.aload_n 0, 1) := by decide +kernel
theorem dX0_thirstOf_51 : decode cX0_thirstOf 51 = .ok (.aload_n 1, 1) := by decide +kernel
theorem dX0_thirstOf_52 : decode cX0_thirstOf 52 = .ok (.iconst 0, 1) := by decide +kernel
theorem dX0_thirstOf_53 : decode cX0_thirstOf 53 = .ok (.invokevirtual 45, 3) := by decide +kernel
theorem dX0_thirstOf_56 : decode cX0_thirstOf 56 = .ok (.iadd, 1) := by decide +kernel
theorem dX0_thirstOf_57 : decode cX0_thirstOf 57 = .ok (.istore_n 3, 1) := by decide +kernel
theorem dX0_thirstOf_58 : decode cX0_thirstOf 58 = .ok (.iload_n 2, 1) := by decide +kernel
theorem dX0_thirstOf_59 : decode cX0_thirstOf 59 = .ok (.ifCond .eq 9, 3) := by decide +kernel
theorem dX0_thirstOf_62 : decode cX0_thirstOf 62 = .ok (.iconst 2, 1) := by decide +kernel
theorem dX0_thirstOf_63 : decode cX0_thirstOf 63 = .ok (.iload_n 3, 1) := by decide +kernel
theorem dX0_thirstOf_64 : decode cX0_thirstOf 64 = .ok (.imul, 1) := by decide +kernel
theorem dX0_thirstOf_65 : decode cX0_thirstOf 65 = .ok (.goto 4, 3) := by decide +kernel
theorem dX0_thirstOf_68 : decode cX0_thirstOf 68 = .ok (.iload_n 3, 1) := by decide +kernel
theorem dX0_thirstOf_69 : decode cX0_thirstOf 69 = .ok (.ireturn, 1) := by decide +kernel
theorem dX0_costAlone_0 : decode cX0_costAlone 0 = .ok (.aload_n 1, 1) := by decide +kernel
theorem dX0_costAlone_1 : decode cX0_costAlone 1 = .ok (.getfield 31, 3) := by decide +kernel
theorem dX0_costAlone_4 : decode cX0_costAlone 4 = .ok (.iconst 3, 1) := by decide +kernel
theorem dX0_costAlone_5 : decode cX0_costAlone 5 = .ok (.if_icmp .ne 9, 3) := by decide +kernel
theorem dX0_costAlone_8 : decode cX0_costAlone 8 = .ok (.aload_n 0, 1) := by decide +kernel
theorem dX0_costAlone_9 : decode cX0_costAlone 9 = .ok (.bipush 21, 2) := by decide +kernel
theorem dX0_costAlone_11 : decode cX0_costAlone 11 = .ok (.invokevirtual 62, 3) := by decide +kernel
theorem dX0_costAlone_14 : decode cX0_costAlone 14 = .ok (.aload_n 0, 1) := by decide +kernel
theorem dX0_costAlone_15 : decode cX0_costAlone 15 = .ok (.bipush 20, 2) := by decide +kernel
theorem dX0_costAlone_17 : decode cX0_costAlone 17 = .ok (.invokevirtual 62, 3) := by decide +kernel
theorem dX0_costAlone_20 : decode cX0_costAlone 20 = .ok (.aload_n 1, 1) := by decide +kernel
theorem dX0_costAlone_21 : decode cX0_costAlone 21 = .ok (.getfield 70, 3) := by decide +kernel
theorem dX0_costAlone_24 : decode cX0_costAlone 24 = .ok (.ifCond .ne 12, 3) := by decide +kernel
theorem dX0_costAlone_27 : decode cX0_costAlone 27 = .ok (.aload_n 0, 1) := by decide +kernel
theorem dX0_costAlone_28 : decode cX0_costAlone 28 = .ok (.bipush 6, 2) := by decide +kernel
theorem dX0_costAlone_30 : decode cX0_costAlone 30 = .ok (.invokevirtual 22, 3) := by decide +kernel
theorem dX0_costAlone_33 : decode cX0_costAlone 33 = .ok (.goto 11, 3) := by decide +kernel
theorem dX0_costAlone_36 : decode cX0_costAlone 36 = .ok (.sipush 5000, 3) := by decide +kernel
theorem dX0_costAlone_39 : decode cX0_costAlone 39 = .ok (.aload_n 1, 1) := by decide +kernel
theorem dX0_costAlone_40 : decode cX0_costAlone 40 = .ok (.getfield 70, 3) := by decide +kernel
theorem dX0_costAlone_43 : decode cX0_costAlone 43 = .ok (.idiv, 1) := by decide +kernel
theorem dX0_costAlone_44 : decode cX0_costAlone 44 = .ok (.ireturn, 1) := by decide +kernel
theorem dX0_markOf_0 : decode cX0_markOf 0 = .ok (.aload_n 1, 1) := by decide +kernel
theorem dX0_markOf_1 : decode cX0_markOf 1 = .ok (.getfield 31, 3) := by decide +kernel
theorem dX0_markOf_4 : decode cX0_markOf 4 = .ok (.iconst 2, 1) := by decide +kernel
theorem dX0_markOf_5 : decode cX0_markOf 5 = .ok (.if_icmp .eq 12, 3) := by decide +kernel
theorem dX0_markOf_8 : decode cX0_markOf 8 = .ok (.aload_n 0, 1) := by decide +kernel
theorem dX0_markOf_9 : decode cX0_markOf 9 = .ok (.bipush 30, 2) := by decide +kernel
theorem dX0_markOf_11 : decode cX0_markOf 11 = .ok (.invokevirtual 62, 3) := by decide +kernel
theorem dX0_markOf_14 : decode cX0_markOf 14 = .ok (.bipush 7, 2) := by decide +kernel
theorem dX0_markOf_16 : decode cX0_markOf 16 = .ok (.ireturn, 1) := by decide +kernel
theorem dX0_markOf_17 : decode cX0_markOf 17 = .ok (.aload_n 0, 1) := by decide +kernel
theorem dX0_markOf_18 : decode cX0_markOf 18 = .ok (.bipush 31, 2) := by decide +kernel
theorem dX0_markOf_20 : decode cX0_markOf 20 = .ok (.invokevirtual 62, 3) := by decide +kernel
theorem dX0_markOf_23 : decode cX0_markOf 23 = .ok (.bipush 9, 2) := by decide +kernel
theorem dX0_markOf_25 : decode cX0_markOf 25 = .ok (.aload_n 1, 1) := by decide +kernel
theorem dX0_markOf_26 : decode cX0_markOf 26 = .ok (.getfield 73, 3) := by decide +kernel
theorem dX0_markOf_29 : decode cX0_markOf 29 = .ok (.iadd, 1) := by decide +kernel
theorem dX0_markOf_30 : decode cX0_markOf 30 = .ok (.ireturn, 1) := by decide +kernel
theorem dX1_init_0 : decode cX1_init 0 = .ok (.aload_n 0, 1) := by decide +kernel
theorem dX1_init_1 : decode cX1_init 1 = .ok (.invokespecial 3, 3) := by decide +kernel
theorem dX1_init_4 : decode cX1_init 4 = .ok (.aload_n 0, 1) := by decide +kernel
theorem dX1_init_5 : decode cX1_init 5 = .ok (.sipush 1280, 3) := by decide +kernel
theorem dX1_init_8 : decode cX1_init 8 = .ok (.newarray .int, 2) := by decide +kernel
theorem dX1_init_10 : decode cX1_init 10 = .ok (.putfield 11, 3) := by decide +kernel
theorem dX1_init_13 : decode cX1_init 13 = .ok (.aload_n 0, 1) := by decide +kernel
theorem dX1_init_14 : decode cX1_init 14 = .ok (.bipush 64, 2) := by decide +kernel
theorem dX1_init_16 : decode cX1_init 16 = .ok (.newarray .int, 2) := by decide +kernel
theorem dX1_init_18 : decode cX1_init 18 = .ok (.putfield 15, 3) := by decide +kernel
theorem dX1_init_21 : decode cX1_init 21 = .ok (.aload_n 0, 1) := by decide +kernel
theorem dX1_init_22 : decode cX1_init 22 = .ok (.bipush 20, 2) := by decide +kernel
theorem dX1_init_24 : decode cX1_init 24 = .ok (.newarray .int, 2) := by decide +kernel
theorem dX1_init_26 : decode cX1_init 26 = .ok (.putfield 18, 3) := by decide +kernel
theorem dX1_init_29 : decode cX1_init 29 = .ok (.aload_n 0, 1) := by decide +kernel
theorem dX1_init_30 : decode cX1_init 30 = .ok (.iconst (-1), 1) := by decide +kernel
theorem dX1_init_31 : decode cX1_init 31 = .ok (.putfield 21, 3) := by decide +kernel
theorem dX1_init_34 : decode cX1_init 34 = .ok (.return_, 1) := by decide +kernel
theorem dX1_isByte_0 : decode cX1_isByte 0 = .ok (.iload_n 0, 1) := by decide +kernel
theorem dX1_isByte_1 : decode cX1_isByte 1 = .ok (.ifCond .lt 23, 3) := by decide +kernel
theorem dX1_isByte_4 : decode cX1_isByte 4 = .ok (.iload_n 0, 1) := by decide +kernel
theorem dX1_isByte_5 : decode cX1_isByte 5 = .ok (.bipush 20, 2) := by decide +kernel
theorem dX1_isByte_7 : decode cX1_isByte 7 = .ok (.if_icmp .ge 17, 3) := by decide +kernel
theorem dX1_isByte_10 : decode cX1_isByte 10 = .ok (.iload_n 1, 1) := by decide +kernel
theorem dX1_isByte_11 : decode cX1_isByte 11 = .ok (.ifCond .lt 13, 3) := by decide +kernel
theorem dX1_isByte_14 : decode cX1_isByte 14 = .ok (.iload_n 1, 1) := by decide +kernel
theorem dX1_isByte_15 : decode cX1_isByte 15 = .ok (.bipush 64, 2) := by decide +kernel
theorem dX1_isByte_17 : decode cX1_isByte 17 = .ok (.if_icmp .ge 7, 3) := by decide +kernel
theorem dX1_isByte_20 : decode cX1_isByte 20 = .ok (.iconst 1, 1) := by decide +kernel
theorem dX1_isByte_21 : decode cX1_isByte 21 = .ok (.goto 4, 3) := by decide +kernel
theorem dX1_isByte_24 : decode cX1_isByte 24 = .ok (.iconst 0, 1) := by decide +kernel
theorem dX1_isByte_25 : decode cX1_isByte 25 = .ok (.ireturn, 1) := by decide +kernel
theorem dX1_writes_0 : decode cX1_writes 0 = .ok (.iload_n 0, 1) := by decide +kernel
theorem dX1_writes_1 : decode cX1_writes 1 = .ok (.iconst 1, 1) := by decide +kernel
theorem dX1_writes_2 : decode cX1_writes 2 = .ok (.if_icmp .eq 18, 3) := by decide +kernel
theorem dX1_writes_5 : decode cX1_writes 5 = .ok (.iload_n 0, 1) := by decide +kernel
theorem dX1_writes_6 : decode cX1_writes 6 = .ok (.iconst 3, 1) := by decide +kernel
theorem dX1_writes_7 : decode cX1_writes 7 = .ok (.if_icmp .eq 13, 3) := by decide +kernel
theorem dX1_writes_10 : decode cX1_writes 10 = .ok (.iload_n 0, 1) := by decide +kernel
theorem dX1_writes_11 : decode cX1_writes 11 = .ok (.iconst 4, 1) := by decide +kernel
theorem dX1_writes_12 : decode cX1_writes 12 = .ok (.if_icmp .eq 8, 3) := by decide +kernel
theorem dX1_writes_15 : decode cX1_writes 15 = .ok (.iload_n 0, 1) := by decide +kernel
theorem dX1_writes_16 : decode cX1_writes 16 = .ok (.iconst 5, 1) := by decide +kernel
theorem dX1_writes_17 : decode cX1_writes 17 = .ok (.if_icmp .ne 7, 3) := by decide +kernel
theorem dX1_writes_20 : decode cX1_writes 20 = .ok (.iconst 1, 1) := by decide +kernel
theorem dX1_writes_21 : decode cX1_writes 21 = .ok (.goto 4, 3) := by decide +kernel
theorem dX1_writes_24 : decode cX1_writes 24 = .ok (.iconst 0, 1) := by decide +kernel
theorem dX1_writes_25 : decode cX1_writes 25 = .ok (.ireturn, 1) := by decide +kernel
theorem dX1_powerSet_0 : decode cX1_powerSet 0 = .ok (.aload_n 0, 1) := by decide +kernel
theorem dX1_powerSet_1 : decode cX1_powerSet 1 = .ok (.getfield 25, 3) := by decide +kernel
theorem dX1_powerSet_4 : decode cX1_powerSet 4 = .ok (.ifCond .eq 6, 3) := by decide +kernel
theorem dX1_powerSet_7 : decode cX1_powerSet 7 = .ok (.bipush (-3), 2) := by decide +kernel
theorem dX1_powerSet_9 : decode cX1_powerSet 9 = .ok (.ireturn, 1) := by decide +kernel
theorem dX1_powerSet_10 : decode cX1_powerSet 10 = .ok (.aload_n 0, 1) := by decide +kernel
theorem dX1_powerSet_11 : decode cX1_powerSet 11 = .ok (.iload_n 1, 1) := by decide +kernel
theorem dX1_powerSet_12 : decode cX1_powerSet 12 = .ok (.putfield 21, 3) := by decide +kernel
theorem dX1_powerSet_15 : decode cX1_powerSet 15 = .ok (.iconst 1, 1) := by decide +kernel
theorem dX1_powerSet_16 : decode cX1_powerSet 16 = .ok (.ireturn, 1) := by decide +kernel
theorem dX1_written_0 : decode cX1_written 0 = .ok (.aload_n 0, 1) := by decide +kernel
theorem dX1_written_1 : decode cX1_written 1 = .ok (.getfield 25, 3) := by decide +kernel
theorem dX1_written_4 : decode cX1_written 4 = .ok (.ifCond .eq 6, 3) := by decide +kernel
theorem dX1_written_7 : decode cX1_written 7 = .ok (.bipush (-3), 2) := by decide +kernel
theorem dX1_written_9 : decode cX1_written 9 = .ok (.ireturn, 1) := by decide +kernel
theorem dX1_written_10 : decode cX1_written 10 = .ok (.aload_n 2, 1) := by decide +kernel
theorem dX1_written_11 : decode cX1_written 11 = .ok (.arraylength, 1) := by decide +kernel
theorem dX1_written_12 : decode cX1_written 12 = .ok (.bipush 6, 2) := by decide +kernel
theorem dX1_written_14 : decode cX1_written 14 = .ok (.if_icmp .gt 21, 3) := by decide +kernel
theorem dX1_written_17 : decode cX1_written 17 = .ok (.aload_n 0, 1) := by decide +kernel
theorem dX1_written_18 : decode cX1_written 18 = .ok (.getfield 29, 3) := by decide +kernel
theorem dX1_written_21 : decode cX1_written 21 = .ok (.bipush 20, 2) := by decide +kernel
theorem dX1_written_23 : decode cX1_written 23 = .ok (.if_icmp .ge 12, 3) := by decide +kernel
theorem dX1_written_26 : decode cX1_written 26 = .ok (.aload_n 0, 1) := by decide +kernel
theorem dX1_written_27 : decode cX1_written 27 = .ok (.getfield 32, 3) := by decide +kernel
theorem dX1_written_30 : decode cX1_written 30 = .ok (.ldc 35, 2) := by decide +kernel
theorem dX1_written_32 : decode cX1_written 32 = .ok (.if_icmp .ne 6, 3) := by decide +kernel
theorem dX1_written_35 : decode cX1_written 35 = .ok (.bipush (-4), 2) := by decide +kernel
theorem dX1_written_37 : decode cX1_written 37 = .ok (.ireturn, 1) := by decide +kernel
theorem dX1_written_38 : decode cX1_written 38 = .ok (.aload_n 0, 1) := by decide +kernel
theorem dX1_written_39 : decode cX1_written 39 = .ok (.aload_n 0, 1) := by decide +kernel
theorem dX1_written_40 : decode cX1_written 40 = .ok (.getfield 32, 3) := by decide +kernel
theorem dX1_written_43 : decode cX1_written 43 = .ok (.iconst 1, 1) := by decide +kernel
theorem dX1_written_44 : decode cX1_written 44 = .ok (.iadd, 1) := by decide +kernel
theorem dX1_written_45 : decode cX1_written 45 = .ok (.iload_n 1, 1) := by decide +kernel
theorem dX1_written_46 : decode cX1_written 46 = .ok (.aload_n 2, 1) := by decide +kernel
theorem dX1_written_47 : decode cX1_written 47 = .ok (.invokevirtual 36, 3) := by decide +kernel
theorem dX1_written_50 : decode cX1_written 50 = .ok (.aload_n 0, 1) := by decide +kernel
theorem dX1_written_51 : decode cX1_written 51 = .ok (.getfield 21, 3) := by decide +kernel
theorem dX1_written_54 : decode cX1_written 54 = .ok (.iconst (-1), 1) := by decide +kernel
theorem dX1_written_55 : decode cX1_written 55 = .ok (.if_icmp .ne 8, 3) := by decide +kernel
theorem dX1_written_58 : decode cX1_written 58 = .ok (.bipush 64, 2) := by decide +kernel
theorem dX1_written_60 : decode cX1_written 60 = .ok (.goto 12, 3) := by decide +kernel
theorem dX1_written_63 : decode cX1_written 63 = .ok (.aload_n 0, 1) := by decide +kernel
theorem dX1_written_64 : decode cX1_written 64 = .ok (.getfield 21, 3) := by decide +kernel
theorem dX1_written_67 : decode cX1_written 67 = .ok (.bipush 64, 2) := by decide +kernel
theorem dX1_written_69 : decode cX1_written 69 = .ok (.invokestatic 40, 3) := by decide +kernel
theorem dX1_written_72 : decode cX1_written 72 = .ok (.istore_n 3, 1) := by decide +kernel
theorem dX1_written_73 : decode cX1_written 73 = .ok (.iconst 0, 1) := by decide +kernel
theorem dX1_written_74 : decode cX1_written 74 = .ok (.istore 4, 2) := by decide +kernel
theorem dX1_written_76 : decode cX1_written 76 = .ok (.iload 4, 2) := by decide +kernel
theorem dX1_written_78 : decode cX1_written 78 = .ok (.iload_n 3, 1) := by decide +kernel
theorem dX1_written_79 : decode cX1_written 79 = .ok (.if_icmp .ge 31, 3) := by decide +kernel
theorem dX1_written_82 : decode cX1_written 82 = .ok (.aload_n 0, 1) := by decide +kernel
theorem dX1_written_83 : decode cX1_written 83 = .ok (.getfield 11, 3) := by decide +kernel
theorem dX1_written_86 : decode cX1_written 86 = .ok (.aload_n 0, 1) := by decide +kernel
theorem dX1_written_87 : decode cX1_written 87 = .ok (.getfield 29, 3) := by decide +kernel
theorem dX1_written_90 : decode cX1_written 90 = .ok (.bipush 64, 2) := by decide +kernel
theorem dX1_written_92 : decode cX1_written 92 = .ok (.imul, 1) := by decide +kernel
theorem dX1_written_93 : decode cX1_written 93 = .ok (.iload 4, 2) := by decide +kernel
theorem dX1_written_95 : decode cX1_written 95 = .ok (.iadd, 1) := by decide +kernel
theorem dX1_written_96 : decode cX1_written 96 = .ok (.aload_n 0, 1) := by decide +kernel
theorem dX1_written_97 : decode cX1_written 97 = .ok (.getfield 15, 3) := by decide +kernel
theorem dX1_written_100 : decode cX1_written 100 = .ok (.iload 4, 2) := by decide +kernel
theorem dX1_written_102 : decode cX1_written 102 = .ok (.iaload, 1) := by decide +kernel
theorem dX1_written_103 : decode cX1_written 103 = .ok (.iastore, 1) := by decide +kernel
theorem dX1_written_104 : decode cX1_written 104 = .ok (.iinc 4 1, 3) := by decide +kernel
theorem dX1_written_107 : decode cX1_written 107 = .ok (.goto (-31), 3) := by decide +kernel
theorem dX1_written_110 : decode cX1_written 110 = .ok (.iload_n 3, 1) := by decide +kernel
theorem dX1_written_111 : decode cX1_written 111 = .ok (.ifCond .le 13, 3) := by decide +kernel
theorem dX1_written_114 : decode cX1_written 114 = .ok (.aload_n 0, 1) := by decide +kernel
theorem dX1_written_115 : decode cX1_written 115 = .ok (.dup, 1) := by decide +kernel
theorem dX1_written_116 : decode cX1_written 116 = .ok (.getfield 29, 3) := by decide +kernel
theorem dX1_written_119 : decode cX1_written 119 = .ok (.iconst 1, 1) := by decide +kernel
theorem dX1_written_120 : decode cX1_written 120 = .ok (.iadd, 1) := by decide +kernel
theorem dX1_written_121 : decode cX1_written 121 = .ok (.putfield 29, 3) := by decide +kernel
theorem dX1_written_124 : decode cX1_written 124 = .ok (.iload_n 3, 1) := by decide +kernel
theorem dX1_written_125 : decode cX1_written 125 = .ok (.bipush 64, 2) := by decide +kernel
theorem dX1_written_127 : decode cX1_written 127 = .ok (.if_icmp .ge 11, 3) := by decide +kernel
theorem dX1_written_130 : decode cX1_written 130 = .ok (.aload_n 0, 1) := by decide +kernel
theorem dX1_written_131 : decode cX1_written 131 = .ok (.iconst 1, 1) := by decide +kernel
theorem dX1_written_132 : decode cX1_written 132 = .ok (.putfield 25, 3) := by decide +kernel
theorem dX1_written_135 : decode cX1_written 135 = .ok (.bipush (-3), 2) := by decide +kernel
theorem dX1_written_137 : decode cX1_written 137 = .ok (.ireturn, 1) := by decide +kernel
theorem dX1_written_138 : decode cX1_written 138 = .ok (.aload_n 0, 1) := by decide +kernel
theorem dX1_written_139 : decode cX1_written 139 = .ok (.getfield 21, 3) := by decide +kernel
theorem dX1_written_142 : decode cX1_written 142 = .ok (.iconst (-1), 1) := by decide +kernel
theorem dX1_written_143 : decode cX1_written 143 = .ok (.if_icmp .eq 14, 3) := by decide +kernel
theorem dX1_written_146 : decode cX1_written 146 = .ok (.aload_n 0, 1) := by decide +kernel
theorem dX1_written_147 : decode cX1_written 147 = .ok (.dup, 1) := by decide +kernel
theorem dX1_written_148 : decode cX1_written 148 = .ok (.getfield 21, 3) := by decide +kernel
theorem dX1_written_151 : decode cX1_written 151 = .ok (.bipush 64, 2) := by decide +kernel
theorem dX1_written_153 : decode cX1_written 153 = .ok (.isub, 1) := by decide +kernel
theorem dX1_written_154 : decode cX1_written 154 = .ok (.putfield 21, 3) := by decide +kernel
theorem dX1_written_157 : decode cX1_written 157 = .ok (.aload_n 0, 1) := by decide +kernel
theorem dX1_written_158 : decode cX1_written 158 = .ok (.dup, 1) := by decide +kernel
theorem dX1_written_159 : decode cX1_written 159 = .ok (.getfield 32, 3) := by decide +kernel
theorem dX1_written_162 : decode cX1_written 162 = .ok (.iconst 1, 1) := by decide +kernel
theorem dX1_written_163 : decode cX1_written 163 = .ok (.iadd, 1) := by decide +kernel
theorem dX1_written_164 : decode cX1_written 164 = .ok (.putfield 32, 3) := by decide +kernel
theorem dX1_written_167 : decode cX1_written 167 = .ok (.aload_n 0, 1) := by decide +kernel
theorem dX1_written_168 : decode cX1_written 168 = .ok (.getfield 32, 3) := by decide +kernel
theorem dX1_written_171 : decode cX1_written 171 = .ok (.ireturn, 1) := by decide +kernel
theorem dX1_fillDraft_0 : decode cX1_fillDraft 0 = .ok (.iconst 0, 1) := by decide +kernel
theorem dX1_fillDraft_1 : decode cX1_fillDraft 1 = .ok (.istore 4, 2) := by decide +kernel
theorem dX1_fillDraft_3 : decode cX1_fillDraft 3 = .ok (.iload 4, 2) := by decide +kernel
theorem dX1_fillDraft_5 : decode cX1_fillDraft 5 = .ok (.bipush 64, 2) := by decide +kernel
theorem dX1_fillDraft_7 : decode cX1_fillDraft 7 = .ok (.if_icmp .ge 17, 3) := by decide +kernel
theorem dX1_fillDraft_10 : decode cX1_fillDraft 10 = .ok (.aload_n 0, 1) := by decide +kernel
theorem dX1_fillDraft_11 : decode cX1_fillDraft 11 = .ok (.getfield 15, 3) := by decide +kernel
theorem dX1_fillDraft_14 : decode cX1_fillDraft 14 = .ok (.iload 4, 2) := by decide +kernel
theorem dX1_fillDraft_16 : decode cX1_fillDraft 16 = .ok (.iconst 0, 1) := by decide +kernel
theorem dX1_fillDraft_17 : decode cX1_fillDraft 17 = .ok (.iastore, 1) := by decide +kernel
theorem dX1_fillDraft_18 : decode cX1_fillDraft 18 = .ok (.iinc 4 1, 3) := by decide +kernel
theorem dX1_fillDraft_21 : decode cX1_fillDraft 21 = .ok (.goto (-18), 3) := by decide +kernel
theorem dX1_fillDraft_24 : decode cX1_fillDraft 24 = .ok (.aload_n 0, 1) := by decide +kernel
theorem dX1_fillDraft_25 : decode cX1_fillDraft 25 = .ok (.iconst 0, 1) := by decide +kernel
theorem dX1_fillDraft_26 : decode cX1_fillDraft 26 = .ok (.iconst 4, 1) := by decide +kernel
theorem dX1_fillDraft_27 : decode cX1_fillDraft 27 = .ok (.iload_n 1, 1) := by decide +kernel
theorem dX1_fillDraft_28 : decode cX1_fillDraft 28 = .ok (.i2l, 1) := by decide +kernel
theorem dX1_fillDraft_29 : decode cX1_fillDraft 29 = .ok (.invokevirtual 46, 3) := by decide +kernel
theorem dX1_fillDraft_32 : decode cX1_fillDraft 32 = .ok (.aload_n 0, 1) := by decide +kernel
theorem dX1_fillDraft_33 : decode cX1_fillDraft 33 = .ok (.getfield 15, 3) := by decide +kernel
theorem dX1_fillDraft_36 : decode cX1_fillDraft 36 = .ok (.iconst 4, 1) := by decide +kernel
theorem dX1_fillDraft_37 : decode cX1_fillDraft 37 = .ok (.iload_n 2, 1) := by decide +kernel
theorem dX1_fillDraft_38 : decode cX1_fillDraft 38 = .ok (.iastore, 1) := by decide +kernel
theorem dX1_fillDraft_39 : decode cX1_fillDraft 39 = .ok (.aload_n 0, 1) := by decide +kernel
theorem dX1_fillDraft_40 : decode cX1_fillDraft 40 = .ok (.getfield 15, 3) := by decide +kernel
theorem dX1_fillDraft_43 : decode cX1_fillDraft 43 = .ok (.iconst 5, 1) := by decide +kernel
theorem dX1_fillDraft_44 : decode cX1_fillDraft 44 = .ok (.aload_n 3, 1) := by decide +kernel
theorem dX1_fillDraft_45 : decode cX1_fillDraft 45 = .ok (.arraylength, 1) := by decide +kernel
theorem dX1_fillDraft_46 : decode cX1_fillDraft 46 = .ok (.iastore, 1) := by decide +kernel
theorem dX1_fillDraft_47 : decode cX1_fillDraft 47 = .ok (.iconst 0, 1) := by decide +kernel
theorem dX1_fillDraft_48 : decode cX1_fillDraft 48 = .ok (.istore 4, 2) := by decide +kernel
theorem dX1_fillDraft_50 : decode cX1_fillDraft 50 = .ok (.iload 4, 2) := by decide +kernel
theorem dX1_fillDraft_52 : decode cX1_fillDraft 52 = .ok (.aload_n 3, 1) := by decide +kernel
theorem dX1_fillDraft_53 : decode cX1_fillDraft 53 = .ok (.arraylength, 1) := by decide +kernel
theorem dX1_fillDraft_54 : decode cX1_fillDraft 54 = .ok (.if_icmp .ge 34, 3) := by decide +kernel
theorem dX1_fillDraft_57 : decode cX1_fillDraft 57 = .ok (.iload 4, 2) := by decide +kernel
theorem dX1_fillDraft_59 : decode cX1_fillDraft 59 = .ok (.bipush 6, 2) := by decide +kernel
theorem dX1_fillDraft_61 : decode cX1_fillDraft 61 = .ok (.if_icmp .ge 27, 3) := by decide +kernel
theorem dX1_fillDraft_64 : decode cX1_fillDraft 64 = .ok (.aload_n 0, 1) := by decide +kernel
theorem dX1_fillDraft_65 : decode cX1_fillDraft 65 = .ok (.bipush 12, 2) := by decide +kernel
theorem dX1_fillDraft_67 : decode cX1_fillDraft 67 = .ok (.bipush 8, 2) := by decide +kernel
theorem dX1_fillDraft_69 : decode cX1_fillDraft 69 = .ok (.iload 4, 2) := by decide +kernel
theorem dX1_fillDraft_71 : decode cX1_fillDraft 71 = .ok (.imul, 1) := by decide +kernel
theorem dX1_fillDraft_72 : decode cX1_fillDraft 72 = .ok (.iadd, 1) := by decide +kernel
theorem dX1_fillDraft_73 : decode cX1_fillDraft 73 = .ok (.bipush 8, 2) := by decide +kernel
theorem dX1_fillDraft_75 : decode cX1_fillDraft 75 = .ok (.aload_n 3, 1) := by decide +kernel
theorem dX1_fillDraft_76 : decode cX1_fillDraft 76 = .ok (.iload 4, 2) := by decide +kernel
theorem dX1_fillDraft_78 : decode cX1_fillDraft 78 = .ok (.laload, 1) := by decide +kernel
theorem dX1_fillDraft_79 : decode cX1_fillDraft 79 = .ok (.invokevirtual 46, 3) := by decide +kernel
theorem dX1_fillDraft_82 : decode cX1_fillDraft 82 = .ok (.iinc 4 1, 3) := by decide +kernel
theorem dX1_fillDraft_85 : decode cX1_fillDraft 85 = .ok (.goto (-35), 3) := by decide +kernel
theorem dX1_fillDraft_88 : decode cX1_fillDraft 88 = .ok (.aload_n 0, 1) := by decide +kernel
theorem dX1_fillDraft_89 : decode cX1_fillDraft 89 = .ok (.bipush 60, 2) := by decide +kernel
theorem dX1_fillDraft_91 : decode cX1_fillDraft 91 = .ok (.iconst 4, 1) := by decide +kernel
theorem dX1_fillDraft_92 : decode cX1_fillDraft 92 = .ok (.aload_n 0, 1) := by decide +kernel
theorem dX1_fillDraft_93 : decode cX1_fillDraft 93 = .ok (.getfield 15, 3) := by decide +kernel
theorem dX1_fillDraft_96 : decode cX1_fillDraft 96 = .ok (.iconst 0, 1) := by decide +kernel
theorem dX1_fillDraft_97 : decode cX1_fillDraft 97 = .ok (.invokestatic 50, 3) := by decide +kernel
theorem dX1_fillDraft_100 : decode cX1_fillDraft 100 = .ok (.i2l, 1) := by decide +kernel
theorem dX1_fillDraft_101 : decode cX1_fillDraft 101 = .ok (.invokevirtual 46, 3) := by decide +kernel
theorem dX1_fillDraft_104 : decode cX1_fillDraft 104 = .ok (.return_, 1) := by decide +kernel
theorem dX1_putNumber_0 : decode cX1_putNumber 0 = .ok (.iconst 0, 1) := by decide +kernel
theorem dX1_putNumber_1 : decode cX1_putNumber 1 = .ok (.istore 5, 2) := by decide +kernel
theorem dX1_putNumber_3 : decode cX1_putNumber 3 = .ok (.iload 5, 2) := by decide +kernel
theorem dX1_putNumber_5 : decode cX1_putNumber 5 = .ok (.iload_n 2, 1) := by decide +kernel
theorem dX1_putNumber_6 : decode cX1_putNumber 6 = .ok (.if_icmp .ge 43, 3) := by decide +kernel
theorem dX1_putNumber_9 : decode cX1_putNumber 9 = .ok (.iload_n 1, 1) := by decide +kernel
theorem dX1_putNumber_10 : decode cX1_putNumber 10 = .ok (.iload 5, 2) := by decide +kernel
theorem dX1_putNumber_12 : decode cX1_putNumber 12 = .ok (.iadd, 1) := by decide +kernel
theorem dX1_putNumber_13 : decode cX1_putNumber 13 = .ok (.bipush 64, 2) := by decide +kernel
theorem dX1_putNumber_15 : decode cX1_putNumber 15 = .ok (.if_icmp .ge 34, 3) := by decide +kernel
theorem dX1_putNumber_18 : decode cX1_putNumber 18 = .ok (.aload_n 0, 1) := by decide +kernel
theorem dX1_putNumber_19 : decode cX1_putNumber 19 = .ok (.getfield 15, 3) := by decide +kernel
theorem dX1_putNumber_22 : decode cX1_putNumber 22 = .ok (.iload_n 1, 1) := by decide +kernel
theorem dX1_putNumber_23 : decode cX1_putNumber 23 = .ok (.iload 5, 2) := by decide +kernel
theorem dX1_putNumber_25 : decode cX1_putNumber 25 = .ok (.iadd, 1) := by decide +kernel
theorem dX1_putNumber_26 : decode cX1_putNumber 26 = .ok (.lload_n 3, 1) := by decide +kernel
theorem dX1_putNumber_27 : decode cX1_putNumber 27 = .ok (.bipush 8, 2) := by decide +kernel
theorem dX1_putNumber_29 : decode cX1_putNumber 29 = .ok (.iload_n 2, 1) := by decide +kernel
theorem dX1_putNumber_30 : decode cX1_putNumber 30 = .ok (.iconst 1, 1) := by decide +kernel
theorem dX1_putNumber_31 : decode cX1_putNumber 31 = .ok (.isub, 1) := by decide +kernel
theorem dX1_putNumber_32 : decode cX1_putNumber 32 = .ok (.iload 5, 2) := by decide +kernel
theorem dX1_putNumber_34 : decode cX1_putNumber 34 = .ok (.isub, 1) := by decide +kernel
theorem dX1_putNumber_35 : decode cX1_putNumber 35 = .ok (.imul, 1) := by decide +kernel
theorem dX1_putNumber_36 : decode cX1_putNumber 36 = .ok (.lshr, 1) := by decide +kernel
theorem dX1_putNumber_37 : decode cX1_putNumber 37 = .ok (.l2i, 1) := by decide +kernel
theorem dX1_putNumber_38 : decode cX1_putNumber 38 = .ok (.sipush 255, 3) := by decide +kernel
theorem dX1_putNumber_41 : decode cX1_putNumber 41 = .ok (.iand, 1) := by decide +kernel
theorem dX1_putNumber_42 : decode cX1_putNumber 42 = .ok (.iastore, 1) := by decide +kernel
theorem dX1_putNumber_43 : decode cX1_putNumber 43 = .ok (.iinc 5 1, 3) := by decide +kernel
theorem dX1_putNumber_46 : decode cX1_putNumber 46 = .ok (.goto (-43), 3) := by decide +kernel
theorem dX1_putNumber_49 : decode cX1_putNumber 49 = .ok (.return_, 1) := by decide +kernel
theorem dX1_sumOf_0 : decode cX1_sumOf 0 = .ok (.iconst 0, 1) := by decide +kernel
theorem dX1_sumOf_1 : decode cX1_sumOf 1 = .ok (.istore_n 2, 1) := by decide +kernel
theorem dX1_sumOf_2 : decode cX1_sumOf 2 = .ok (.iconst 0, 1) := by decide +kernel
theorem dX1_sumOf_3 : decode cX1_sumOf 3 = .ok (.istore_n 3, 1) := by decide +kernel
theorem dX1_sumOf_4 : decode cX1_sumOf 4 = .ok (.iload_n 3, 1) := by decide +kernel
theorem dX1_sumOf_5 : decode cX1_sumOf 5 = .ok (.bipush 60, 2) := by decide +kernel
theorem dX1_sumOf_7 : decode cX1_sumOf 7 = .ok (.if_icmp .ge 33, 3) := by decide +kernel
theorem dX1_sumOf_10 : decode cX1_sumOf 10 = .ok (.iload_n 1, 1) := by decide +kernel
theorem dX1_sumOf_11 : decode cX1_sumOf 11 = .ok (.iload_n 3, 1) := by decide +kernel
theorem dX1_sumOf_12 : decode cX1_sumOf 12 = .ok (.iadd, 1) := by decide +kernel
theorem dX1_sumOf_13 : decode cX1_sumOf 13 = .ok (.aload_n 0, 1) := by decide +kernel
theorem dX1_sumOf_14 : decode cX1_sumOf 14 = .ok (.arraylength, 1) := by decide +kernel
theorem dX1_sumOf_15 : decode cX1_sumOf 15 = .ok (.if_icmp .ge 25, 3) := by decide +kernel
theorem dX1_sumOf_18 : decode cX1_sumOf 18 = .ok (.iload_n 2, 1) := by decide +kernel
theorem dX1_sumOf_19 : decode cX1_sumOf 19 = .ok (.aload_n 0, 1) := by decide +kernel
theorem dX1_sumOf_20 : decode cX1_sumOf 20 = .ok (.iload_n 1, 1) := by decide +kernel
theorem dX1_sumOf_21 : decode cX1_sumOf 21 = .ok (.iload_n 3, 1) := by decide +kernel
theorem dX1_sumOf_22 : decode cX1_sumOf 22 = .ok (.iadd, 1) := by decide +kernel
theorem dX1_sumOf_23 : decode cX1_sumOf 23 = .ok (.iaload, 1) := by decide +kernel
theorem dX1_sumOf_24 : decode cX1_sumOf 24 = .ok (.ixor, 1) := by decide +kernel
theorem dX1_sumOf_25 : decode cX1_sumOf 25 = .ok (.bipush 11, 2) := by decide +kernel
theorem dX1_sumOf_27 : decode cX1_sumOf 27 = .ok (.invokestatic 54, 3) := by decide +kernel
theorem dX1_sumOf_30 : decode cX1_sumOf 30 = .ok (.ldc 59, 2) := by decide +kernel
theorem dX1_sumOf_32 : decode cX1_sumOf 32 = .ok (.imul, 1) := by decide +kernel
theorem dX1_sumOf_33 : decode cX1_sumOf 33 = .ok (.istore_n 2, 1) := by decide +kernel
theorem dX1_sumOf_34 : decode cX1_sumOf 34 = .ok (.iinc 3 1, 3) := by decide +kernel
theorem dX1_sumOf_37 : decode cX1_sumOf 37 = .ok (.goto (-33), 3) := by decide +kernel
theorem dX1_sumOf_40 : decode cX1_sumOf 40 = .ok (.iload_n 2, 1) := by decide +kernel
theorem dX1_sumOf_41 : decode cX1_sumOf 41 = .ok (.ireturn, 1) := by decide +kernel
theorem dX1_numberAt_0 : decode cX1_numberAt 0 = .ok (.lconst 0, 1) := by decide +kernel
theorem dX1_numberAt_1 : decode cX1_numberAt 1 = .ok (.lstore 4, 2) := by decide +kernel
theorem dX1_numberAt_3 : decode cX1_numberAt 3 = .ok (.iconst 0, 1) := by decide +kernel
theorem dX1_numberAt_4 : decode cX1_numberAt 4 = .ok (.istore 6, 2) := by decide +kernel
theorem dX1_numberAt_6 : decode cX1_numberAt 6 = .ok (.iload 6, 2) := by decide +kernel
theorem dX1_numberAt_8 : decode cX1_numberAt 8 = .ok (.iload_n 3, 1) := by decide +kernel
theorem dX1_numberAt_9 : decode cX1_numberAt 9 = .ok (.if_icmp .ge 43, 3) := by decide +kernel
theorem dX1_numberAt_12 : decode cX1_numberAt 12 = .ok (.iload_n 1, 1) := by decide +kernel
theorem dX1_numberAt_13 : decode cX1_numberAt 13 = .ok (.iload_n 2, 1) := by decide +kernel
theorem dX1_numberAt_14 : decode cX1_numberAt 14 = .ok (.iload 6, 2) := by decide +kernel
theorem dX1_numberAt_16 : decode cX1_numberAt 16 = .ok (.iadd, 1) := by decide +kernel
theorem dX1_numberAt_17 : decode cX1_numberAt 17 = .ok (.invokestatic 60, 3) := by decide +kernel
theorem dX1_numberAt_20 : decode cX1_numberAt 20 = .ok (.ifCond .eq 32, 3) := by decide +kernel
theorem dX1_numberAt_23 : decode cX1_numberAt 23 = .ok (.lload 4, 2) := by decide +kernel
theorem dX1_numberAt_25 : decode cX1_numberAt 25 = .ok (.bipush 8, 2) := by decide +kernel
theorem dX1_numberAt_27 : decode cX1_numberAt 27 = .ok (.lshl, 1) := by decide +kernel
theorem dX1_numberAt_28 : decode cX1_numberAt 28 = .ok (.aload_n 0, 1) := by decide +kernel
theorem dX1_numberAt_29 : decode cX1_numberAt 29 = .ok (.getfield 11, 3) := by decide +kernel
theorem dX1_numberAt_32 : decode cX1_numberAt 32 = .ok (.iload_n 1, 1) := by decide +kernel
theorem dX1_numberAt_33 : decode cX1_numberAt 33 = .ok (.bipush 64, 2) := by decide +kernel
theorem dX1_numberAt_35 : decode cX1_numberAt 35 = .ok (.imul, 1) := by decide +kernel
theorem dX1_numberAt_36 : decode cX1_numberAt 36 = .ok (.iload_n 2, 1) := by decide +kernel
theorem dX1_numberAt_37 : decode cX1_numberAt 37 = .ok (.iadd, 1) := by decide +kernel
theorem dX1_numberAt_38 : decode cX1_numberAt 38 = .ok (.iload 6, 2) := by decide +kernel
theorem dX1_numberAt_40 : decode cX1_numberAt 40 = .ok (.iadd, 1) := by decide +kernel
theorem dX1_numberAt_41 : decode cX1_numberAt 41 = .ok (.iaload, 1) := by decide +kernel
theorem dX1_numberAt_42 : decode cX1_numberAt 42 = .ok (.i2l, 1) := by decide +kernel
theorem dX1_numberAt_43 : decode cX1_numberAt 43 = .ok (.lor, 1) := by decide +kernel
theorem dX1_numberAt_44 : decode cX1_numberAt 44 = .ok (.lstore 4, 2) := by decide +kernel
theorem dX1_numberAt_46 : decode cX1_numberAt 46 = .ok (.iinc 6 1, 3) := by decide +kernel
theorem dX1_numberAt_49 : decode cX1_numberAt 49 = .ok (.goto (-43), 3) := by decide +kernel
theorem dX1_numberAt_52 : decode cX1_numberAt 52 = .ok (.lload 4, 2) := by decide +kernel
theorem dX1_numberAt_54 : decode cX1_numberAt 54 = .ok (.lreturn, 1) := by decide +kernel
theorem dX1_numberOf_0 : decode cX1_numberOf 0 = .ok (.aload_n 0, 1) := by decide +kernel
theorem dX1_numberOf_1 : decode cX1_numberOf 1 = .ok (.iload_n 1, 1) := by decide +kernel
theorem dX1_numberOf_2 : decode cX1_numberOf 2 = .ok (.iconst 0, 1) := by decide +kernel
theorem dX1_numberOf_3 : decode cX1_numberOf 3 = .ok (.iconst 4, 1) := by decide +kernel
theorem dX1_numberOf_4 : decode cX1_numberOf 4 = .ok (.invokevirtual 64, 3) := by decide +kernel
theorem dX1_numberOf_7 : decode cX1_numberOf 7 = .ok (.l2i, 1) := by decide +kernel
theorem dX1_numberOf_8 : decode cX1_numberOf 8 = .ok (.ireturn, 1) := by decide +kernel
theorem dX1_allZero_0 : decode cX1_allZero 0 = .ok (.iload_n 2, 1) := by decide +kernel
theorem dX1_allZero_1 : decode cX1_allZero 1 = .ok (.istore 4, 2) := by decide +kernel
theorem dX1_allZero_3 : decode cX1_allZero 3 = .ok (.iload 4, 2) := by decide +kernel
theorem dX1_allZero_5 : decode cX1_allZero 5 = .ok (.iload_n 3, 1) := by decide +kernel
theorem dX1_allZero_6 : decode cX1_allZero 6 = .ok (.if_icmp .ge 24, 3) := by decide +kernel
theorem dX1_allZero_9 : decode cX1_allZero 9 = .ok (.aload_n 0, 1) := by decide +kernel
theorem dX1_allZero_10 : decode cX1_allZero 10 = .ok (.iload_n 1, 1) := by decide +kernel
theorem dX1_allZero_11 : decode cX1_allZero 11 = .ok (.iload 4, 2) := by decide +kernel
theorem dX1_allZero_13 : decode cX1_allZero 13 = .ok (.iconst 1, 1) := by decide +kernel
theorem dX1_allZero_14 : decode cX1_allZero 14 = .ok (.invokevirtual 64, 3) := by decide +kernel
theorem dX1_allZero_17 : decode cX1_allZero 17 = .ok (.lconst 0, 1) := by decide +kernel
theorem dX1_allZero_18 : decode cX1_allZero 18 = .ok (.lcmp, 1) := by decide +kernel
theorem dX1_allZero_19 : decode cX1_allZero 19 = .ok (.ifCond .eq 5, 3) := by decide +kernel
theorem dX1_allZero_22 : decode cX1_allZero 22 = .ok (.iconst 0, 1) := by decide +kernel
theorem dX1_allZero_23 : decode cX1_allZero 23 = .ok (.ireturn, 1) := by decide +kernel
theorem dX1_allZero_24 : decode cX1_allZero 24 = .ok (.iinc 4 1, 3) := by decide +kernel
theorem dX1_allZero_27 : decode cX1_allZero 27 = .ok (.goto (-24), 3) := by decide +kernel
theorem dX1_allZero_30 : decode cX1_allZero 30 = .ok (.iconst 1, 1) := by decide +kernel
theorem dX1_allZero_31 : decode cX1_allZero 31 = .ok (.ireturn, 1) := by decide +kernel
theorem dX1_isWhole_0 : decode cX1_isWhole 0 = .ok (.aload_n 0, 1) := by decide +kernel
theorem dX1_isWhole_1 : decode cX1_isWhole 1 = .ok (.iload_n 1, 1) := by decide +kernel
theorem dX1_isWhole_2 : decode cX1_isWhole 2 = .ok (.iconst 4, 1) := by decide +kernel
theorem dX1_isWhole_3 : decode cX1_isWhole 3 = .ok (.iconst 1, 1) := by decide +kernel
theorem dX1_isWhole_4 : decode cX1_isWhole 4 = .ok (.invokevirtual 64, 3) := by decide +kernel
theorem dX1_isWhole_7 : decode cX1_isWhole 7 = .ok (.l2i, 1) := by decide +kernel
theorem dX1_isWhole_8 : decode cX1_isWhole 8 = .ok (.istore_n 2, 1) := by decide +kernel
theorem dX1_isWhole_9 : decode cX1_isWhole 9 = .ok (.aload_n 0, 1) := by decide +kernel
theorem dX1_isWhole_10 : decode cX1_isWhole 10 = .ok (.iload_n 1, 1) := by decide +kernel
theorem dX1_isWhole_11 : decode cX1_isWhole 11 = .ok (.iconst 5, 1) := by decide +kernel
theorem dX1_isWhole_12 : decode cX1_isWhole 12 = .ok (.iconst 1, 1) := by decide +kernel
theorem dX1_isWhole_13 : decode cX1_isWhole 13 = .ok (.invokevirtual 64, 3) := by decide +kernel
theorem dX1_isWhole_16 : decode cX1_isWhole 16 = .ok (.l2i, 1) := by decide +kernel
theorem dX1_isWhole_17 : decode cX1_isWhole 17 = .ok (.istore_n 3, 1) := by decide +kernel
theorem dX1_isWhole_18 : decode cX1_isWhole 18 = .ok (.aload_n 0, 1) := by decide +kernel
theorem dX1_isWhole_19 : decode cX1_isWhole 19 = .ok (.iload_n 1, 1) := by decide +kernel
theorem dX1_isWhole_20 : decode cX1_isWhole 20 = .ok (.invokevirtual 68, 3) := by decide +kernel
theorem dX1_isWhole_23 : decode cX1_isWhole 23 = .ok (.iconst 1, 1) := by decide +kernel
theorem dX1_isWhole_24 : decode cX1_isWhole 24 = .ok (.if_icmp .lt 16, 3) := by decide +kernel
theorem dX1_isWhole_27 : decode cX1_isWhole 27 = .ok (.iload_n 2, 1) := by decide +kernel
theorem dX1_isWhole_28 : decode cX1_isWhole 28 = .ok (.invokestatic 72, 3) := by decide +kernel
theorem dX1_isWhole_31 : decode cX1_isWhole 31 = .ok (.ifCond .eq 9, 3) := by decide +kernel
theorem dX1_isWhole_34 : decode cX1_isWhole 34 = .ok (.iload_n 3, 1) := by decide +kernel
theorem dX1_isWhole_35 : decode cX1_isWhole 35 = .ok (.bipush 6, 2) := by decide +kernel
theorem dX1_isWhole_37 : decode cX1_isWhole 37 = .ok (.if_icmp .le 5, 3) := by decide +kernel
theorem dX1_isWhole_40 : decode cX1_isWhole 40 = .ok (.iconst 0, 1) := by decide +kernel
theorem dX1_isWhole_41 : decode cX1_isWhole 41 = .ok (.ireturn, 1) := by decide +kernel
theorem dX1_isWhole_42 : decode cX1_isWhole 42 = .ok (.aload_n 0, 1) := by decide +kernel
theorem dX1_isWhole_43 : decode cX1_isWhole 43 = .ok (.iload_n 1, 1) := by decide +kernel
theorem dX1_isWhole_44 : decode cX1_isWhole 44 = .ok (.bipush 6, 2) := by decide +kernel
theorem dX1_isWhole_46 : decode cX1_isWhole 46 = .ok (.bipush 12, 2) := by decide +kernel
theorem dX1_isWhole_48 : decode cX1_isWhole 48 = .ok (.invokevirtual 76, 3) := by decide +kernel
theorem dX1_isWhole_51 : decode cX1_isWhole 51 = .ok (.ifCond .eq 20, 3) := by decide +kernel
theorem dX1_isWhole_54 : decode cX1_isWhole 54 = .ok (.aload_n 0, 1) := by decide +kernel
theorem dX1_isWhole_55 : decode cX1_isWhole 55 = .ok (.iload_n 1, 1) := by decide +kernel
theorem dX1_isWhole_56 : decode cX1_isWhole 56 = .ok (.bipush 12, 2) := by decide +kernel
theorem dX1_isWhole_58 : decode cX1_isWhole 58 = .ok (.bipush 8, 2) := by decide +kernel
theorem dX1_isWhole_60 : decode cX1_isWhole 60 = .ok (.iload_n 3, 1) := by decide +kernel
theorem dX1_isWhole_61 : decode cX1_isWhole 61 = .ok (.imul, 1) := by decide +kernel
theorem dX1_isWhole_62 : decode cX1_isWhole 62 = .ok (.iadd, 1) := by decide +kernel
theorem dX1_isWhole_63 : decode cX1_isWhole 63 = .ok (.bipush 60, 2) := by decide +kernel
theorem dX1_isWhole_65 : decode cX1_isWhole 65 = .ok (.invokevirtual 76, 3) := by decide +kernel
theorem dX1_isWhole_68 : decode cX1_isWhole 68 = .ok (.ifCond .ne 5, 3) := by decide +kernel
theorem dX1_isWhole_71 : decode cX1_isWhole 71 = .ok (.iconst 0, 1) := by decide +kernel
theorem dX1_isWhole_72 : decode cX1_isWhole 72 = .ok (.ireturn, 1) := by decide +kernel
theorem dX1_isWhole_73 : decode cX1_isWhole 73 = .ok (.iconst 0, 1) := by decide +kernel
theorem dX1_isWhole_74 : decode cX1_isWhole 74 = .ok (.istore 4, 2) := by decide +kernel
theorem dX1_isWhole_76 : decode cX1_isWhole 76 = .ok (.iload 4, 2) := by decide +kernel
theorem dX1_isWhole_78 : decode cX1_isWhole 78 = .ok (.iload_n 3, 1) := by decide +kernel
theorem dX1_isWhole_79 : decode cX1_isWhole 79 = .ok (.if_icmp .ge 40, 3) := by decide +kernel
theorem dX1_isWhole_82 : decode cX1_isWhole 82 = .ok (.aload_n 0, 1) := by decide +kernel
theorem dX1_isWhole_83 : decode cX1_isWhole 83 = .ok (.iload_n 1, 1) := by decide +kernel
theorem dX1_isWhole_84 : decode cX1_isWhole 84 = .ok (.bipush 12, 2) := by decide +kernel
theorem dX1_isWhole_86 : decode cX1_isWhole 86 = .ok (.bipush 8, 2) := by decide +kernel
theorem dX1_isWhole_88 : decode cX1_isWhole 88 = .ok (.iload 4, 2) := by decide +kernel
theorem dX1_isWhole_90 : decode cX1_isWhole 90 = .ok (.imul, 1) := by decide +kernel
theorem dX1_isWhole_91 : decode cX1_isWhole 91 = .ok (.iadd, 1) := by decide +kernel
theorem dX1_isWhole_92 : decode cX1_isWhole 92 = .ok (.bipush 8, 2) := by decide +kernel
theorem dX1_isWhole_94 : decode cX1_isWhole 94 = .ok (.invokevirtual 64, 3) := by decide +kernel
theorem dX1_isWhole_97 : decode cX1_isWhole 97 = .ok (.lstore 5, 2) := by decide +kernel
theorem dX1_isWhole_99 : decode cX1_isWhole 99 = .ok (.lload 5, 2) := by decide +kernel
theorem dX1_isWhole_101 : decode cX1_isWhole 101 = .ok (.iload_n 2, 1) := by decide +kernel
theorem dX1_isWhole_102 : decode cX1_isWhole 102 = .ok (.lload 5, 2) := by decide +kernel
theorem dX1_isWhole_104 : decode cX1_isWhole 104 = .ok (.invokestatic 80, 3) := by decide +kernel
theorem dX1_isWhole_107 : decode cX1_isWhole 107 = .ok (.lcmp, 1) := by decide +kernel
theorem dX1_isWhole_108 : decode cX1_isWhole 108 = .ok (.ifCond .eq 5, 3) := by decide +kernel
theorem dX1_isWhole_111 : decode cX1_isWhole 111 = .ok (.iconst 0, 1) := by decide +kernel
theorem dX1_isWhole_112 : decode cX1_isWhole 112 = .ok (.ireturn, 1) := by decide +kernel
theorem dX1_isWhole_113 : decode cX1_isWhole 113 = .ok (.iinc 4 1, 3) := by decide +kernel
theorem dX1_isWhole_116 : decode cX1_isWhole 116 = .ok (.goto (-40), 3) := by decide +kernel
theorem dX1_isWhole_119 : decode cX1_isWhole 119 = .ok (.aload_n 0, 1) := by decide +kernel
theorem dX1_isWhole_120 : decode cX1_isWhole 120 = .ok (.iload_n 1, 1) := by decide +kernel
theorem dX1_isWhole_121 : decode cX1_isWhole 121 = .ok (.bipush 60, 2) := by decide +kernel
theorem dX1_isWhole_123 : decode cX1_isWhole 123 = .ok (.iconst 4, 1) := by decide +kernel
theorem dX1_isWhole_124 : decode cX1_isWhole 124 = .ok (.invokevirtual 64, 3) := by decide +kernel
theorem dX1_isWhole_127 : decode cX1_isWhole 127 = .ok (.l2i, 1) := by decide +kernel
theorem dX1_isWhole_128 : decode cX1_isWhole 128 = .ok (.aload_n 0, 1) := by decide +kernel
theorem dX1_isWhole_129 : decode cX1_isWhole 129 = .ok (.getfield 11, 3) := by decide +kernel
theorem dX1_isWhole_132 : decode cX1_isWhole 132 = .ok (.iload_n 1, 1) := by decide +kernel
theorem dX1_isWhole_133 : decode cX1_isWhole 133 = .ok (.bipush 64, 2) := by decide +kernel
theorem dX1_isWhole_135 : decode cX1_isWhole 135 = .ok (.imul, 1) := by decide +kernel
theorem dX1_isWhole_136 : decode cX1_isWhole 136 = .ok (.invokestatic 50, 3) := by decide +kernel
theorem dX1_isWhole_139 : decode cX1_isWhole 139 = .ok (.if_icmp .ne 7, 3) := by decide +kernel
theorem dX1_isWhole_142 : decode cX1_isWhole 142 = .ok (.iconst 1, 1) := by decide +kernel
theorem dX1_isWhole_143 : decode cX1_isWhole 143 = .ok (.goto 4, 3) := by decide +kernel
theorem dX1_isWhole_146 : decode cX1_isWhole 146 = .ok (.iconst 0, 1) := by decide +kernel
theorem dX1_isWhole_147 : decode cX1_isWhole 147 = .ok (.ireturn, 1) := by decide +kernel
theorem dX1_leastWith_0 : decode cX1_leastWith 0 = .ok (.iconst 0, 1) := by decide +kernel
theorem dX1_leastWith_1 : decode cX1_leastWith 1 = .ok (.istore_n 2, 1) := by decide +kernel
theorem dX1_leastWith_2 : decode cX1_leastWith 2 = .ok (.iload_n 2, 1) := by decide +kernel
theorem dX1_leastWith_3 : decode cX1_leastWith 3 = .ok (.iload_n 1, 1) := by decide +kernel
theorem dX1_leastWith_4 : decode cX1_leastWith 4 = .ok (.if_icmp .ge 32, 3) := by decide +kernel
theorem dX1_leastWith_7 : decode cX1_leastWith 7 = .ok (.aload_n 0, 1) := by decide +kernel
theorem dX1_leastWith_8 : decode cX1_leastWith 8 = .ok (.iload_n 2, 1) := by decide +kernel
theorem dX1_leastWith_9 : decode cX1_leastWith 9 = .ok (.invokevirtual 68, 3) := by decide +kernel
theorem dX1_leastWith_12 : decode cX1_leastWith 12 = .ok (.aload_n 0, 1) := by decide +kernel
theorem dX1_leastWith_13 : decode cX1_leastWith 13 = .ok (.iload_n 1, 1) := by decide +kernel
theorem dX1_leastWith_14 : decode cX1_leastWith 14 = .ok (.invokevirtual 68, 3) := by decide +kernel
theorem dX1_leastWith_17 : decode cX1_leastWith 17 = .ok (.if_icmp .ne 13, 3) := by decide +kernel
theorem dX1_leastWith_20 : decode cX1_leastWith 20 = .ok (.aload_n 0, 1) := by decide +kernel
theorem dX1_leastWith_21 : decode cX1_leastWith 21 = .ok (.iload_n 2, 1) := by decide +kernel
theorem dX1_leastWith_22 : decode cX1_leastWith 22 = .ok (.invokevirtual 84, 3) := by decide +kernel
theorem dX1_leastWith_25 : decode cX1_leastWith 25 = .ok (.ifCond .eq 5, 3) := by decide +kernel
theorem dX1_leastWith_28 : decode cX1_leastWith 28 = .ok (.iload_n 2, 1) := by decide +kernel
theorem dX1_leastWith_29 : decode cX1_leastWith 29 = .ok (.ireturn, 1) := by decide +kernel
theorem dX1_leastWith_30 : decode cX1_leastWith 30 = .ok (.iinc 2 1, 3) := by decide +kernel
theorem dX1_leastWith_33 : decode cX1_leastWith 33 = .ok (.goto (-31), 3) := by decide +kernel
theorem dX1_leastWith_36 : decode cX1_leastWith 36 = .ok (.iload_n 1, 1) := by decide +kernel
theorem dX1_leastWith_37 : decode cX1_leastWith 37 = .ok (.ireturn, 1) := by decide +kernel
theorem dX1_gatherRead_0 : decode cX1_gatherRead 0 = .ok (.iconst 0, 1) := by decide +kernel
theorem dX1_gatherRead_1 : decode cX1_gatherRead 1 = .ok (.istore_n 1, 1) := by decide +kernel
theorem dX1_gatherRead_2 : decode cX1_gatherRead 2 = .ok (.iconst 0, 1) := by decide +kernel
theorem dX1_gatherRead_3 : decode cX1_gatherRead 3 = .ok (.istore_n 2, 1) := by decide +kernel
theorem dX1_gatherRead_4 : decode cX1_gatherRead 4 = .ok (.iload_n 2, 1) := by decide +kernel
theorem dX1_gatherRead_5 : decode cX1_gatherRead 5 = .ok (.bipush 20, 2) := by decide +kernel
theorem dX1_gatherRead_7 : decode cX1_gatherRead 7 = .ok (.if_icmp .ge 82, 3) := by decide +kernel
theorem dX1_gatherRead_10 : decode cX1_gatherRead 10 = .ok (.aload_n 0, 1) := by decide +kernel
theorem dX1_gatherRead_11 : decode cX1_gatherRead 11 = .ok (.iload_n 2, 1) := by decide +kernel
theorem dX1_gatherRead_12 : decode cX1_gatherRead 12 = .ok (.invokevirtual 84, 3) := by decide +kernel
theorem dX1_gatherRead_15 : decode cX1_gatherRead 15 = .ok (.ifCond .eq 68, 3) := by decide +kernel
theorem dX1_gatherRead_18 : decode cX1_gatherRead 18 = .ok (.aload_n 0, 1) := by decide +kernel
theorem dX1_gatherRead_19 : decode cX1_gatherRead 19 = .ok (.iload_n 2, 1) := by decide +kernel
theorem dX1_gatherRead_20 : decode cX1_gatherRead 20 = .ok (.invokevirtual 87, 3) := by decide +kernel
theorem dX1_gatherRead_23 : decode cX1_gatherRead 23 = .ok (.iload_n 2, 1) := by decide +kernel
theorem dX1_gatherRead_24 : decode cX1_gatherRead 24 = .ok (.if_icmp .ne 59, 3) := by decide +kernel
theorem dX1_gatherRead_27 : decode cX1_gatherRead 27 = .ok (.iload_n 1, 1) := by decide +kernel
theorem dX1_gatherRead_28 : decode cX1_gatherRead 28 = .ok (.istore_n 3, 1) := by decide +kernel
theorem dX1_gatherRead_29 : decode cX1_gatherRead 29 = .ok (.iload_n 3, 1) := by decide +kernel
theorem dX1_gatherRead_30 : decode cX1_gatherRead 30 = .ok (.ifCond .le 43, 3) := by decide +kernel
theorem dX1_gatherRead_33 : decode cX1_gatherRead 33 = .ok (.aload_n 0, 1) := by decide +kernel
theorem dX1_gatherRead_34 : decode cX1_gatherRead 34 = .ok (.aload_n 0, 1) := by decide +kernel
theorem dX1_gatherRead_35 : decode cX1_gatherRead 35 = .ok (.getfield 18, 3) := by decide +kernel
theorem dX1_gatherRead_38 : decode cX1_gatherRead 38 = .ok (.iload_n 3, 1) := by decide +kernel
theorem dX1_gatherRead_39 : decode cX1_gatherRead 39 = .ok (.iconst 1, 1) := by decide +kernel
theorem dX1_gatherRead_40 : decode cX1_gatherRead 40 = .ok (.isub, 1) := by decide +kernel
theorem dX1_gatherRead_41 : decode cX1_gatherRead 41 = .ok (.iaload, 1) := by decide +kernel
theorem dX1_gatherRead_42 : decode cX1_gatherRead 42 = .ok (.invokevirtual 68, 3) := by decide +kernel
theorem dX1_gatherRead_45 : decode cX1_gatherRead 45 = .ok (.aload_n 0, 1) := by decide +kernel
theorem dX1_gatherRead_46 : decode cX1_gatherRead 46 = .ok (.iload_n 2, 1) := by decide +kernel
theorem dX1_gatherRead_47 : decode cX1_gatherRead 47 = .ok (.invokevirtual 68, 3) := by decide +kernel
theorem dX1_gatherRead_50 : decode cX1_gatherRead 50 = .ok (.if_icmp .le 23, 3) := by decide +kernel
theorem dX1_gatherRead_53 : decode cX1_gatherRead 53 = .ok (.aload_n 0, 1) := by decide +kernel
theorem dX1_gatherRead_54 : decode cX1_gatherRead 54 = .ok (.getfield 18, 3) := by decide +kernel
theorem dX1_gatherRead_57 : decode cX1_gatherRead 57 = .ok (.iload_n 3, 1) := by decide +kernel
theorem dX1_gatherRead_58 : decode cX1_gatherRead 58 = .ok (.aload_n 0, 1) := by decide +kernel
theorem dX1_gatherRead_59 : decode cX1_gatherRead 59 = .ok (.getfield 18, 3) := by decide +kernel
theorem dX1_gatherRead_62 : decode cX1_gatherRead 62 = .ok (.iload_n 3, 1) := by decide +kernel
theorem dX1_gatherRead_63 : decode cX1_gatherRead 63 = .ok (.iconst 1, 1) := by decide +kernel
theorem dX1_gatherRead_64 : decode cX1_gatherRead 64 = .ok (.isub, 1) := by decide +kernel
theorem dX1_gatherRead_65 : decode cX1_gatherRead 65 = .ok (.iaload, 1) := by decide +kernel
theorem dX1_gatherRead_66 : decode cX1_gatherRead 66 = .ok (.iastore, 1) := by decide +kernel
theorem dX1_gatherRead_67 : decode cX1_gatherRead 67 = .ok (.iinc 3 (-1), 3) := by decide +kernel
theorem dX1_gatherRead_70 : decode cX1_gatherRead 70 = .ok (.goto (-41), 3) := by decide +kernel
theorem dX1_gatherRead_73 : decode cX1_gatherRead 73 = .ok (.aload_n 0, 1) := by decide +kernel
theorem dX1_gatherRead_74 : decode cX1_gatherRead 74 = .ok (.getfield 18, 3) := by decide +kernel
theorem dX1_gatherRead_77 : decode cX1_gatherRead 77 = .ok (.iload_n 3, 1) := by decide +kernel
theorem dX1_gatherRead_78 : decode cX1_gatherRead 78 = .ok (.iload_n 2, 1) := by decide +kernel
theorem dX1_gatherRead_79 : decode cX1_gatherRead 79 = .ok (.iastore, 1) := by decide +kernel
theorem dX1_gatherRead_80 : decode cX1_gatherRead 80 = .ok (.iinc 1 1, 3) := by decide +kernel
theorem dX1_gatherRead_83 : decode cX1_gatherRead 83 = .ok (.iinc 2 1, 3) := by decide +kernel
theorem dX1_gatherRead_86 : decode cX1_gatherRead 86 = .ok (.goto (-82), 3) := by decide +kernel
theorem dX1_gatherRead_89 : decode cX1_gatherRead 89 = .ok (.iload_n 1, 1) := by decide +kernel
theorem dX1_gatherRead_90 : decode cX1_gatherRead 90 = .ok (.ireturn, 1) := by decide +kernel
theorem dX1_opened_0 : decode cX1_opened 0 = .ok (.aload_n 0, 1) := by decide +kernel
theorem dX1_opened_1 : decode cX1_opened 1 = .ok (.iconst (-1), 1) := by decide +kernel
theorem dX1_opened_2 : decode cX1_opened 2 = .ok (.putfield 21, 3) := by decide +kernel
theorem dX1_opened_5 : decode cX1_opened 5 = .ok (.aload_n 0, 1) := by decide +kernel
theorem dX1_opened_6 : decode cX1_opened 6 = .ok (.iconst 0, 1) := by decide +kernel
theorem dX1_opened_7 : decode cX1_opened 7 = .ok (.putfield 25, 3) := by decide +kernel
theorem dX1_opened_10 : decode cX1_opened 10 = .ok (.aload_n 0, 1) := by decide +kernel
theorem dX1_opened_11 : decode cX1_opened 11 = .ok (.invokevirtual 90, 3) := by decide +kernel
theorem dX1_opened_14 : decode cX1_opened 14 = .ok (.istore_n 1, 1) := by decide +kernel
theorem dX1_opened_15 : decode cX1_opened 15 = .ok (.aload_n 0, 1) := by decide +kernel
theorem dX1_opened_16 : decode cX1_opened 16 = .ok (.iload_n 1, 1) := by decide +kernel
theorem dX1_opened_17 : decode cX1_opened 17 = .ok (.ifCond .ne 7, 3) := by decide +kernel
theorem dX1_opened_20 : decode cX1_opened 20 = .ok (.iconst 0, 1) := by decide +kernel
theorem dX1_opened_21 : decode cX1_opened 21 = .ok (.goto 15, 3) := by decide +kernel
theorem dX1_opened_24 : decode cX1_opened 24 = .ok (.aload_n 0, 1) := by decide +kernel
theorem dX1_opened_25 : decode cX1_opened 25 = .ok (.aload_n 0, 1) := by decide +kernel
theorem dX1_opened_26 : decode cX1_opened 26 = .ok (.getfield 18, 3) := by decide +kernel
theorem dX1_opened_29 : decode cX1_opened 29 = .ok (.iload_n 1, 1) := by decide +kernel
theorem dX1_opened_30 : decode cX1_opened 30 = .ok (.iconst 1, 1) := by decide +kernel
theorem dX1_opened_31 : decode cX1_opened 31 = .ok (.isub, 1) := by decide +kernel
theorem dX1_opened_32 : decode cX1_opened 32 = .ok (.iaload, 1) := by decide +kernel
theorem dX1_opened_33 : decode cX1_opened 33 = .ok (.invokevirtual 68, 3) := by decide +kernel
theorem dX1_opened_36 : decode cX1_opened 36 = .ok (.putfield 32, 3) := by decide +kernel
theorem dX1_opened_39 : decode cX1_opened 39 = .ok (.aload_n 0, 1) := by decide +kernel
theorem dX1_opened_40 : decode cX1_opened 40 = .ok (.iconst 0, 1) := by decide +kernel
theorem dX1_opened_41 : decode cX1_opened 41 = .ok (.putfield 29, 3) := by decide +kernel
theorem dX1_opened_44 : decode cX1_opened 44 = .ok (.iconst 0, 1) := by decide +kernel
theorem dX1_opened_45 : decode cX1_opened 45 = .ok (.istore_n 2, 1) := by decide +kernel
theorem dX1_opened_46 : decode cX1_opened 46 = .ok (.iload_n 2, 1) := by decide +kernel
theorem dX1_opened_47 : decode cX1_opened 47 = .ok (.bipush 20, 2) := by decide +kernel
theorem dX1_opened_49 : decode cX1_opened 49 = .ok (.if_icmp .ge 27, 3) := by decide +kernel
theorem dX1_opened_52 : decode cX1_opened 52 = .ok (.aload_n 0, 1) := by decide +kernel
theorem dX1_opened_53 : decode cX1_opened 53 = .ok (.iload_n 2, 1) := by decide +kernel
theorem dX1_opened_54 : decode cX1_opened 54 = .ok (.iconst 0, 1) := by decide +kernel
theorem dX1_opened_55 : decode cX1_opened 55 = .ok (.bipush 64, 2) := by decide +kernel
theorem dX1_opened_57 : decode cX1_opened 57 = .ok (.invokevirtual 76, 3) := by decide +kernel
theorem dX1_opened_60 : decode cX1_opened 60 = .ok (.ifCond .ne 10, 3) := by decide +kernel
theorem dX1_opened_63 : decode cX1_opened 63 = .ok (.aload_n 0, 1) := by decide +kernel
theorem dX1_opened_64 : decode cX1_opened 64 = .ok (.iload_n 2, 1) := by decide +kernel
theorem dX1_opened_65 : decode cX1_opened 65 = .ok (.iconst 1, 1) := by decide +kernel
theorem dX1_opened_66 : decode cX1_opened 66 = .ok (.iadd, 1) := by decide +kernel
theorem dX1_opened_67 : decode cX1_opened 67 = .ok (.putfield 29, 3) := by decide +kernel
theorem dX1_opened_70 : decode cX1_opened 70 = .ok (.iinc 2 1, 3) := by decide +kernel
theorem dX1_opened_73 : decode cX1_opened 73 = .ok (.goto (-27), 3) := by decide +kernel
theorem dX1_opened_76 : decode cX1_opened 76 = .ok (.iload_n 1, 1) := by decide +kernel
theorem dX1_opened_77 : decode cX1_opened 77 = .ok (.ireturn, 1) := by decide +kernel
theorem dX1_readOf_0 : decode cX1_readOf 0 = .ok (.iload_n 1, 1) := by decide +kernel
theorem dX1_readOf_1 : decode cX1_readOf 1 = .ok (.ifCond .lt 17, 3) := by decide +kernel
theorem dX1_readOf_4 : decode cX1_readOf 4 = .ok (.iload_n 1, 1) := by decide +kernel
theorem dX1_readOf_5 : decode cX1_readOf 5 = .ok (.aload_n 0, 1) := by decide +kernel
theorem dX1_readOf_6 : decode cX1_readOf 6 = .ok (.invokevirtual 90, 3) := by decide +kernel
theorem dX1_readOf_9 : decode cX1_readOf 9 = .ok (.if_icmp .ge 9, 3) := by decide +kernel
theorem dX1_readOf_12 : decode cX1_readOf 12 = .ok (.iload_n 1, 1) := by decide +kernel
theorem dX1_readOf_13 : decode cX1_readOf 13 = .ok (.bipush 20, 2) := by decide +kernel
theorem dX1_readOf_15 : decode cX1_readOf 15 = .ok (.if_icmp .lt 7, 3) := by decide +kernel
theorem dX1_readOf_18 : decode cX1_readOf 18 = .ok (.ldc2_w 94, 3) := by decide +kernel
theorem dX1_readOf_21 : decode cX1_readOf 21 = .ok (.lreturn, 1) := by decide +kernel
theorem dX1_readOf_22 : decode cX1_readOf 22 = .ok (.aload_n 0, 1) := by decide +kernel
theorem dX1_readOf_23 : decode cX1_readOf 23 = .ok (.getfield 18, 3) := by decide +kernel
theorem dX1_readOf_26 : decode cX1_readOf 26 = .ok (.iload_n 1, 1) := by decide +kernel
theorem dX1_readOf_27 : decode cX1_readOf 27 = .ok (.iaload, 1) := by decide +kernel
theorem dX1_readOf_28 : decode cX1_readOf 28 = .ok (.istore_n 3, 1) := by decide +kernel
theorem dX1_readOf_29 : decode cX1_readOf 29 = .ok (.aload_n 0, 1) := by decide +kernel
theorem dX1_readOf_30 : decode cX1_readOf 30 = .ok (.iload_n 3, 1) := by decide +kernel
theorem dX1_readOf_31 : decode cX1_readOf 31 = .ok (.iconst 5, 1) := by decide +kernel
theorem dX1_readOf_32 : decode cX1_readOf 32 = .ok (.iconst 1, 1) := by decide +kernel
theorem dX1_readOf_33 : decode cX1_readOf 33 = .ok (.invokevirtual 64, 3) := by decide +kernel
theorem dX1_readOf_36 : decode cX1_readOf 36 = .ok (.l2i, 1) := by decide +kernel
theorem dX1_readOf_37 : decode cX1_readOf 37 = .ok (.istore 4, 2) := by decide +kernel
theorem dX1_readOf_39 : decode cX1_readOf 39 = .ok (.iload_n 2, 1) := by decide +kernel
theorem dX1_readOf_40 : decode cX1_readOf 40 = .ok (.tableswitch 54 0 3 #[32, 35, 42, 50], 32) := by decide +kernel
theorem dX1_readOf_72 : decode cX1_readOf 72 = .ok (.iload_n 3, 1) := by decide +kernel
theorem dX1_readOf_73 : decode cX1_readOf 73 = .ok (.i2l, 1) := by decide +kernel
theorem dX1_readOf_74 : decode cX1_readOf 74 = .ok (.lreturn, 1) := by decide +kernel
theorem dX1_readOf_75 : decode cX1_readOf 75 = .ok (.aload_n 0, 1) := by decide +kernel
theorem dX1_readOf_76 : decode cX1_readOf 76 = .ok (.iload_n 3, 1) := by decide +kernel
theorem dX1_readOf_77 : decode cX1_readOf 77 = .ok (.invokevirtual 68, 3) := by decide +kernel
theorem dX1_readOf_80 : decode cX1_readOf 80 = .ok (.i2l, 1) := by decide +kernel
theorem dX1_readOf_81 : decode cX1_readOf 81 = .ok (.lreturn, 1) := by decide +kernel
theorem dX1_readOf_82 : decode cX1_readOf 82 = .ok (.aload_n 0, 1) := by decide +kernel
theorem dX1_readOf_83 : decode cX1_readOf 83 = .ok (.iload_n 3, 1) := by decide +kernel
theorem dX1_readOf_84 : decode cX1_readOf 84 = .ok (.iconst 4, 1) := by decide +kernel
theorem dX1_readOf_85 : decode cX1_readOf 85 = .ok (.iconst 1, 1) := by decide +kernel
theorem dX1_readOf_86 : decode cX1_readOf 86 = .ok (.invokevirtual 64, 3) := by decide +kernel
theorem dX1_readOf_89 : decode cX1_readOf 89 = .ok (.lreturn, 1) := by decide +kernel
theorem dX1_readOf_90 : decode cX1_readOf 90 = .ok (.iload 4, 2) := by decide +kernel
theorem dX1_readOf_92 : decode cX1_readOf 92 = .ok (.i2l, 1) := by decide +kernel
theorem dX1_readOf_93 : decode cX1_readOf 93 = .ok (.lreturn, 1) := by decide +kernel
theorem dX1_readOf_94 : decode cX1_readOf 94 = .ok (.iload_n 2, 1) := by decide +kernel
theorem dX1_readOf_95 : decode cX1_readOf 95 = .ok (.bipush 10, 2) := by decide +kernel
theorem dX1_readOf_97 : decode cX1_readOf 97 = .ok (.if_icmp .lt 32, 3) := by decide +kernel
theorem dX1_readOf_100 : decode cX1_readOf 100 = .ok (.iload_n 2, 1) := by decide +kernel
theorem dX1_readOf_101 : decode cX1_readOf 101 = .ok (.bipush 10, 2) := by decide +kernel
theorem dX1_readOf_103 : decode cX1_readOf 103 = .ok (.iload 4, 2) := by decide +kernel
theorem dX1_readOf_105 : decode cX1_readOf 105 = .ok (.iadd, 1) := by decide +kernel
theorem dX1_readOf_106 : decode cX1_readOf 106 = .ok (.if_icmp .ge 23, 3) := by decide +kernel
theorem dX1_readOf_109 : decode cX1_readOf 109 = .ok (.aload_n 0, 1) := by decide +kernel
theorem dX1_readOf_110 : decode cX1_readOf 110 = .ok (.iload_n 3, 1) := by decide +kernel
theorem dX1_readOf_111 : decode cX1_readOf 111 = .ok (.bipush 12, 2) := by decide +kernel
theorem dX1_readOf_113 : decode cX1_readOf 113 = .ok (.bipush 8, 2) := by decide +kernel
theorem dX1_readOf_115 : decode cX1_readOf 115 = .ok (.iload_n 2, 1) := by decide +kernel
theorem dX1_readOf_116 : decode cX1_readOf 116 = .ok (.bipush 10, 2) := by decide +kernel
theorem dX1_readOf_118 : decode cX1_readOf 118 = .ok (.isub, 1) := by decide +kernel
theorem dX1_readOf_119 : decode cX1_readOf 119 = .ok (.imul, 1) := by decide +kernel
theorem dX1_readOf_120 : decode cX1_readOf 120 = .ok (.iadd, 1) := by decide +kernel
theorem dX1_readOf_121 : decode cX1_readOf 121 = .ok (.bipush 8, 2) := by decide +kernel
theorem dX1_readOf_123 : decode cX1_readOf 123 = .ok (.invokevirtual 64, 3) := by decide +kernel
theorem dX1_readOf_126 : decode cX1_readOf 126 = .ok (.goto 6, 3) := by decide +kernel
theorem dX1_readOf_129 : decode cX1_readOf 129 = .ok (.ldc2_w 94, 3) := by decide +kernel
theorem dX1_readOf_132 : decode cX1_readOf 132 = .ok (.lreturn, 1) := by decide +kernel
theorem dX1_clashes_0 : decode cX1_clashes 0 = .ok (.iconst 0, 1) := by decide +kernel
theorem dX1_clashes_1 : decode cX1_clashes 1 = .ok (.istore_n 1, 1) := by decide +kernel
theorem dX1_clashes_2 : decode cX1_clashes 2 = .ok (.iconst 0, 1) := by decide +kernel
theorem dX1_clashes_3 : decode cX1_clashes 3 = .ok (.istore_n 2, 1) := by decide +kernel
theorem dX1_clashes_4 : decode cX1_clashes 4 = .ok (.iload_n 2, 1) := by decide +kernel
theorem dX1_clashes_5 : decode cX1_clashes 5 = .ok (.bipush 20, 2) := by decide +kernel
theorem dX1_clashes_7 : decode cX1_clashes 7 = .ok (.if_icmp .ge 33, 3) := by decide +kernel
theorem dX1_clashes_10 : decode cX1_clashes 10 = .ok (.aload_n 0, 1) := by decide +kernel
theorem dX1_clashes_11 : decode cX1_clashes 11 = .ok (.iload_n 2, 1) := by decide +kernel
theorem dX1_clashes_12 : decode cX1_clashes 12 = .ok (.invokevirtual 84, 3) := by decide +kernel
theorem dX1_clashes_15 : decode cX1_clashes 15 = .ok (.ifCond .eq 19, 3) := by decide +kernel
theorem dX1_clashes_18 : decode cX1_clashes 18 = .ok (.aload_n 0, 1) := by decide +kernel
theorem dX1_clashes_19 : decode cX1_clashes 19 = .ok (.iload_n 2, 1) := by decide +kernel
theorem dX1_clashes_20 : decode cX1_clashes 20 = .ok (.aload_n 0, 1) := by decide +kernel
theorem dX1_clashes_21 : decode cX1_clashes 21 = .ok (.iload_n 2, 1) := by decide +kernel
theorem dX1_clashes_22 : decode cX1_clashes 22 = .ok (.invokevirtual 87, 3) := by decide +kernel
theorem dX1_clashes_25 : decode cX1_clashes 25 = .ok (.invokevirtual 96, 3) := by decide +kernel
theorem dX1_clashes_28 : decode cX1_clashes 28 = .ok (.ifCond .ne 6, 3) := by decide +kernel
theorem dX1_clashes_31 : decode cX1_clashes 31 = .ok (.iinc 1 1, 3) := by decide +kernel
theorem dX1_clashes_34 : decode cX1_clashes 34 = .ok (.iinc 2 1, 3) := by decide +kernel
theorem dX1_clashes_37 : decode cX1_clashes 37 = .ok (.goto (-33), 3) := by decide +kernel
theorem dX1_clashes_40 : decode cX1_clashes 40 = .ok (.iload_n 1, 1) := by decide +kernel
theorem dX1_clashes_41 : decode cX1_clashes 41 = .ok (.ireturn, 1) := by decide +kernel
theorem dX1_samePages_0 : decode cX1_samePages 0 = .ok (.iconst 0, 1) := by decide +kernel
theorem dX1_samePages_1 : decode cX1_samePages 1 = .ok (.istore_n 3, 1) := by decide +kernel
theorem dX1_samePages_2 : decode cX1_samePages 2 = .ok (.iload_n 3, 1) := by decide +kernel
theorem dX1_samePages_3 : decode cX1_samePages 3 = .ok (.bipush 64, 2) := by decide +kernel
theorem dX1_samePages_5 : decode cX1_samePages 5 = .ok (.if_icmp .ge 29, 3) := by decide +kernel
theorem dX1_samePages_8 : decode cX1_samePages 8 = .ok (.aload_n 0, 1) := by decide +kernel
theorem dX1_samePages_9 : decode cX1_samePages 9 = .ok (.iload_n 1, 1) := by decide +kernel
theorem dX1_samePages_10 : decode cX1_samePages 10 = .ok (.iload_n 3, 1) := by decide +kernel
theorem dX1_samePages_11 : decode cX1_samePages 11 = .ok (.iconst 1, 1) := by decide +kernel
theorem dX1_samePages_12 : decode cX1_samePages 12 = .ok (.invokevirtual 64, 3) := by decide +kernel
theorem dX1_samePages_15 : decode cX1_samePages 15 = .ok (.aload_n 0, 1) := by decide +kernel
theorem dX1_samePages_16 : decode cX1_samePages 16 = .ok (.iload_n 2, 1) := by decide +kernel
theorem dX1_samePages_17 : decode cX1_samePages 17 = .ok (.iload_n 3, 1) := by decide +kernel
theorem dX1_samePages_18 : decode cX1_samePages 18 = .ok (.iconst 1, 1) := by decide +kernel
theorem dX1_samePages_19 : decode cX1_samePages 19 = .ok (.invokevirtual 64, 3) := by decide +kernel
theorem dX1_samePages_22 : decode cX1_samePages 22 = .ok (.lcmp, 1) := by decide +kernel
theorem dX1_samePages_23 : decode cX1_samePages 23 = .ok (.ifCond .eq 5, 3) := by decide +kernel
theorem dX1_samePages_26 : decode cX1_samePages 26 = .ok (.iconst 0, 1) := by decide +kernel
theorem dX1_samePages_27 : decode cX1_samePages 27 = .ok (.ireturn, 1) := by decide +kernel
theorem dX1_samePages_28 : decode cX1_samePages 28 = .ok (.iinc 3 1, 3) := by decide +kernel
theorem dX1_samePages_31 : decode cX1_samePages 31 = .ok (.goto (-29), 3) := by decide +kernel
theorem dX1_samePages_34 : decode cX1_samePages 34 = .ok (.iconst 1, 1) := by decide +kernel
theorem dX1_samePages_35 : decode cX1_samePages 35 = .ok (.ireturn, 1) := by decide +kernel
theorem dX2_init_0 : decode cX2_init 0 = .ok (.aload_n 0, 1) := by decide +kernel
theorem dX2_init_1 : decode cX2_init 1 = .ok (.invokespecial 1, 3) := by decide +kernel
theorem dX2_init_4 : decode cX2_init 4 = .ok (.aload_n 0, 1) := by decide +kernel
theorem dX2_init_5 : decode cX2_init 5 = .ok (.bipush 6, 2) := by decide +kernel
theorem dX2_init_7 : decode cX2_init 7 = .ok (.iconst 3, 1) := by decide +kernel
theorem dX2_init_8 : decode cX2_init 8 = .ok (.multianewarray 9 2, 4) := by decide +kernel
theorem dX2_init_12 : decode cX2_init 12 = .ok (.putfield 11, 3) := by decide +kernel
theorem dX2_init_15 : decode cX2_init 15 = .ok (.aload_n 0, 1) := by decide +kernel
theorem dX2_init_16 : decode cX2_init 16 = .ok (.iconst 3, 1) := by decide +kernel
theorem dX2_init_17 : decode cX2_init 17 = .ok (.bipush 8, 2) := by decide +kernel
theorem dX2_init_19 : decode cX2_init 19 = .ok (.multianewarray 14 2, 4) := by decide +kernel
theorem dX2_init_23 : decode cX2_init 23 = .ok (.putfield 16, 3) := by decide +kernel
theorem dX2_init_26 : decode cX2_init 26 = .ok (.aload_n 0, 1) := by decide +kernel
theorem dX2_init_27 : decode cX2_init 27 = .ok (.iconst 3, 1) := by decide +kernel
theorem dX2_init_28 : decode cX2_init 28 = .ok (.bipush 8, 2) := by decide +kernel
theorem dX2_init_30 : decode cX2_init 30 = .ok (.multianewarray 14 2, 4) := by decide +kernel
theorem dX2_init_34 : decode cX2_init 34 = .ok (.putfield 19, 3) := by decide +kernel
theorem dX2_init_37 : decode cX2_init 37 = .ok (.aload_n 0, 1) := by decide +kernel
theorem dX2_init_38 : decode cX2_init 38 = .ok (.iconst 3, 1) := by decide +kernel
theorem dX2_init_39 : decode cX2_init 39 = .ok (.newarray .int, 2) := by decide +kernel
theorem dX2_init_41 : decode cX2_init 41 = .ok (.putfield 22, 3) := by decide +kernel
theorem dX2_init_44 : decode cX2_init 44 = .ok (.aload_n 0, 1) := by decide +kernel
theorem dX2_init_45 : decode cX2_init 45 = .ok (.iconst 4, 1) := by decide +kernel
theorem dX2_init_46 : decode cX2_init 46 = .ok (.newarray .long, 2) := by decide +kernel
theorem dX2_init_48 : decode cX2_init 48 = .ok (.putfield 26, 3) := by decide +kernel
theorem dX2_init_51 : decode cX2_init 51 = .ok (.aload_n 0, 1) := by decide +kernel
theorem dX2_init_52 : decode cX2_init 52 = .ok (.iconst 4, 1) := by decide +kernel
theorem dX2_init_53 : decode cX2_init 53 = .ok (.newarray .long, 2) := by decide +kernel
theorem dX2_init_55 : decode cX2_init 55 = .ok (.putfield 30, 3) := by decide +kernel
theorem dX2_init_58 : decode cX2_init 58 = .ok (.aload_n 0, 1) := by decide +kernel
theorem dX2_init_59 : decode cX2_init 59 = .ok (.iconst 3, 1) := by decide +kernel
theorem dX2_init_60 : decode cX2_init 60 = .ok (.newarray .long, 2) := by decide +kernel
theorem dX2_init_62 : decode cX2_init 62 = .ok (.putfield 33, 3) := by decide +kernel
theorem dX2_init_65 : decode cX2_init 65 = .ok (.return_, 1) := by decide +kernel
theorem dX2_becomes_0 : decode cX2_becomes 0 = .ok (.aload_n 0, 1) := by decide +kernel
theorem dX2_becomes_1 : decode cX2_becomes 1 = .ok (.getfield 11, 3) := by decide +kernel
theorem dX2_becomes_4 : decode cX2_becomes 4 = .ok (.iload_n 1, 1) := by decide +kernel
theorem dX2_becomes_5 : decode cX2_becomes 5 = .ok (.aaload, 1) := by decide +kernel
theorem dX2_becomes_6 : decode cX2_becomes 6 = .ok (.iload_n 2, 1) := by decide +kernel
theorem dX2_becomes_7 : decode cX2_becomes 7 = .ok (.iaload, 1) := by decide +kernel
theorem dX2_becomes_8 : decode cX2_becomes 8 = .ok (.istore 4, 2) := by decide +kernel
theorem dX2_becomes_10 : decode cX2_becomes 10 = .ok (.aload_n 0, 1) := by decide +kernel
theorem dX2_becomes_11 : decode cX2_becomes 11 = .ok (.getfield 11, 3) := by decide +kernel
theorem dX2_becomes_14 : decode cX2_becomes 14 = .ok (.iload_n 1, 1) := by decide +kernel
theorem dX2_becomes_15 : decode cX2_becomes 15 = .ok (.aaload, 1) := by decide +kernel
theorem dX2_becomes_16 : decode cX2_becomes 16 = .ok (.iload_n 2, 1) := by decide +kernel
theorem dX2_becomes_17 : decode cX2_becomes 17 = .ok (.iload_n 3, 1) := by decide +kernel
theorem dX2_becomes_18 : decode cX2_becomes 18 = .ok (.iastore, 1) := by decide +kernel
theorem dX2_becomes_19 : decode cX2_becomes 19 = .ok (.iload 4, 2) := by decide +kernel
theorem dX2_becomes_21 : decode cX2_becomes 21 = .ok (.ireturn, 1) := by decide +kernel
theorem dX2_outcome_0 : decode cX2_outcome 0 = .ok (.iload_n 1, 1) := by decide +kernel
theorem dX2_outcome_1 : decode cX2_outcome 1 = .ok (.tableswitch 97 0 3 #[31, 51, 71, 91], 31) := by decide +kernel
theorem dX2_outcome_32 : decode cX2_outcome 32 = .ok (.iload_n 2, 1) := by decide +kernel
theorem dX2_outcome_33 : decode cX2_outcome 33 = .ok (.ifCond .lt 17, 3) := by decide +kernel
theorem dX2_outcome_36 : decode cX2_outcome 36 = .ok (.iload_n 2, 1) := by decide +kernel
theorem dX2_outcome_37 : decode cX2_outcome 37 = .ok (.iconst 4, 1) := by decide +kernel
theorem dX2_outcome_38 : decode cX2_outcome 38 = .ok (.if_icmp .ge 12, 3) := by decide +kernel
theorem dX2_outcome_41 : decode cX2_outcome 41 = .ok (.aload_n 0, 1) := by decide +kernel
theorem dX2_outcome_42 : decode cX2_outcome 42 = .ok (.getfield 26, 3) := by decide +kernel
theorem dX2_outcome_45 : decode cX2_outcome 45 = .ok (.iload_n 2, 1) := by decide +kernel
theorem dX2_outcome_46 : decode cX2_outcome 46 = .ok (.laload, 1) := by decide +kernel
theorem dX2_outcome_47 : decode cX2_outcome 47 = .ok (.goto 4, 3) := by decide +kernel
theorem dX2_outcome_50 : decode cX2_outcome 50 = .ok (.lconst 0, 1) := by decide +kernel
theorem dX2_outcome_51 : decode cX2_outcome 51 = .ok (.lreturn, 1) := by decide +kernel
theorem dX2_outcome_52 : decode cX2_outcome 52 = .ok (.iload_n 2, 1) := by decide +kernel
theorem dX2_outcome_53 : decode cX2_outcome 53 = .ok (.ifCond .lt 17, 3) := by decide +kernel
theorem dX2_outcome_56 : decode cX2_outcome 56 = .ok (.iload_n 2, 1) := by decide +kernel
theorem dX2_outcome_57 : decode cX2_outcome 57 = .ok (.iconst 4, 1) := by decide +kernel
theorem dX2_outcome_58 : decode cX2_outcome 58 = .ok (.if_icmp .ge 12, 3) := by decide +kernel
theorem dX2_outcome_61 : decode cX2_outcome 61 = .ok (.aload_n 0, 1) := by decide +kernel
theorem dX2_outcome_62 : decode cX2_outcome 62 = .ok (.getfield 30, 3) := by decide +kernel
theorem dX2_outcome_65 : decode cX2_outcome 65 = .ok (.iload_n 2, 1) := by decide +kernel
theorem dX2_outcome_66 : decode cX2_outcome 66 = .ok (.laload, 1) := by decide +kernel
theorem dX2_outcome_67 : decode cX2_outcome 67 = .ok (.goto 4, 3) := by decide +kernel
theorem dX2_outcome_70 : decode cX2_outcome 70 = .ok (.lconst 0, 1) := by decide +kernel
theorem dX2_outcome_71 : decode cX2_outcome 71 = .ok (.lreturn, 1) := by decide +kernel
theorem dX2_outcome_72 : decode cX2_outcome 72 = .ok (.iload_n 2, 1) := by decide +kernel
theorem dX2_outcome_73 : decode cX2_outcome 73 = .ok (.ifCond .lt 17, 3) := by decide +kernel
theorem dX2_outcome_76 : decode cX2_outcome 76 = .ok (.iload_n 2, 1) := by decide +kernel
theorem dX2_outcome_77 : decode cX2_outcome 77 = .ok (.iconst 3, 1) := by decide +kernel
theorem dX2_outcome_78 : decode cX2_outcome 78 = .ok (.if_icmp .ge 12, 3) := by decide +kernel
theorem dX2_outcome_81 : decode cX2_outcome 81 = .ok (.aload_n 0, 1) := by decide +kernel
theorem dX2_outcome_82 : decode cX2_outcome 82 = .ok (.getfield 33, 3) := by decide +kernel
theorem dX2_outcome_85 : decode cX2_outcome 85 = .ok (.iload_n 2, 1) := by decide +kernel
theorem dX2_outcome_86 : decode cX2_outcome 86 = .ok (.laload, 1) := by decide +kernel
theorem dX2_outcome_87 : decode cX2_outcome 87 = .ok (.goto 4, 3) := by decide +kernel
theorem dX2_outcome_90 : decode cX2_outcome 90 = .ok (.lconst 0, 1) := by decide +kernel
theorem dX2_outcome_91 : decode cX2_outcome 91 = .ok (.lreturn, 1) := by decide +kernel
theorem dX2_outcome_92 : decode cX2_outcome 92 = .ok (.aload_n 0, 1) := by decide +kernel
theorem dX2_outcome_93 : decode cX2_outcome 93 = .ok (.getfield 36, 3) := by decide +kernel
theorem dX2_outcome_96 : decode cX2_outcome 96 = .ok (.i2l, 1) := by decide +kernel
theorem dX2_outcome_97 : decode cX2_outcome 97 = .ok (.lreturn, 1) := by decide +kernel
theorem dX2_outcome_98 : decode cX2_outcome 98 = .ok (.lconst 0, 1) := by decide +kernel
theorem dX2_outcome_99 : decode cX2_outcome 99 = .ok (.lreturn, 1) := by decide +kernel
theorem dX2_solved_0 : decode cX2_solved 0 = .ok (.aload_n 0, 1) := by decide +kernel
theorem dX2_solved_1 : decode cX2_solved 1 = .ok (.invokevirtual 40, 3) := by decide +kernel
theorem dX2_solved_4 : decode cX2_solved 4 = .ok (.aload_n 0, 1) := by decide +kernel
theorem dX2_solved_5 : decode cX2_solved 5 = .ok (.invokevirtual 43, 3) := by decide +kernel
theorem dX2_solved_8 : decode cX2_solved 8 = .ok (.iconst 0, 1) := by decide +kernel
theorem dX2_solved_9 : decode cX2_solved 9 = .ok (.istore_n 1, 1) := by decide +kernel
theorem dX2_solved_10 : decode cX2_solved 10 = .ok (.iload_n 1, 1) := by decide +kernel
theorem dX2_solved_11 : decode cX2_solved 11 = .ok (.iconst 4, 1) := by decide +kernel
theorem dX2_solved_12 : decode cX2_solved 12 = .ok (.if_icmp .ge 14, 3) := by decide +kernel
theorem dX2_solved_15 : decode cX2_solved 15 = .ok (.aload_n 0, 1) := by decide +kernel
theorem dX2_solved_16 : decode cX2_solved 16 = .ok (.iload_n 1, 1) := by decide +kernel
theorem dX2_solved_17 : decode cX2_solved 17 = .ok (.invokevirtual 46, 3) := by decide +kernel
theorem dX2_solved_20 : decode cX2_solved 20 = .ok (.iinc 1 1, 3) := by decide +kernel
theorem dX2_solved_23 : decode cX2_solved 23 = .ok (.goto (-13), 3) := by decide +kernel
theorem dX2_solved_26 : decode cX2_solved 26 = .ok (.aload_n 0, 1) := by decide +kernel
theorem dX2_solved_27 : decode cX2_solved 27 = .ok (.getfield 36, 3) := by decide +kernel
theorem dX2_solved_30 : decode cX2_solved 30 = .ok (.istore_n 1, 1) := by decide +kernel
theorem dX2_solved_31 : decode cX2_solved 31 = .ok (.iload_n 1, 1) := by decide +kernel
theorem dX2_solved_32 : decode cX2_solved 32 = .ok (.iconst 3, 1) := by decide +kernel
theorem dX2_solved_33 : decode cX2_solved 33 = .ok (.if_icmp .ge 29, 3) := by decide +kernel
theorem dX2_solved_36 : decode cX2_solved 36 = .ok (.aload_n 0, 1) := by decide +kernel
theorem dX2_solved_37 : decode cX2_solved 37 = .ok (.getfield 16, 3) := by decide +kernel
theorem dX2_solved_40 : decode cX2_solved 40 = .ok (.iload_n 1, 1) := by decide +kernel
theorem dX2_solved_41 : decode cX2_solved 41 = .ok (.aaload, 1) := by decide +kernel
theorem dX2_solved_42 : decode cX2_solved 42 = .ok (.iconst 4, 1) := by decide +kernel
theorem dX2_solved_43 : decode cX2_solved 43 = .ok (.laload, 1) := by decide +kernel
theorem dX2_solved_44 : decode cX2_solved 44 = .ok (.lconst 0, 1) := by decide +kernel
theorem dX2_solved_45 : decode cX2_solved 45 = .ok (.lcmp, 1) := by decide +kernel
theorem dX2_solved_46 : decode cX2_solved 46 = .ok (.ifCond .eq 10, 3) := by decide +kernel
theorem dX2_solved_49 : decode cX2_solved 49 = .ok (.aload_n 0, 1) := by decide +kernel
theorem dX2_solved_50 : decode cX2_solved 50 = .ok (.iload_n 1, 1) := by decide +kernel
theorem dX2_solved_51 : decode cX2_solved 51 = .ok (.invokevirtual 50, 3) := by decide +kernel
theorem dX2_solved_54 : decode cX2_solved 54 = .ok (.iconst 0, 1) := by decide +kernel
theorem dX2_solved_55 : decode cX2_solved 55 = .ok (.ireturn, 1) := by decide +kernel
theorem dX2_solved_56 : decode cX2_solved 56 = .ok (.iinc 1 1, 3) := by decide +kernel
theorem dX2_solved_59 : decode cX2_solved 59 = .ok (.goto (-28), 3) := by decide +kernel
theorem dX2_solved_62 : decode cX2_solved 62 = .ok (.aload_n 0, 1) := by decide +kernel
theorem dX2_solved_63 : decode cX2_solved 63 = .ok (.invokevirtual 53, 3) := by decide +kernel
theorem dX2_solved_66 : decode cX2_solved 66 = .ok (.ifCond .eq 7, 3) := by decide +kernel
theorem dX2_solved_69 : decode cX2_solved 69 = .ok (.iconst 1, 1) := by decide +kernel
theorem dX2_solved_70 : decode cX2_solved 70 = .ok (.goto 4, 3) := by decide +kernel
theorem dX2_solved_73 : decode cX2_solved 73 = .ok (.iconst 2, 1) := by decide +kernel
theorem dX2_solved_74 : decode cX2_solved 74 = .ok (.ireturn, 1) := by decide +kernel
theorem dX2_clearOutcome_0 : decode cX2_clearOutcome 0 = .ok (.aload_n 0, 1) := by decide +kernel
theorem dX2_clearOutcome_1 : decode cX2_clearOutcome 1 = .ok (.iconst 0, 1) := by decide +kernel
theorem dX2_clearOutcome_2 : decode cX2_clearOutcome 2 = .ok (.putfield 36, 3) := by decide +kernel
theorem dX2_clearOutcome_5 : decode cX2_clearOutcome 5 = .ok (.iconst 0, 1) := by decide +kernel
theorem dX2_clearOutcome_6 : decode cX2_clearOutcome 6 = .ok (.istore_n 1, 1) := by decide +kernel
theorem dX2_clearOutcome_7 : decode cX2_clearOutcome 7 = .ok (.iload_n 1, 1) := by decide +kernel
theorem dX2_clearOutcome_8 : decode cX2_clearOutcome 8 = .ok (.iconst 4, 1) := by decide +kernel
theorem dX2_clearOutcome_9 : decode cX2_clearOutcome 9 = .ok (.if_icmp .ge 23, 3) := by decide +kernel
theorem dX2_clearOutcome_12 : decode cX2_clearOutcome 12 = .ok (.aload_n 0, 1) := by decide +kernel
theorem dX2_clearOutcome_13 : decode cX2_clearOutcome 13 = .ok (.getfield 26, 3) := by decide +kernel
theorem dX2_clearOutcome_16 : decode cX2_clearOutcome 16 = .ok (.iload_n 1, 1) := by decide +kernel
theorem dX2_clearOutcome_17 : decode cX2_clearOutcome 17 = .ok (.lconst 0, 1) := by decide +kernel
theorem dX2_clearOutcome_18 : decode cX2_clearOutcome 18 = .ok (.lastore, 1) := by decide +kernel
theorem dX2_clearOutcome_19 : decode cX2_clearOutcome 19 = .ok (.aload_n 0, 1) := by decide +kernel
theorem dX2_clearOutcome_20 : decode cX2_clearOutcome 20 = .ok (.getfield 30, 3) := by decide +kernel
theorem dX2_clearOutcome_23 : decode cX2_clearOutcome 23 = .ok (.iload_n 1, 1) := by decide +kernel
theorem dX2_clearOutcome_24 : decode cX2_clearOutcome 24 = .ok (.lconst 0, 1) := by decide +kernel
theorem dX2_clearOutcome_25 : decode cX2_clearOutcome 25 = .ok (.lastore, 1) := by decide +kernel
theorem dX2_clearOutcome_26 : decode cX2_clearOutcome 26 = .ok (.iinc 1 1, 3) := by decide +kernel
theorem dX2_clearOutcome_29 : decode cX2_clearOutcome 29 = .ok (.goto (-22), 3) := by decide +kernel
theorem dX2_clearOutcome_32 : decode cX2_clearOutcome 32 = .ok (.iconst 0, 1) := by decide +kernel
theorem dX2_clearOutcome_33 : decode cX2_clearOutcome 33 = .ok (.istore_n 1, 1) := by decide +kernel
theorem dX2_clearOutcome_34 : decode cX2_clearOutcome 34 = .ok (.iload_n 1, 1) := by decide +kernel
theorem dX2_clearOutcome_35 : decode cX2_clearOutcome 35 = .ok (.iconst 3, 1) := by decide +kernel
theorem dX2_clearOutcome_36 : decode cX2_clearOutcome 36 = .ok (.if_icmp .ge 16, 3) := by decide +kernel
theorem dX2_clearOutcome_39 : decode cX2_clearOutcome 39 = .ok (.aload_n 0, 1) := by decide +kernel
theorem dX2_clearOutcome_40 : decode cX2_clearOutcome 40 = .ok (.getfield 33, 3) := by decide +kernel
theorem dX2_clearOutcome_43 : decode cX2_clearOutcome 43 = .ok (.iload_n 1, 1) := by decide +kernel
theorem dX2_clearOutcome_44 : decode cX2_clearOutcome 44 = .ok (.lconst 0, 1) := by decide +kernel
theorem dX2_clearOutcome_45 : decode cX2_clearOutcome 45 = .ok (.lastore, 1) := by decide +kernel
theorem dX2_clearOutcome_46 : decode cX2_clearOutcome 46 = .ok (.iinc 1 1, 3) := by decide +kernel
theorem dX2_clearOutcome_49 : decode cX2_clearOutcome 49 = .ok (.goto (-15), 3) := by decide +kernel
theorem dX2_clearOutcome_52 : decode cX2_clearOutcome 52 = .ok (.return_, 1) := by decide +kernel
theorem dX2_fillRows_0 : decode cX2_fillRows 0 = .ok (.iconst 0, 1) := by decide +kernel
theorem dX2_fillRows_1 : decode cX2_fillRows 1 = .ok (.istore_n 1, 1) := by decide +kernel
theorem dX2_fillRows_2 : decode cX2_fillRows 2 = .ok (.iload_n 1, 1) := by decide +kernel
theorem dX2_fillRows_3 : decode cX2_fillRows 3 = .ok (.iconst 3, 1) := by decide +kernel
theorem dX2_fillRows_4 : decode cX2_fillRows 4 = .ok (.if_icmp .ge 95, 3) := by decide +kernel
theorem dX2_fillRows_7 : decode cX2_fillRows 7 = .ok (.iconst 0, 1) := by decide +kernel
theorem dX2_fillRows_8 : decode cX2_fillRows 8 = .ok (.istore_n 2, 1) := by decide +kernel
theorem dX2_fillRows_9 : decode cX2_fillRows 9 = .ok (.iload_n 2, 1) := by decide +kernel
theorem dX2_fillRows_10 : decode cX2_fillRows 10 = .ok (.bipush 8, 2) := by decide +kernel
theorem dX2_fillRows_12 : decode cX2_fillRows 12 = .ok (.if_icmp .ge 55, 3) := by decide +kernel
theorem dX2_fillRows_15 : decode cX2_fillRows 15 = .ok (.aload_n 0, 1) := by decide +kernel
theorem dX2_fillRows_16 : decode cX2_fillRows 16 = .ok (.getfield 16, 3) := by decide +kernel
theorem dX2_fillRows_19 : decode cX2_fillRows 19 = .ok (.iload_n 1, 1) := by decide +kernel
theorem dX2_fillRows_20 : decode cX2_fillRows 20 = .ok (.aaload, 1) := by decide +kernel
theorem dX2_fillRows_21 : decode cX2_fillRows 21 = .ok (.iload_n 2, 1) := by decide +kernel
theorem dX2_fillRows_22 : decode cX2_fillRows 22 = .ok (.iload_n 2, 1) := by decide +kernel
theorem dX2_fillRows_23 : decode cX2_fillRows 23 = .ok (.iconst 4, 1) := by decide +kernel
theorem dX2_fillRows_24 : decode cX2_fillRows 24 = .ok (.if_icmp .ge 15, 3) := by decide +kernel
theorem dX2_fillRows_27 : decode cX2_fillRows 27 = .ok (.aload_n 0, 1) := by decide +kernel
theorem dX2_fillRows_28 : decode cX2_fillRows 28 = .ok (.getfield 11, 3) := by decide +kernel
theorem dX2_fillRows_31 : decode cX2_fillRows 31 = .ok (.iload_n 2, 1) := by decide +kernel
theorem dX2_fillRows_32 : decode cX2_fillRows 32 = .ok (.aaload, 1) := by decide +kernel
theorem dX2_fillRows_33 : decode cX2_fillRows 33 = .ok (.iload_n 1, 1) := by decide +kernel
theorem dX2_fillRows_34 : decode cX2_fillRows 34 = .ok (.iaload, 1) := by decide +kernel
theorem dX2_fillRows_35 : decode cX2_fillRows 35 = .ok (.i2l, 1) := by decide +kernel
theorem dX2_fillRows_36 : decode cX2_fillRows 36 = .ok (.goto 15, 3) := by decide +kernel
theorem dX2_fillRows_39 : decode cX2_fillRows 39 = .ok (.iload_n 2, 1) := by decide +kernel
theorem dX2_fillRows_40 : decode cX2_fillRows 40 = .ok (.iconst 5, 1) := by decide +kernel
theorem dX2_fillRows_41 : decode cX2_fillRows 41 = .ok (.iload_n 1, 1) := by decide +kernel
theorem dX2_fillRows_42 : decode cX2_fillRows 42 = .ok (.iadd, 1) := by decide +kernel
theorem dX2_fillRows_43 : decode cX2_fillRows 43 = .ok (.if_icmp .ne 7, 3) := by decide +kernel
theorem dX2_fillRows_46 : decode cX2_fillRows 46 = .ok (.lconst 1, 1) := by decide +kernel
theorem dX2_fillRows_47 : decode cX2_fillRows 47 = .ok (.goto 4, 3) := by decide +kernel
theorem dX2_fillRows_50 : decode cX2_fillRows 50 = .ok (.lconst 0, 1) := by decide +kernel
theorem dX2_fillRows_51 : decode cX2_fillRows 51 = .ok (.lastore, 1) := by decide +kernel
theorem dX2_fillRows_52 : decode cX2_fillRows 52 = .ok (.aload_n 0, 1) := by decide +kernel
theorem dX2_fillRows_53 : decode cX2_fillRows 53 = .ok (.getfield 19, 3) := by decide +kernel
theorem dX2_fillRows_56 : decode cX2_fillRows 56 = .ok (.iload_n 1, 1) := by decide +kernel
theorem dX2_fillRows_57 : decode cX2_fillRows 57 = .ok (.aaload, 1) := by decide +kernel
theorem dX2_fillRows_58 : decode cX2_fillRows 58 = .ok (.iload_n 2, 1) := by decide +kernel
theorem dX2_fillRows_59 : decode cX2_fillRows 59 = .ok (.lconst 1, 1) := by decide +kernel
theorem dX2_fillRows_60 : decode cX2_fillRows 60 = .ok (.lastore, 1) := by decide +kernel
theorem dX2_fillRows_61 : decode cX2_fillRows 61 = .ok (.iinc 2 1, 3) := by decide +kernel
theorem dX2_fillRows_64 : decode cX2_fillRows 64 = .ok (.goto (-55), 3) := by decide +kernel
theorem dX2_fillRows_67 : decode cX2_fillRows 67 = .ok (.aload_n 0, 1) := by decide +kernel
theorem dX2_fillRows_68 : decode cX2_fillRows 68 = .ok (.getfield 16, 3) := by decide +kernel
theorem dX2_fillRows_71 : decode cX2_fillRows 71 = .ok (.iload_n 1, 1) := by decide +kernel
theorem dX2_fillRows_72 : decode cX2_fillRows 72 = .ok (.aaload, 1) := by decide +kernel
theorem dX2_fillRows_73 : decode cX2_fillRows 73 = .ok (.iconst 4, 1) := by decide +kernel
theorem dX2_fillRows_74 : decode cX2_fillRows 74 = .ok (.aload_n 0, 1) := by decide +kernel
theorem dX2_fillRows_75 : decode cX2_fillRows 75 = .ok (.getfield 11, 3) := by decide +kernel
theorem dX2_fillRows_78 : decode cX2_fillRows 78 = .ok (.iconst 4, 1) := by decide +kernel
theorem dX2_fillRows_79 : decode cX2_fillRows 79 = .ok (.aaload, 1) := by decide +kernel
theorem dX2_fillRows_80 : decode cX2_fillRows 80 = .ok (.iload_n 1, 1) := by decide +kernel
theorem dX2_fillRows_81 : decode cX2_fillRows 81 = .ok (.iaload, 1) := by decide +kernel
theorem dX2_fillRows_82 : decode cX2_fillRows 82 = .ok (.aload_n 0, 1) := by decide +kernel
theorem dX2_fillRows_83 : decode cX2_fillRows 83 = .ok (.getfield 11, 3) := by decide +kernel
theorem dX2_fillRows_86 : decode cX2_fillRows 86 = .ok (.iconst 5, 1) := by decide +kernel
theorem dX2_fillRows_87 : decode cX2_fillRows 87 = .ok (.aaload, 1) := by decide +kernel
theorem dX2_fillRows_88 : decode cX2_fillRows 88 = .ok (.iload_n 1, 1) := by decide +kernel
theorem dX2_fillRows_89 : decode cX2_fillRows 89 = .ok (.iaload, 1) := by decide +kernel
theorem dX2_fillRows_90 : decode cX2_fillRows 90 = .ok (.isub, 1) := by decide +kernel
theorem dX2_fillRows_91 : decode cX2_fillRows 91 = .ok (.i2l, 1) := by decide +kernel
theorem dX2_fillRows_92 : decode cX2_fillRows 92 = .ok (.lastore, 1) := by decide +kernel
theorem dX2_fillRows_93 : decode cX2_fillRows 93 = .ok (.iinc 1 1, 3) := by decide +kernel
theorem dX2_fillRows_96 : decode cX2_fillRows 96 = .ok (.goto (-94), 3) := by decide +kernel
theorem dX2_fillRows_99 : decode cX2_fillRows 99 = .ok (.return_, 1) := by decide +kernel
theorem dX2_workColumn_0 : decode cX2_workColumn 0 = .ok (.aload_n 0, 1) := by decide +kernel
theorem dX2_workColumn_1 : decode cX2_workColumn 1 = .ok (.getfield 36, 3) := by decide +kernel
theorem dX2_workColumn_4 : decode cX2_workColumn 4 = .ok (.istore_n 2, 1) := by decide +kernel
theorem dX2_workColumn_5 : decode cX2_workColumn 5 = .ok (.iload_n 2, 1) := by decide +kernel
theorem dX2_workColumn_6 : decode cX2_workColumn 6 = .ok (.iconst 3, 1) := by decide +kernel
theorem dX2_workColumn_7 : decode cX2_workColumn 7 = .ok (.if_icmp .ge 22, 3) := by decide +kernel
theorem dX2_workColumn_10 : decode cX2_workColumn 10 = .ok (.aload_n 0, 1) := by decide +kernel
theorem dX2_workColumn_11 : decode cX2_workColumn 11 = .ok (.getfield 16, 3) := by decide +kernel
theorem dX2_workColumn_14 : decode cX2_workColumn 14 = .ok (.iload_n 2, 1) := by decide +kernel
theorem dX2_workColumn_15 : decode cX2_workColumn 15 = .ok (.aaload, 1) := by decide +kernel
theorem dX2_workColumn_16 : decode cX2_workColumn 16 = .ok (.iload_n 1, 1) := by decide +kernel
theorem dX2_workColumn_17 : decode cX2_workColumn 17 = .ok (.laload, 1) := by decide +kernel
theorem dX2_workColumn_18 : decode cX2_workColumn 18 = .ok (.lconst 0, 1) := by decide +kernel
theorem dX2_workColumn_19 : decode cX2_workColumn 19 = .ok (.lcmp, 1) := by decide +kernel
theorem dX2_workColumn_20 : decode cX2_workColumn 20 = .ok (.ifCond .ne 9, 3) := by decide +kernel
theorem dX2_workColumn_23 : decode cX2_workColumn 23 = .ok (.iinc 2 1, 3) := by decide +kernel
theorem dX2_workColumn_26 : decode cX2_workColumn 26 = .ok (.goto (-21), 3) := by decide +kernel
theorem dX2_workColumn_29 : decode cX2_workColumn 29 = .ok (.iload_n 2, 1) := by decide +kernel
theorem dX2_workColumn_30 : decode cX2_workColumn 30 = .ok (.iconst 3, 1) := by decide +kernel
theorem dX2_workColumn_31 : decode cX2_workColumn 31 = .ok (.if_icmp .lt 4, 3) := by decide +kernel
theorem dX2_workColumn_34 : decode cX2_workColumn 34 = .ok (.return_, 1) := by decide +kernel
theorem dX2_workColumn_35 : decode cX2_workColumn 35 = .ok (.aload_n 0, 1) := by decide +kernel
theorem dX2_workColumn_36 : decode cX2_workColumn 36 = .ok (.iload_n 2, 1) := by decide +kernel
theorem dX2_workColumn_37 : decode cX2_workColumn 37 = .ok (.aload_n 0, 1) := by decide +kernel
theorem dX2_workColumn_38 : decode cX2_workColumn 38 = .ok (.getfield 36, 3) := by decide +kernel
theorem dX2_workColumn_41 : decode cX2_workColumn 41 = .ok (.invokevirtual 57, 3) := by decide +kernel
theorem dX2_workColumn_44 : decode cX2_workColumn 44 = .ok (.aload_n 0, 1) := by decide +kernel
theorem dX2_workColumn_45 : decode cX2_workColumn 45 = .ok (.aload_n 0, 1) := by decide +kernel
theorem dX2_workColumn_46 : decode cX2_workColumn 46 = .ok (.getfield 36, 3) := by decide +kernel
theorem dX2_workColumn_49 : decode cX2_workColumn 49 = .ok (.aload_n 0, 1) := by decide +kernel
theorem dX2_workColumn_50 : decode cX2_workColumn 50 = .ok (.getfield 16, 3) := by decide +kernel
theorem dX2_workColumn_53 : decode cX2_workColumn 53 = .ok (.aload_n 0, 1) := by decide +kernel
theorem dX2_workColumn_54 : decode cX2_workColumn 54 = .ok (.getfield 36, 3) := by decide +kernel
theorem dX2_workColumn_57 : decode cX2_workColumn 57 = .ok (.aaload, 1) := by decide +kernel
theorem dX2_workColumn_58 : decode cX2_workColumn 58 = .ok (.iload_n 1, 1) := by decide +kernel
theorem dX2_workColumn_59 : decode cX2_workColumn 59 = .ok (.laload, 1) := by decide +kernel
theorem dX2_workColumn_60 : decode cX2_workColumn 60 = .ok (.aload_n 0, 1) := by decide +kernel
theorem dX2_workColumn_61 : decode cX2_workColumn 61 = .ok (.getfield 19, 3) := by decide +kernel
theorem dX2_workColumn_64 : decode cX2_workColumn 64 = .ok (.aload_n 0, 1) := by decide +kernel
theorem dX2_workColumn_65 : decode cX2_workColumn 65 = .ok (.getfield 36, 3) := by decide +kernel
theorem dX2_workColumn_68 : decode cX2_workColumn 68 = .ok (.aaload, 1) := by decide +kernel
theorem dX2_workColumn_69 : decode cX2_workColumn 69 = .ok (.iload_n 1, 1) := by decide +kernel
theorem dX2_workColumn_70 : decode cX2_workColumn 70 = .ok (.laload, 1) := by decide +kernel
theorem dX2_workColumn_71 : decode cX2_workColumn 71 = .ok (.invokevirtual 61, 3) := by decide +kernel
theorem dX2_workColumn_74 : decode cX2_workColumn 74 = .ok (.iconst 0, 1) := by decide +kernel
theorem dX2_workColumn_75 : decode cX2_workColumn 75 = .ok (.istore_n 3, 1) := by decide +kernel
theorem dX2_workColumn_76 : decode cX2_workColumn 76 = .ok (.iload_n 3, 1) := by decide +kernel
theorem dX2_workColumn_77 : decode cX2_workColumn 77 = .ok (.iconst 3, 1) := by decide +kernel
theorem dX2_workColumn_78 : decode cX2_workColumn 78 = .ok (.if_icmp .ge 42, 3) := by decide +kernel
theorem dX2_workColumn_81 : decode cX2_workColumn 81 = .ok (.iload_n 3, 1) := by decide +kernel
theorem dX2_workColumn_82 : decode cX2_workColumn 82 = .ok (.aload_n 0, 1) := by decide +kernel
theorem dX2_workColumn_83 : decode cX2_workColumn 83 = .ok (.getfield 36, 3) := by decide +kernel
theorem dX2_workColumn_86 : decode cX2_workColumn 86 = .ok (.if_icmp .eq 28, 3) := by decide +kernel
theorem dX2_workColumn_89 : decode cX2_workColumn 89 = .ok (.aload_n 0, 1) := by decide +kernel
theorem dX2_workColumn_90 : decode cX2_workColumn 90 = .ok (.iload_n 3, 1) := by decide +kernel
theorem dX2_workColumn_91 : decode cX2_workColumn 91 = .ok (.aload_n 0, 1) := by decide +kernel
theorem dX2_workColumn_92 : decode cX2_workColumn 92 = .ok (.getfield 36, 3) := by decide +kernel
theorem dX2_workColumn_95 : decode cX2_workColumn 95 = .ok (.aload_n 0, 1) := by decide +kernel
theorem dX2_workColumn_96 : decode cX2_workColumn 96 = .ok (.getfield 16, 3) := by decide +kernel
theorem dX2_workColumn_99 : decode cX2_workColumn 99 = .ok (.iload_n 3, 1) := by decide +kernel
theorem dX2_workColumn_100 : decode cX2_workColumn 100 = .ok (.aaload, 1) := by decide +kernel
theorem dX2_workColumn_101 : decode cX2_workColumn 101 = .ok (.iload_n 1, 1) := by decide +kernel
theorem dX2_workColumn_102 : decode cX2_workColumn 102 = .ok (.laload, 1) := by decide +kernel
theorem dX2_workColumn_103 : decode cX2_workColumn 103 = .ok (.aload_n 0, 1) := by decide +kernel
theorem dX2_workColumn_104 : decode cX2_workColumn 104 = .ok (.getfield 19, 3) := by decide +kernel
theorem dX2_workColumn_107 : decode cX2_workColumn 107 = .ok (.iload_n 3, 1) := by decide +kernel
theorem dX2_workColumn_108 : decode cX2_workColumn 108 = .ok (.aaload, 1) := by decide +kernel
theorem dX2_workColumn_109 : decode cX2_workColumn 109 = .ok (.iload_n 1, 1) := by decide +kernel
theorem dX2_workColumn_110 : decode cX2_workColumn 110 = .ok (.laload, 1) := by decide +kernel
theorem dX2_workColumn_111 : decode cX2_workColumn 111 = .ok (.invokevirtual 65, 3) := by decide +kernel
theorem dX2_workColumn_114 : decode cX2_workColumn 114 = .ok (.iinc 3 1, 3) := by decide +kernel
theorem dX2_workColumn_117 : decode cX2_workColumn 117 = .ok (.goto (-41), 3) := by decide +kernel
theorem dX2_workColumn_120 : decode cX2_workColumn 120 = .ok (.aload_n 0, 1) := by decide +kernel
theorem dX2_workColumn_121 : decode cX2_workColumn 121 = .ok (.getfield 22, 3) := by decide +kernel
theorem dX2_workColumn_124 : decode cX2_workColumn 124 = .ok (.aload_n 0, 1) := by decide +kernel
theorem dX2_workColumn_125 : decode cX2_workColumn 125 = .ok (.getfield 36, 3) := by decide +kernel
theorem dX2_workColumn_128 : decode cX2_workColumn 128 = .ok (.iload_n 1, 1) := by decide +kernel
theorem dX2_workColumn_129 : decode cX2_workColumn 129 = .ok (.iastore, 1) := by decide +kernel
theorem dX2_workColumn_130 : decode cX2_workColumn 130 = .ok (.aload_n 0, 1) := by decide +kernel
theorem dX2_workColumn_131 : decode cX2_workColumn 131 = .ok (.dup, 1) := by decide +kernel
theorem dX2_workColumn_132 : decode cX2_workColumn 132 = .ok (.getfield 36, 3) := by decide +kernel
theorem dX2_workColumn_135 : decode cX2_workColumn 135 = .ok (.iconst 1, 1) := by decide +kernel
theorem dX2_workColumn_136 : decode cX2_workColumn 136 = .ok (.iadd, 1) := by decide +kernel
theorem dX2_workColumn_137 : decode cX2_workColumn 137 = .ok (.putfield 36, 3) := by decide +kernel
theorem dX2_workColumn_140 : decode cX2_workColumn 140 = .ok (.return_, 1) := by decide +kernel
theorem dX2_changePlaces_0 : decode cX2_changePlaces 0 = .ok (.iconst 0, 1) := by decide +kernel
theorem dX2_changePlaces_1 : decode cX2_changePlaces 1 = .ok (.istore_n 3, 1) := by decide +kernel
theorem dX2_changePlaces_2 : decode cX2_changePlaces 2 = .ok (.iload_n 3, 1) := by decide +kernel
theorem dX2_changePlaces_3 : decode cX2_changePlaces 3 = .ok (.bipush 8, 2) := by decide +kernel
theorem dX2_changePlaces_5 : decode cX2_changePlaces 5 = .ok (.if_icmp .ge 81, 3) := by decide +kernel
theorem dX2_changePlaces_8 : decode cX2_changePlaces 8 = .ok (.aload_n 0, 1) := by decide +kernel
theorem dX2_changePlaces_9 : decode cX2_changePlaces 9 = .ok (.getfield 16, 3) := by decide +kernel
theorem dX2_changePlaces_12 : decode cX2_changePlaces 12 = .ok (.iload_n 1, 1) := by decide +kernel
theorem dX2_changePlaces_13 : decode cX2_changePlaces 13 = .ok (.aaload, 1) := by decide +kernel
theorem dX2_changePlaces_14 : decode cX2_changePlaces 14 = .ok (.iload_n 3, 1) := by decide +kernel
theorem dX2_changePlaces_15 : decode cX2_changePlaces 15 = .ok (.laload, 1) := by decide +kernel
theorem dX2_changePlaces_16 : decode cX2_changePlaces 16 = .ok (.lstore 4, 2) := by decide +kernel
theorem dX2_changePlaces_18 : decode cX2_changePlaces 18 = .ok (.aload_n 0, 1) := by decide +kernel
theorem dX2_changePlaces_19 : decode cX2_changePlaces 19 = .ok (.getfield 16, 3) := by decide +kernel
theorem dX2_changePlaces_22 : decode cX2_changePlaces 22 = .ok (.iload_n 1, 1) := by decide +kernel
theorem dX2_changePlaces_23 : decode cX2_changePlaces 23 = .ok (.aaload, 1) := by decide +kernel
theorem dX2_changePlaces_24 : decode cX2_changePlaces 24 = .ok (.iload_n 3, 1) := by decide +kernel
theorem dX2_changePlaces_25 : decode cX2_changePlaces 25 = .ok (.aload_n 0, 1) := by decide +kernel
theorem dX2_changePlaces_26 : decode cX2_changePlaces 26 = .ok (.getfield 16, 3) := by decide +kernel
theorem dX2_changePlaces_29 : decode cX2_changePlaces 29 = .ok (.iload_n 2, 1) := by decide +kernel
theorem dX2_changePlaces_30 : decode cX2_changePlaces 30 = .ok (.aaload, 1) := by decide +kernel
theorem dX2_changePlaces_31 : decode cX2_changePlaces 31 = .ok (.iload_n 3, 1) := by decide +kernel
theorem dX2_changePlaces_32 : decode cX2_changePlaces 32 = .ok (.laload, 1) := by decide +kernel
theorem dX2_changePlaces_33 : decode cX2_changePlaces 33 = .ok (.lastore, 1) := by decide +kernel
theorem dX2_changePlaces_34 : decode cX2_changePlaces 34 = .ok (.aload_n 0, 1) := by decide +kernel
theorem dX2_changePlaces_35 : decode cX2_changePlaces 35 = .ok (.getfield 16, 3) := by decide +kernel
theorem dX2_changePlaces_38 : decode cX2_changePlaces 38 = .ok (.iload_n 2, 1) := by decide +kernel
theorem dX2_changePlaces_39 : decode cX2_changePlaces 39 = .ok (.aaload, 1) := by decide +kernel
theorem dX2_changePlaces_40 : decode cX2_changePlaces 40 = .ok (.iload_n 3, 1) := by decide +kernel
theorem dX2_changePlaces_41 : decode cX2_changePlaces 41 = .ok (.lload 4, 2) := by decide +kernel
theorem dX2_changePlaces_43 : decode cX2_changePlaces 43 = .ok (.lastore, 1) := by decide +kernel
theorem dX2_changePlaces_44 : decode cX2_changePlaces 44 = .ok (.aload_n 0, 1) := by decide +kernel
theorem dX2_changePlaces_45 : decode cX2_changePlaces 45 = .ok (.getfield 19, 3) := by decide +kernel
theorem dX2_changePlaces_48 : decode cX2_changePlaces 48 = .ok (.iload_n 1, 1) := by decide +kernel
theorem dX2_changePlaces_49 : decode cX2_changePlaces 49 = .ok (.aaload, 1) := by decide +kernel
theorem dX2_changePlaces_50 : decode cX2_changePlaces 50 = .ok (.iload_n 3, 1) := by decide +kernel
theorem dX2_changePlaces_51 : decode cX2_changePlaces 51 = .ok (.laload, 1) := by decide +kernel
theorem dX2_changePlaces_52 : decode cX2_changePlaces 52 = .ok (.lstore 4, 2) := by decide +kernel
theorem dX2_changePlaces_54 : decode cX2_changePlaces 54 = .ok (.aload_n 0, 1) := by decide +kernel
theorem dX2_changePlaces_55 : decode cX2_changePlaces 55 = .ok (.getfield 19, 3) := by decide +kernel
theorem dX2_changePlaces_58 : decode cX2_changePlaces 58 = .ok (.iload_n 1, 1) := by decide +kernel
theorem dX2_changePlaces_59 : decode cX2_changePlaces 59 = .ok (.aaload, 1) := by decide +kernel
theorem dX2_changePlaces_60 : decode cX2_changePlaces 60 = .ok (.iload_n 3, 1) := by decide +kernel
theorem dX2_changePlaces_61 : decode cX2_changePlaces 61 = .ok (.aload_n 0, 1) := by decide +kernel
theorem dX2_changePlaces_62 : decode cX2_changePlaces 62 = .ok (.getfield 19, 3) := by decide +kernel
theorem dX2_changePlaces_65 : decode cX2_changePlaces 65 = .ok (.iload_n 2, 1) := by decide +kernel
theorem dX2_changePlaces_66 : decode cX2_changePlaces 66 = .ok (.aaload, 1) := by decide +kernel
theorem dX2_changePlaces_67 : decode cX2_changePlaces 67 = .ok (.iload_n 3, 1) := by decide +kernel
theorem dX2_changePlaces_68 : decode cX2_changePlaces 68 = .ok (.laload, 1) := by decide +kernel
theorem dX2_changePlaces_69 : decode cX2_changePlaces 69 = .ok (.lastore, 1) := by decide +kernel
theorem dX2_changePlaces_70 : decode cX2_changePlaces 70 = .ok (.aload_n 0, 1) := by decide +kernel
theorem dX2_changePlaces_71 : decode cX2_changePlaces 71 = .ok (.getfield 19, 3) := by decide +kernel
theorem dX2_changePlaces_74 : decode cX2_changePlaces 74 = .ok (.iload_n 2, 1) := by decide +kernel
theorem dX2_changePlaces_75 : decode cX2_changePlaces 75 = .ok (.aaload, 1) := by decide +kernel
theorem dX2_changePlaces_76 : decode cX2_changePlaces 76 = .ok (.iload_n 3, 1) := by decide +kernel
theorem dX2_changePlaces_77 : decode cX2_changePlaces 77 = .ok (.lload 4, 2) := by decide +kernel
theorem dX2_changePlaces_79 : decode cX2_changePlaces 79 = .ok (.lastore, 1) := by decide +kernel
theorem dX2_changePlaces_80 : decode cX2_changePlaces 80 = .ok (.iinc 3 1, 3) := by decide +kernel
theorem dX2_changePlaces_83 : decode cX2_changePlaces 83 = .ok (.goto (-81), 3) := by decide +kernel
theorem dX2_changePlaces_86 : decode cX2_changePlaces 86 = .ok (.return_, 1) := by decide +kernel
theorem dX2_divideRow_0 : decode cX2_divideRow 0 = .ok (.iconst 0, 1) := by decide +kernel
theorem dX2_divideRow_1 : decode cX2_divideRow 1 = .ok (.istore 6, 2) := by decide +kernel
theorem dX2_divideRow_3 : decode cX2_divideRow 3 = .ok (.iload 6, 2) := by decide +kernel
theorem dX2_divideRow_5 : decode cX2_divideRow 5 = .ok (.bipush 8, 2) := by decide +kernel
theorem dX2_divideRow_7 : decode cX2_divideRow 7 = .ok (.if_icmp .ge 39, 3) := by decide +kernel
theorem dX2_divideRow_10 : decode cX2_divideRow 10 = .ok (.aload_n 0, 1) := by decide +kernel
theorem dX2_divideRow_11 : decode cX2_divideRow 11 = .ok (.iload_n 1, 1) := by decide +kernel
theorem dX2_divideRow_12 : decode cX2_divideRow 12 = .ok (.iload 6, 2) := by decide +kernel
theorem dX2_divideRow_14 : decode cX2_divideRow 14 = .ok (.aload_n 0, 1) := by decide +kernel
theorem dX2_divideRow_15 : decode cX2_divideRow 15 = .ok (.getfield 16, 3) := by decide +kernel
theorem dX2_divideRow_18 : decode cX2_divideRow 18 = .ok (.iload_n 1, 1) := by decide +kernel
theorem dX2_divideRow_19 : decode cX2_divideRow 19 = .ok (.aaload, 1) := by decide +kernel
theorem dX2_divideRow_20 : decode cX2_divideRow 20 = .ok (.iload 6, 2) := by decide +kernel
theorem dX2_divideRow_22 : decode cX2_divideRow 22 = .ok (.laload, 1) := by decide +kernel
theorem dX2_divideRow_23 : decode cX2_divideRow 23 = .ok (.lload 4, 2) := by decide +kernel
theorem dX2_divideRow_25 : decode cX2_divideRow 25 = .ok (.lmul, 1) := by decide +kernel
theorem dX2_divideRow_26 : decode cX2_divideRow 26 = .ok (.aload_n 0, 1) := by decide +kernel
theorem dX2_divideRow_27 : decode cX2_divideRow 27 = .ok (.getfield 19, 3) := by decide +kernel
theorem dX2_divideRow_30 : decode cX2_divideRow 30 = .ok (.iload_n 1, 1) := by decide +kernel
theorem dX2_divideRow_31 : decode cX2_divideRow 31 = .ok (.aaload, 1) := by decide +kernel
theorem dX2_divideRow_32 : decode cX2_divideRow 32 = .ok (.iload 6, 2) := by decide +kernel
theorem dX2_divideRow_34 : decode cX2_divideRow 34 = .ok (.laload, 1) := by decide +kernel
theorem dX2_divideRow_35 : decode cX2_divideRow 35 = .ok (.lload_n 2, 1) := by decide +kernel
theorem dX2_divideRow_36 : decode cX2_divideRow 36 = .ok (.lmul, 1) := by decide +kernel
theorem dX2_divideRow_37 : decode cX2_divideRow 37 = .ok (.invokevirtual 69, 3) := by decide +kernel
theorem dX2_divideRow_40 : decode cX2_divideRow 40 = .ok (.iinc 6 1, 3) := by decide +kernel
theorem dX2_divideRow_43 : decode cX2_divideRow 43 = .ok (.goto (-40), 3) := by decide +kernel
theorem dX2_divideRow_46 : decode cX2_divideRow 46 = .ok (.return_, 1) := by decide +kernel
theorem dX2_takeRow_0 : decode cX2_takeRow 0 = .ok (.iconst 0, 1) := by decide +kernel
theorem dX2_takeRow_1 : decode cX2_takeRow 1 = .ok (.istore 7, 2) := by decide +kernel
theorem dX2_takeRow_3 : decode cX2_takeRow 3 = .ok (.iload 7, 2) := by decide +kernel
theorem dX2_takeRow_5 : decode cX2_takeRow 5 = .ok (.bipush 8, 2) := by decide +kernel
theorem dX2_takeRow_7 : decode cX2_takeRow 7 = .ok (.if_icmp .ge 110, 3) := by decide +kernel
theorem dX2_takeRow_10 : decode cX2_takeRow 10 = .ok (.aload_n 0, 1) := by decide +kernel
theorem dX2_takeRow_11 : decode cX2_takeRow 11 = .ok (.getfield 16, 3) := by decide +kernel
theorem dX2_takeRow_14 : decode cX2_takeRow 14 = .ok (.iload_n 2, 1) := by decide +kernel
theorem dX2_takeRow_15 : decode cX2_takeRow 15 = .ok (.aaload, 1) := by decide +kernel
theorem dX2_takeRow_16 : decode cX2_takeRow 16 = .ok (.iload 7, 2) := by decide +kernel
theorem dX2_takeRow_18 : decode cX2_takeRow 18 = .ok (.laload, 1) := by decide +kernel
theorem dX2_takeRow_19 : decode cX2_takeRow 19 = .ok (.lload_n 3, 1) := by decide +kernel
theorem dX2_takeRow_20 : decode cX2_takeRow 20 = .ok (.lmul, 1) := by decide +kernel
theorem dX2_takeRow_21 : decode cX2_takeRow 21 = .ok (.lstore 8, 2) := by decide +kernel
theorem dX2_takeRow_23 : decode cX2_takeRow 23 = .ok (.aload_n 0, 1) := by decide +kernel
theorem dX2_takeRow_24 : decode cX2_takeRow 24 = .ok (.getfield 19, 3) := by decide +kernel
theorem dX2_takeRow_27 : decode cX2_takeRow 27 = .ok (.iload_n 2, 1) := by decide +kernel
theorem dX2_takeRow_28 : decode cX2_takeRow 28 = .ok (.aaload, 1) := by decide +kernel
theorem dX2_takeRow_29 : decode cX2_takeRow 29 = .ok (.iload 7, 2) := by decide +kernel
theorem dX2_takeRow_31 : decode cX2_takeRow 31 = .ok (.laload, 1) := by decide +kernel
theorem dX2_takeRow_32 : decode cX2_takeRow 32 = .ok (.lload 5, 2) := by decide +kernel
theorem dX2_takeRow_34 : decode cX2_takeRow 34 = .ok (.lmul, 1) := by decide +kernel
theorem dX2_takeRow_35 : decode cX2_takeRow 35 = .ok (.lstore 10, 2) := by decide +kernel
theorem dX2_takeRow_37 : decode cX2_takeRow 37 = .ok (.lload 8, 2) := by decide +kernel
theorem dX2_takeRow_39 : decode cX2_takeRow 39 = .ok (.lload 10, 2) := by decide +kernel
theorem dX2_takeRow_41 : decode cX2_takeRow 41 = .ok (.invokestatic 72, 3) := by decide +kernel
theorem dX2_takeRow_44 : decode cX2_takeRow 44 = .ok (.lstore 12, 2) := by decide +kernel
theorem dX2_takeRow_46 : decode cX2_takeRow 46 = .ok (.lload 12, 2) := by decide +kernel
theorem dX2_takeRow_48 : decode cX2_takeRow 48 = .ok (.lconst 1, 1) := by decide +kernel
theorem dX2_takeRow_49 : decode cX2_takeRow 49 = .ok (.lcmp, 1) := by decide +kernel
theorem dX2_takeRow_50 : decode cX2_takeRow 50 = .ok (.ifCond .le 17, 3) := by decide +kernel
theorem dX2_takeRow_53 : decode cX2_takeRow 53 = .ok (.lload 8, 2) := by decide +kernel
theorem dX2_takeRow_55 : decode cX2_takeRow 55 = .ok (.lload 12, 2) := by decide +kernel
theorem dX2_takeRow_57 : decode cX2_takeRow 57 = .ok (.ldiv, 1) := by decide +kernel
theorem dX2_takeRow_58 : decode cX2_takeRow 58 = .ok (.lstore 8, 2) := by decide +kernel
theorem dX2_takeRow_60 : decode cX2_takeRow 60 = .ok (.lload 10, 2) := by decide +kernel
theorem dX2_takeRow_62 : decode cX2_takeRow 62 = .ok (.lload 12, 2) := by decide +kernel
theorem dX2_takeRow_64 : decode cX2_takeRow 64 = .ok (.ldiv, 1) := by decide +kernel
theorem dX2_takeRow_65 : decode cX2_takeRow 65 = .ok (.lstore 10, 2) := by decide +kernel
theorem dX2_takeRow_67 : decode cX2_takeRow 67 = .ok (.aload_n 0, 1) := by decide +kernel
theorem dX2_takeRow_68 : decode cX2_takeRow 68 = .ok (.iload_n 1, 1) := by decide +kernel
theorem dX2_takeRow_69 : decode cX2_takeRow 69 = .ok (.iload 7, 2) := by decide +kernel
theorem dX2_takeRow_71 : decode cX2_takeRow 71 = .ok (.aload_n 0, 1) := by decide +kernel
theorem dX2_takeRow_72 : decode cX2_takeRow 72 = .ok (.getfield 16, 3) := by decide +kernel
theorem dX2_takeRow_75 : decode cX2_takeRow 75 = .ok (.iload_n 1, 1) := by decide +kernel
theorem dX2_takeRow_76 : decode cX2_takeRow 76 = .ok (.aaload, 1) := by decide +kernel
theorem dX2_takeRow_77 : decode cX2_takeRow 77 = .ok (.iload 7, 2) := by decide +kernel
theorem dX2_takeRow_79 : decode cX2_takeRow 79 = .ok (.laload, 1) := by decide +kernel
theorem dX2_takeRow_80 : decode cX2_takeRow 80 = .ok (.lload 10, 2) := by decide +kernel
theorem dX2_takeRow_82 : decode cX2_takeRow 82 = .ok (.lmul, 1) := by decide +kernel
theorem dX2_takeRow_83 : decode cX2_takeRow 83 = .ok (.lload 8, 2) := by decide +kernel
theorem dX2_takeRow_85 : decode cX2_takeRow 85 = .ok (.aload_n 0, 1) := by decide +kernel
theorem dX2_takeRow_86 : decode cX2_takeRow 86 = .ok (.getfield 19, 3) := by decide +kernel
theorem dX2_takeRow_89 : decode cX2_takeRow 89 = .ok (.iload_n 1, 1) := by decide +kernel
theorem dX2_takeRow_90 : decode cX2_takeRow 90 = .ok (.aaload, 1) := by decide +kernel
theorem dX2_takeRow_91 : decode cX2_takeRow 91 = .ok (.iload 7, 2) := by decide +kernel
theorem dX2_takeRow_93 : decode cX2_takeRow 93 = .ok (.laload, 1) := by decide +kernel
theorem dX2_takeRow_94 : decode cX2_takeRow 94 = .ok (.lmul, 1) := by decide +kernel
theorem dX2_takeRow_95 : decode cX2_takeRow 95 = .ok (.lsub, 1) := by decide +kernel
theorem dX2_takeRow_96 : decode cX2_takeRow 96 = .ok (.aload_n 0, 1) := by decide +kernel
theorem dX2_takeRow_97 : decode cX2_takeRow 97 = .ok (.getfield 19, 3) := by decide +kernel
theorem dX2_takeRow_100 : decode cX2_takeRow 100 = .ok (.iload_n 1, 1) := by decide +kernel
theorem dX2_takeRow_101 : decode cX2_takeRow 101 = .ok (.aaload, 1) := by decide +kernel
theorem dX2_takeRow_102 : decode cX2_takeRow 102 = .ok (.iload 7, 2) := by decide +kernel
theorem dX2_takeRow_104 : decode cX2_takeRow 104 = .ok (.laload, 1) := by decide +kernel
theorem dX2_takeRow_105 : decode cX2_takeRow 105 = .ok (.lload 10, 2) := by decide +kernel
theorem dX2_takeRow_107 : decode cX2_takeRow 107 = .ok (.lmul, 1) := by decide +kernel
theorem dX2_takeRow_108 : decode cX2_takeRow 108 = .ok (.invokevirtual 69, 3) := by decide +kernel
theorem dX2_takeRow_111 : decode cX2_takeRow 111 = .ok (.iinc 7 1, 3) := by decide +kernel
theorem dX2_takeRow_114 : decode cX2_takeRow 114 = .ok (.goto (-111), 3) := by decide +kernel
theorem dX2_takeRow_117 : decode cX2_takeRow 117 = .ok (.return_, 1) := by decide +kernel
theorem dX2_becomesFraction_0 : decode cX2_becomesFraction 0 = .ok (.lload_n 3, 1) := by decide +kernel
theorem dX2_becomesFraction_1 : decode cX2_becomesFraction 1 = .ok (.lload 5, 2) := by decide +kernel
theorem dX2_becomesFraction_3 : decode cX2_becomesFraction 3 = .ok (.invokestatic 72, 3) := by decide +kernel
theorem dX2_becomesFraction_6 : decode cX2_becomesFraction 6 = .ok (.lstore 7, 2) := by decide +kernel
theorem dX2_becomesFraction_8 : decode cX2_becomesFraction 8 = .ok (.lload 7, 2) := by decide +kernel
theorem dX2_becomesFraction_10 : decode cX2_becomesFraction 10 = .ok (.lconst 0, 1) := by decide +kernel
theorem dX2_becomesFraction_11 : decode cX2_becomesFraction 11 = .ok (.lcmp, 1) := by decide +kernel
theorem dX2_becomesFraction_12 : decode cX2_becomesFraction 12 = .ok (.ifCond .ne 4, 3) := by decide +kernel
theorem dX2_becomesFraction_15 : decode cX2_becomesFraction 15 = .ok (.return_, 1) := by decide +kernel
theorem dX2_becomesFraction_16 : decode cX2_becomesFraction 16 = .ok (.lload 5, 2) := by decide +kernel
theorem dX2_becomesFraction_18 : decode cX2_becomesFraction 18 = .ok (.lconst 0, 1) := by decide +kernel
theorem dX2_becomesFraction_19 : decode cX2_becomesFraction 19 = .ok (.lcmp, 1) := by decide +kernel
theorem dX2_becomesFraction_20 : decode cX2_becomesFraction 20 = .ok (.ifCond .ge 9, 3) := by decide +kernel
theorem dX2_becomesFraction_23 : decode cX2_becomesFraction 23 = .ok (.lload 7, 2) := by decide +kernel
theorem dX2_becomesFraction_25 : decode cX2_becomesFraction 25 = .ok (.lneg, 1) := by decide +kernel
theorem dX2_becomesFraction_26 : decode cX2_becomesFraction 26 = .ok (.goto 5, 3) := by decide +kernel
theorem dX2_becomesFraction_29 : decode cX2_becomesFraction 29 = .ok (.lload 7, 2) := by decide +kernel
theorem dX2_becomesFraction_31 : decode cX2_becomesFraction 31 = .ok (.lstore 9, 2) := by decide +kernel
theorem dX2_becomesFraction_33 : decode cX2_becomesFraction 33 = .ok (.aload_n 0, 1) := by decide +kernel
theorem dX2_becomesFraction_34 : decode cX2_becomesFraction 34 = .ok (.getfield 16, 3) := by decide +kernel
theorem dX2_becomesFraction_37 : decode cX2_becomesFraction 37 = .ok (.iload_n 1, 1) := by decide +kernel
theorem dX2_becomesFraction_38 : decode cX2_becomesFraction 38 = .ok (.aaload, 1) := by decide +kernel
theorem dX2_becomesFraction_39 : decode cX2_becomesFraction 39 = .ok (.iload_n 2, 1) := by decide +kernel
theorem dX2_becomesFraction_40 : decode cX2_becomesFraction 40 = .ok (.lload_n 3, 1) := by decide +kernel
theorem dX2_becomesFraction_41 : decode cX2_becomesFraction 41 = .ok (.lload 9, 2) := by decide +kernel
theorem dX2_becomesFraction_43 : decode cX2_becomesFraction 43 = .ok (.ldiv, 1) := by decide +kernel
theorem dX2_becomesFraction_44 : decode cX2_becomesFraction 44 = .ok (.lastore, 1) := by decide +kernel
theorem dX2_becomesFraction_45 : decode cX2_becomesFraction 45 = .ok (.aload_n 0, 1) := by decide +kernel
theorem dX2_becomesFraction_46 : decode cX2_becomesFraction 46 = .ok (.getfield 19, 3) := by decide +kernel
theorem dX2_becomesFraction_49 : decode cX2_becomesFraction 49 = .ok (.iload_n 1, 1) := by decide +kernel
theorem dX2_becomesFraction_50 : decode cX2_becomesFraction 50 = .ok (.aaload, 1) := by decide +kernel
theorem dX2_becomesFraction_51 : decode cX2_becomesFraction 51 = .ok (.iload_n 2, 1) := by decide +kernel
theorem dX2_becomesFraction_52 : decode cX2_becomesFraction 52 = .ok (.lload 5, 2) := by decide +kernel
theorem dX2_becomesFraction_54 : decode cX2_becomesFraction 54 = .ok (.lload 9, 2) := by decide +kernel
theorem dX2_becomesFraction_56 : decode cX2_becomesFraction 56 = .ok (.ldiv, 1) := by decide +kernel
theorem dX2_becomesFraction_57 : decode cX2_becomesFraction 57 = .ok (.lastore, 1) := by decide +kernel
theorem dX2_becomesFraction_58 : decode cX2_becomesFraction 58 = .ok (.return_, 1) := by decide +kernel
theorem dX2_commonDivisor_0 : decode cX2_commonDivisor 0 = .ok (.lload_n 0, 1) := by decide +kernel
theorem dX2_commonDivisor_1 : decode cX2_commonDivisor 1 = .ok (.invokestatic 76, 3) := by decide +kernel
theorem dX2_commonDivisor_4 : decode cX2_commonDivisor 4 = .ok (.lstore 4, 2) := by decide +kernel
theorem dX2_commonDivisor_6 : decode cX2_commonDivisor 6 = .ok (.lload_n 2, 1) := by decide +kernel
theorem dX2_commonDivisor_7 : decode cX2_commonDivisor 7 = .ok (.invokestatic 76, 3) := by decide +kernel
theorem dX2_commonDivisor_10 : decode cX2_commonDivisor 10 = .ok (.lstore 6, 2) := by decide +kernel
theorem dX2_commonDivisor_12 : decode cX2_commonDivisor 12 = .ok (.iconst 0, 1) := by decide +kernel
theorem dX2_commonDivisor_13 : decode cX2_commonDivisor 13 = .ok (.istore 8, 2) := by decide +kernel
theorem dX2_commonDivisor_15 : decode cX2_commonDivisor 15 = .ok (.iload 8, 2) := by decide +kernel
theorem dX2_commonDivisor_17 : decode cX2_commonDivisor 17 = .ok (.sipush 200, 3) := by decide +kernel
theorem dX2_commonDivisor_20 : decode cX2_commonDivisor 20 = .ok (.if_icmp .ge 31, 3) := by decide +kernel
theorem dX2_commonDivisor_23 : decode cX2_commonDivisor 23 = .ok (.lload 6, 2) := by decide +kernel
theorem dX2_commonDivisor_25 : decode cX2_commonDivisor 25 = .ok (.lconst 0, 1) := by decide +kernel
theorem dX2_commonDivisor_26 : decode cX2_commonDivisor 26 = .ok (.lcmp, 1) := by decide +kernel
theorem dX2_commonDivisor_27 : decode cX2_commonDivisor 27 = .ok (.ifCond .eq 24, 3) := by decide +kernel
theorem dX2_commonDivisor_30 : decode cX2_commonDivisor 30 = .ok (.lload 4, 2) := by decide +kernel
theorem dX2_commonDivisor_32 : decode cX2_commonDivisor 32 = .ok (.lload 6, 2) := by decide +kernel
theorem dX2_commonDivisor_34 : decode cX2_commonDivisor 34 = .ok (.lrem, 1) := by decide +kernel
theorem dX2_commonDivisor_35 : decode cX2_commonDivisor 35 = .ok (.lstore 9, 2) := by decide +kernel
theorem dX2_commonDivisor_37 : decode cX2_commonDivisor 37 = .ok (.lload 6, 2) := by decide +kernel
theorem dX2_commonDivisor_39 : decode cX2_commonDivisor 39 = .ok (.lstore 4, 2) := by decide +kernel
theorem dX2_commonDivisor_41 : decode cX2_commonDivisor 41 = .ok (.lload 9, 2) := by decide +kernel
theorem dX2_commonDivisor_43 : decode cX2_commonDivisor 43 = .ok (.lstore 6, 2) := by decide +kernel
theorem dX2_commonDivisor_45 : decode cX2_commonDivisor 45 = .ok (.iinc 8 1, 3) := by decide +kernel
theorem dX2_commonDivisor_48 : decode cX2_commonDivisor 48 = .ok (.goto (-33), 3) := by decide +kernel
theorem dX2_commonDivisor_51 : decode cX2_commonDivisor 51 = .ok (.lload 4, 2) := by decide +kernel
theorem dX2_commonDivisor_53 : decode cX2_commonDivisor 53 = .ok (.lreturn, 1) := by decide +kernel
theorem dX2_tellFractions_0 : decode cX2_tellFractions 0 = .ok (.iconst 0, 1) := by decide +kernel
theorem dX2_tellFractions_1 : decode cX2_tellFractions 1 = .ok (.istore_n 1, 1) := by decide +kernel
theorem dX2_tellFractions_2 : decode cX2_tellFractions 2 = .ok (.iload_n 1, 1) := by decide +kernel
theorem dX2_tellFractions_3 : decode cX2_tellFractions 3 = .ok (.iconst 4, 1) := by decide +kernel
theorem dX2_tellFractions_4 : decode cX2_tellFractions 4 = .ok (.if_icmp .ge 16, 3) := by decide +kernel
theorem dX2_tellFractions_7 : decode cX2_tellFractions 7 = .ok (.aload_n 0, 1) := by decide +kernel
theorem dX2_tellFractions_8 : decode cX2_tellFractions 8 = .ok (.getfield 30, 3) := by decide +kernel
theorem dX2_tellFractions_11 : decode cX2_tellFractions 11 = .ok (.iload_n 1, 1) := by decide +kernel
theorem dX2_tellFractions_12 : decode cX2_tellFractions 12 = .ok (.lconst 1, 1) := by decide +kernel
theorem dX2_tellFractions_13 : decode cX2_tellFractions 13 = .ok (.lastore, 1) := by decide +kernel
theorem dX2_tellFractions_14 : decode cX2_tellFractions 14 = .ok (.iinc 1 1, 3) := by decide +kernel
theorem dX2_tellFractions_17 : decode cX2_tellFractions 17 = .ok (.goto (-15), 3) := by decide +kernel
theorem dX2_tellFractions_20 : decode cX2_tellFractions 20 = .ok (.iconst 1, 1) := by decide +kernel
theorem dX2_tellFractions_21 : decode cX2_tellFractions 21 = .ok (.istore_n 1, 1) := by decide +kernel
theorem dX2_tellFractions_22 : decode cX2_tellFractions 22 = .ok (.iconst 0, 1) := by decide +kernel
theorem dX2_tellFractions_23 : decode cX2_tellFractions 23 = .ok (.istore_n 2, 1) := by decide +kernel
theorem dX2_tellFractions_24 : decode cX2_tellFractions 24 = .ok (.iload_n 2, 1) := by decide +kernel
theorem dX2_tellFractions_25 : decode cX2_tellFractions 25 = .ok (.aload_n 0, 1) := by decide +kernel
theorem dX2_tellFractions_26 : decode cX2_tellFractions 26 = .ok (.getfield 36, 3) := by decide +kernel
theorem dX2_tellFractions_29 : decode cX2_tellFractions 29 = .ok (.if_icmp .ge 75, 3) := by decide +kernel
theorem dX2_tellFractions_32 : decode cX2_tellFractions 32 = .ok (.iload_n 2, 1) := by decide +kernel
theorem dX2_tellFractions_33 : decode cX2_tellFractions 33 = .ok (.iconst 3, 1) := by decide +kernel
theorem dX2_tellFractions_34 : decode cX2_tellFractions 34 = .ok (.if_icmp .ge 70, 3) := by decide +kernel
theorem dX2_tellFractions_37 : decode cX2_tellFractions 37 = .ok (.aload_n 0, 1) := by decide +kernel
theorem dX2_tellFractions_38 : decode cX2_tellFractions 38 = .ok (.getfield 26, 3) := by decide +kernel
theorem dX2_tellFractions_41 : decode cX2_tellFractions 41 = .ok (.aload_n 0, 1) := by decide +kernel
theorem dX2_tellFractions_42 : decode cX2_tellFractions 42 = .ok (.getfield 22, 3) := by decide +kernel
theorem dX2_tellFractions_45 : decode cX2_tellFractions 45 = .ok (.iload_n 2, 1) := by decide +kernel
theorem dX2_tellFractions_46 : decode cX2_tellFractions 46 = .ok (.iaload, 1) := by decide +kernel
theorem dX2_tellFractions_47 : decode cX2_tellFractions 47 = .ok (.aload_n 0, 1) := by decide +kernel
theorem dX2_tellFractions_48 : decode cX2_tellFractions 48 = .ok (.getfield 16, 3) := by decide +kernel
theorem dX2_tellFractions_51 : decode cX2_tellFractions 51 = .ok (.iload_n 2, 1) := by decide +kernel
theorem dX2_tellFractions_52 : decode cX2_tellFractions 52 = .ok (.aaload, 1) := by decide +kernel
theorem dX2_tellFractions_53 : decode cX2_tellFractions 53 = .ok (.iconst 4, 1) := by decide +kernel
theorem dX2_tellFractions_54 : decode cX2_tellFractions 54 = .ok (.laload, 1) := by decide +kernel
theorem dX2_tellFractions_55 : decode cX2_tellFractions 55 = .ok (.lastore, 1) := by decide +kernel
theorem dX2_tellFractions_56 : decode cX2_tellFractions 56 = .ok (.aload_n 0, 1) := by decide +kernel
theorem dX2_tellFractions_57 : decode cX2_tellFractions 57 = .ok (.getfield 30, 3) := by decide +kernel
theorem dX2_tellFractions_60 : decode cX2_tellFractions 60 = .ok (.aload_n 0, 1) := by decide +kernel
theorem dX2_tellFractions_61 : decode cX2_tellFractions 61 = .ok (.getfield 22, 3) := by decide +kernel
theorem dX2_tellFractions_64 : decode cX2_tellFractions 64 = .ok (.iload_n 2, 1) := by decide +kernel
theorem dX2_tellFractions_65 : decode cX2_tellFractions 65 = .ok (.iaload, 1) := by decide +kernel
theorem dX2_tellFractions_66 : decode cX2_tellFractions 66 = .ok (.aload_n 0, 1) := by decide +kernel
theorem dX2_tellFractions_67 : decode cX2_tellFractions 67 = .ok (.getfield 19, 3) := by decide +kernel
theorem dX2_tellFractions_70 : decode cX2_tellFractions 70 = .ok (.iload_n 2, 1) := by decide +kernel
theorem dX2_tellFractions_71 : decode cX2_tellFractions 71 = .ok (.aaload, 1) := by decide +kernel
theorem dX2_tellFractions_72 : decode cX2_tellFractions 72 = .ok (.iconst 4, 1) := by decide +kernel
theorem dX2_tellFractions_73 : decode cX2_tellFractions 73 = .ok (.laload, 1) := by decide +kernel
theorem dX2_tellFractions_74 : decode cX2_tellFractions 74 = .ok (.lastore, 1) := by decide +kernel
theorem dX2_tellFractions_75 : decode cX2_tellFractions 75 = .ok (.iload_n 1, 1) := by decide +kernel
theorem dX2_tellFractions_76 : decode cX2_tellFractions 76 = .ok (.ifCond .eq 20, 3) := by decide +kernel
theorem dX2_tellFractions_79 : decode cX2_tellFractions 79 = .ok (.aload_n 0, 1) := by decide +kernel
theorem dX2_tellFractions_80 : decode cX2_tellFractions 80 = .ok (.getfield 16, 3) := by decide +kernel
theorem dX2_tellFractions_83 : decode cX2_tellFractions 83 = .ok (.iload_n 2, 1) := by decide +kernel
theorem dX2_tellFractions_84 : decode cX2_tellFractions 84 = .ok (.aaload, 1) := by decide +kernel
theorem dX2_tellFractions_85 : decode cX2_tellFractions 85 = .ok (.iconst 4, 1) := by decide +kernel
theorem dX2_tellFractions_86 : decode cX2_tellFractions 86 = .ok (.laload, 1) := by decide +kernel
theorem dX2_tellFractions_87 : decode cX2_tellFractions 87 = .ok (.lconst 0, 1) := by decide +kernel
theorem dX2_tellFractions_88 : decode cX2_tellFractions 88 = .ok (.lcmp, 1) := by decide +kernel
theorem dX2_tellFractions_89 : decode cX2_tellFractions 89 = .ok (.ifCond .lt 7, 3) := by decide +kernel
theorem dX2_tellFractions_92 : decode cX2_tellFractions 92 = .ok (.iconst 1, 1) := by decide +kernel
theorem dX2_tellFractions_93 : decode cX2_tellFractions 93 = .ok (.goto 4, 3) := by decide +kernel
theorem dX2_tellFractions_96 : decode cX2_tellFractions 96 = .ok (.iconst 0, 1) := by decide +kernel
theorem dX2_tellFractions_97 : decode cX2_tellFractions 97 = .ok (.istore_n 1, 1) := by decide +kernel
theorem dX2_tellFractions_98 : decode cX2_tellFractions 98 = .ok (.iinc 2 1, 3) := by decide +kernel
theorem dX2_tellFractions_101 : decode cX2_tellFractions 101 = .ok (.goto (-77), 3) := by decide +kernel
theorem dX2_tellFractions_104 : decode cX2_tellFractions 104 = .ok (.iload_n 1, 1) := by decide +kernel
theorem dX2_tellFractions_105 : decode cX2_tellFractions 105 = .ok (.ireturn, 1) := by decide +kernel
theorem dX2_tellWitness_0 : decode cX2_tellWitness 0 = .ok (.lconst 1, 1) := by decide +kernel
theorem dX2_tellWitness_1 : decode cX2_tellWitness 1 = .ok (.lstore_n 2, 1) := by decide +kernel
theorem dX2_tellWitness_2 : decode cX2_tellWitness 2 = .ok (.iconst 0, 1) := by decide +kernel
theorem dX2_tellWitness_3 : decode cX2_tellWitness 3 = .ok (.istore 4, 2) := by decide +kernel
theorem dX2_tellWitness_5 : decode cX2_tellWitness 5 = .ok (.iload 4, 2) := by decide +kernel
theorem dX2_tellWitness_7 : decode cX2_tellWitness 7 = .ok (.iconst 3, 1) := by decide +kernel
theorem dX2_tellWitness_8 : decode cX2_tellWitness 8 = .ok (.if_icmp .ge 49, 3) := by decide +kernel
theorem dX2_tellWitness_11 : decode cX2_tellWitness 11 = .ok (.aload_n 0, 1) := by decide +kernel
theorem dX2_tellWitness_12 : decode cX2_tellWitness 12 = .ok (.getfield 19, 3) := by decide +kernel
theorem dX2_tellWitness_15 : decode cX2_tellWitness 15 = .ok (.iload_n 1, 1) := by decide +kernel
theorem dX2_tellWitness_16 : decode cX2_tellWitness 16 = .ok (.aaload, 1) := by decide +kernel
theorem dX2_tellWitness_17 : decode cX2_tellWitness 17 = .ok (.iconst 5, 1) := by decide +kernel
theorem dX2_tellWitness_18 : decode cX2_tellWitness 18 = .ok (.iload 4, 2) := by decide +kernel
theorem dX2_tellWitness_20 : decode cX2_tellWitness 20 = .ok (.iadd, 1) := by decide +kernel
theorem dX2_tellWitness_21 : decode cX2_tellWitness 21 = .ok (.laload, 1) := by decide +kernel
theorem dX2_tellWitness_22 : decode cX2_tellWitness 22 = .ok (.lstore 5, 2) := by decide +kernel
theorem dX2_tellWitness_24 : decode cX2_tellWitness 24 = .ok (.lload_n 2, 1) := by decide +kernel
theorem dX2_tellWitness_25 : decode cX2_tellWitness 25 = .ok (.lload 5, 2) := by decide +kernel
theorem dX2_tellWitness_27 : decode cX2_tellWitness 27 = .ok (.invokestatic 72, 3) := by decide +kernel
theorem dX2_tellWitness_30 : decode cX2_tellWitness 30 = .ok (.lstore 7, 2) := by decide +kernel
theorem dX2_tellWitness_32 : decode cX2_tellWitness 32 = .ok (.lload 7, 2) := by decide +kernel
theorem dX2_tellWitness_34 : decode cX2_tellWitness 34 = .ok (.lconst 0, 1) := by decide +kernel
theorem dX2_tellWitness_35 : decode cX2_tellWitness 35 = .ok (.lcmp, 1) := by decide +kernel
theorem dX2_tellWitness_36 : decode cX2_tellWitness 36 = .ok (.ifCond .ne 7, 3) := by decide +kernel
theorem dX2_tellWitness_39 : decode cX2_tellWitness 39 = .ok (.lload_n 2, 1) := by decide +kernel
theorem dX2_tellWitness_40 : decode cX2_tellWitness 40 = .ok (.goto 10, 3) := by decide +kernel
theorem dX2_tellWitness_43 : decode cX2_tellWitness 43 = .ok (.lload_n 2, 1) := by decide +kernel
theorem dX2_tellWitness_44 : decode cX2_tellWitness 44 = .ok (.lload 7, 2) := by decide +kernel
theorem dX2_tellWitness_46 : decode cX2_tellWitness 46 = .ok (.ldiv, 1) := by decide +kernel
theorem dX2_tellWitness_47 : decode cX2_tellWitness 47 = .ok (.lload 5, 2) := by decide +kernel
theorem dX2_tellWitness_49 : decode cX2_tellWitness 49 = .ok (.lmul, 1) := by decide +kernel
theorem dX2_tellWitness_50 : decode cX2_tellWitness 50 = .ok (.lstore_n 2, 1) := by decide +kernel
theorem dX2_tellWitness_51 : decode cX2_tellWitness 51 = .ok (.iinc 4 1, 3) := by decide +kernel
theorem dX2_tellWitness_54 : decode cX2_tellWitness 54 = .ok (.goto (-49), 3) := by decide +kernel
theorem dX2_tellWitness_57 : decode cX2_tellWitness 57 = .ok (.lconst 0, 1) := by decide +kernel
theorem dX2_tellWitness_58 : decode cX2_tellWitness 58 = .ok (.lstore 4, 2) := by decide +kernel
theorem dX2_tellWitness_60 : decode cX2_tellWitness 60 = .ok (.iconst 0, 1) := by decide +kernel
theorem dX2_tellWitness_61 : decode cX2_tellWitness 61 = .ok (.istore 6, 2) := by decide +kernel
theorem dX2_tellWitness_63 : decode cX2_tellWitness 63 = .ok (.iload 6, 2) := by decide +kernel
theorem dX2_tellWitness_65 : decode cX2_tellWitness 65 = .ok (.iconst 3, 1) := by decide +kernel
theorem dX2_tellWitness_66 : decode cX2_tellWitness 66 = .ok (.if_icmp .ge 70, 3) := by decide +kernel
theorem dX2_tellWitness_69 : decode cX2_tellWitness 69 = .ok (.aload_n 0, 1) := by decide +kernel
theorem dX2_tellWitness_70 : decode cX2_tellWitness 70 = .ok (.getfield 19, 3) := by decide +kernel
theorem dX2_tellWitness_73 : decode cX2_tellWitness 73 = .ok (.iload_n 1, 1) := by decide +kernel
theorem dX2_tellWitness_74 : decode cX2_tellWitness 74 = .ok (.aaload, 1) := by decide +kernel
theorem dX2_tellWitness_75 : decode cX2_tellWitness 75 = .ok (.iconst 5, 1) := by decide +kernel
theorem dX2_tellWitness_76 : decode cX2_tellWitness 76 = .ok (.iload 6, 2) := by decide +kernel
theorem dX2_tellWitness_78 : decode cX2_tellWitness 78 = .ok (.iadd, 1) := by decide +kernel
theorem dX2_tellWitness_79 : decode cX2_tellWitness 79 = .ok (.laload, 1) := by decide +kernel
theorem dX2_tellWitness_80 : decode cX2_tellWitness 80 = .ok (.lstore 7, 2) := by decide +kernel
theorem dX2_tellWitness_82 : decode cX2_tellWitness 82 = .ok (.aload_n 0, 1) := by decide +kernel
theorem dX2_tellWitness_83 : decode cX2_tellWitness 83 = .ok (.getfield 33, 3) := by decide +kernel
theorem dX2_tellWitness_86 : decode cX2_tellWitness 86 = .ok (.iload 6, 2) := by decide +kernel
theorem dX2_tellWitness_88 : decode cX2_tellWitness 88 = .ok (.lload 7, 2) := by decide +kernel
theorem dX2_tellWitness_90 : decode cX2_tellWitness 90 = .ok (.lconst 0, 1) := by decide +kernel
theorem dX2_tellWitness_91 : decode cX2_tellWitness 91 = .ok (.lcmp, 1) := by decide +kernel
theorem dX2_tellWitness_92 : decode cX2_tellWitness 92 = .ok (.ifCond .ne 7, 3) := by decide +kernel
theorem dX2_tellWitness_95 : decode cX2_tellWitness 95 = .ok (.lconst 0, 1) := by decide +kernel
theorem dX2_tellWitness_96 : decode cX2_tellWitness 96 = .ok (.goto 19, 3) := by decide +kernel
theorem dX2_tellWitness_99 : decode cX2_tellWitness 99 = .ok (.aload_n 0, 1) := by decide +kernel
theorem dX2_tellWitness_100 : decode cX2_tellWitness 100 = .ok (.getfield 16, 3) := by decide +kernel
theorem dX2_tellWitness_103 : decode cX2_tellWitness 103 = .ok (.iload_n 1, 1) := by decide +kernel
theorem dX2_tellWitness_104 : decode cX2_tellWitness 104 = .ok (.aaload, 1) := by decide +kernel
theorem dX2_tellWitness_105 : decode cX2_tellWitness 105 = .ok (.iconst 5, 1) := by decide +kernel
theorem dX2_tellWitness_106 : decode cX2_tellWitness 106 = .ok (.iload 6, 2) := by decide +kernel
theorem dX2_tellWitness_108 : decode cX2_tellWitness 108 = .ok (.iadd, 1) := by decide +kernel
theorem dX2_tellWitness_109 : decode cX2_tellWitness 109 = .ok (.laload, 1) := by decide +kernel
theorem dX2_tellWitness_110 : decode cX2_tellWitness 110 = .ok (.lload_n 2, 1) := by decide +kernel
theorem dX2_tellWitness_111 : decode cX2_tellWitness 111 = .ok (.lload 7, 2) := by decide +kernel
theorem dX2_tellWitness_113 : decode cX2_tellWitness 113 = .ok (.ldiv, 1) := by decide +kernel
theorem dX2_tellWitness_114 : decode cX2_tellWitness 114 = .ok (.lmul, 1) := by decide +kernel
theorem dX2_tellWitness_115 : decode cX2_tellWitness 115 = .ok (.lastore, 1) := by decide +kernel
theorem dX2_tellWitness_116 : decode cX2_tellWitness 116 = .ok (.lload 4, 2) := by decide +kernel
theorem dX2_tellWitness_118 : decode cX2_tellWitness 118 = .ok (.aload_n 0, 1) := by decide +kernel
theorem dX2_tellWitness_119 : decode cX2_tellWitness 119 = .ok (.getfield 33, 3) := by decide +kernel
theorem dX2_tellWitness_122 : decode cX2_tellWitness 122 = .ok (.iload 6, 2) := by decide +kernel
theorem dX2_tellWitness_124 : decode cX2_tellWitness 124 = .ok (.laload, 1) := by decide +kernel
theorem dX2_tellWitness_125 : decode cX2_tellWitness 125 = .ok (.invokestatic 72, 3) := by decide +kernel
theorem dX2_tellWitness_128 : decode cX2_tellWitness 128 = .ok (.lstore 4, 2) := by decide +kernel
theorem dX2_tellWitness_130 : decode cX2_tellWitness 130 = .ok (.iinc 6 1, 3) := by decide +kernel
theorem dX2_tellWitness_133 : decode cX2_tellWitness 133 = .ok (.goto (-70), 3) := by decide +kernel
theorem dX2_tellWitness_136 : decode cX2_tellWitness 136 = .ok (.lload 4, 2) := by decide +kernel
theorem dX2_tellWitness_138 : decode cX2_tellWitness 138 = .ok (.lconst 0, 1) := by decide +kernel
theorem dX2_tellWitness_139 : decode cX2_tellWitness 139 = .ok (.lcmp, 1) := by decide +kernel
theorem dX2_tellWitness_140 : decode cX2_tellWitness 140 = .ok (.ifCond .ne 4, 3) := by decide +kernel
theorem dX2_tellWitness_143 : decode cX2_tellWitness 143 = .ok (.return_, 1) := by decide +kernel
theorem dX2_tellWitness_144 : decode cX2_tellWitness 144 = .ok (.aload_n 0, 1) := by decide +kernel
theorem dX2_tellWitness_145 : decode cX2_tellWitness 145 = .ok (.invokevirtual 82, 3) := by decide +kernel
theorem dX2_tellWitness_148 : decode cX2_tellWitness 148 = .ok (.i2l, 1) := by decide +kernel
theorem dX2_tellWitness_149 : decode cX2_tellWitness 149 = .ok (.lload 4, 2) := by decide +kernel
theorem dX2_tellWitness_151 : decode cX2_tellWitness 151 = .ok (.lmul, 1) := by decide +kernel
theorem dX2_tellWitness_152 : decode cX2_tellWitness 152 = .ok (.lstore 6, 2) := by decide +kernel
theorem dX2_tellWitness_154 : decode cX2_tellWitness 154 = .ok (.iconst 0, 1) := by decide +kernel
theorem dX2_tellWitness_155 : decode cX2_tellWitness 155 = .ok (.istore 8, 2) := by decide +kernel
theorem dX2_tellWitness_157 : decode cX2_tellWitness 157 = .ok (.iload 8, 2) := by decide +kernel
theorem dX2_tellWitness_159 : decode cX2_tellWitness 159 = .ok (.iconst 3, 1) := by decide +kernel
theorem dX2_tellWitness_160 : decode cX2_tellWitness 160 = .ok (.if_icmp .ge 28, 3) := by decide +kernel
theorem dX2_tellWitness_163 : decode cX2_tellWitness 163 = .ok (.lload 6, 2) := by decide +kernel
theorem dX2_tellWitness_165 : decode cX2_tellWitness 165 = .ok (.lconst 0, 1) := by decide +kernel
theorem dX2_tellWitness_166 : decode cX2_tellWitness 166 = .ok (.lcmp, 1) := by decide +kernel
theorem dX2_tellWitness_167 : decode cX2_tellWitness 167 = .ok (.ifCond .eq 21, 3) := by decide +kernel
theorem dX2_tellWitness_170 : decode cX2_tellWitness 170 = .ok (.aload_n 0, 1) := by decide +kernel
theorem dX2_tellWitness_171 : decode cX2_tellWitness 171 = .ok (.getfield 33, 3) := by decide +kernel
theorem dX2_tellWitness_174 : decode cX2_tellWitness 174 = .ok (.iload 8, 2) := by decide +kernel
theorem dX2_tellWitness_176 : decode cX2_tellWitness 176 = .ok (.dup2, 1) := by decide +kernel
theorem dX2_tellWitness_177 : decode cX2_tellWitness 177 = .ok (.laload, 1) := by decide +kernel
theorem dX2_tellWitness_178 : decode cX2_tellWitness 178 = .ok (.lload 6, 2) := by decide +kernel
theorem dX2_tellWitness_180 : decode cX2_tellWitness 180 = .ok (.ldiv, 1) := by decide +kernel
theorem dX2_tellWitness_181 : decode cX2_tellWitness 181 = .ok (.lastore, 1) := by decide +kernel
theorem dX2_tellWitness_182 : decode cX2_tellWitness 182 = .ok (.iinc 8 1, 3) := by decide +kernel
theorem dX2_tellWitness_185 : decode cX2_tellWitness 185 = .ok (.goto (-28), 3) := by decide +kernel
theorem dX2_tellWitness_188 : decode cX2_tellWitness 188 = .ok (.return_, 1) := by decide +kernel
theorem dX2_firstSign_0 : decode cX2_firstSign 0 = .ok (.iconst 0, 1) := by decide +kernel
theorem dX2_firstSign_1 : decode cX2_firstSign 1 = .ok (.istore_n 1, 1) := by decide +kernel
theorem dX2_firstSign_2 : decode cX2_firstSign 2 = .ok (.iload_n 1, 1) := by decide +kernel
theorem dX2_firstSign_3 : decode cX2_firstSign 3 = .ok (.iconst 3, 1) := by decide +kernel
theorem dX2_firstSign_4 : decode cX2_firstSign 4 = .ok (.if_icmp .ge 37, 3) := by decide +kernel
theorem dX2_firstSign_7 : decode cX2_firstSign 7 = .ok (.aload_n 0, 1) := by decide +kernel
theorem dX2_firstSign_8 : decode cX2_firstSign 8 = .ok (.getfield 33, 3) := by decide +kernel
theorem dX2_firstSign_11 : decode cX2_firstSign 11 = .ok (.iload_n 1, 1) := by decide +kernel
theorem dX2_firstSign_12 : decode cX2_firstSign 12 = .ok (.laload, 1) := by decide +kernel
theorem dX2_firstSign_13 : decode cX2_firstSign 13 = .ok (.lconst 0, 1) := by decide +kernel
theorem dX2_firstSign_14 : decode cX2_firstSign 14 = .ok (.lcmp, 1) := by decide +kernel
theorem dX2_firstSign_15 : decode cX2_firstSign 15 = .ok (.ifCond .eq 20, 3) := by decide +kernel
theorem dX2_firstSign_18 : decode cX2_firstSign 18 = .ok (.aload_n 0, 1) := by decide +kernel
theorem dX2_firstSign_19 : decode cX2_firstSign 19 = .ok (.getfield 33, 3) := by decide +kernel
theorem dX2_firstSign_22 : decode cX2_firstSign 22 = .ok (.iload_n 1, 1) := by decide +kernel
theorem dX2_firstSign_23 : decode cX2_firstSign 23 = .ok (.laload, 1) := by decide +kernel
theorem dX2_firstSign_24 : decode cX2_firstSign 24 = .ok (.lconst 0, 1) := by decide +kernel
theorem dX2_firstSign_25 : decode cX2_firstSign 25 = .ok (.lcmp, 1) := by decide +kernel
theorem dX2_firstSign_26 : decode cX2_firstSign 26 = .ok (.ifCond .ge 7, 3) := by decide +kernel
theorem dX2_firstSign_29 : decode cX2_firstSign 29 = .ok (.iconst (-1), 1) := by decide +kernel
theorem dX2_firstSign_30 : decode cX2_firstSign 30 = .ok (.goto 4, 3) := by decide +kernel
theorem dX2_firstSign_33 : decode cX2_firstSign 33 = .ok (.iconst 1, 1) := by decide +kernel
theorem dX2_firstSign_34 : decode cX2_firstSign 34 = .ok (.ireturn, 1) := by decide +kernel
theorem dX2_firstSign_35 : decode cX2_firstSign 35 = .ok (.iinc 1 1, 3) := by decide +kernel
theorem dX2_firstSign_38 : decode cX2_firstSign 38 = .ok (.goto (-36), 3) := by decide +kernel
theorem dX2_firstSign_41 : decode cX2_firstSign 41 = .ok (.iconst 1, 1) := by decide +kernel
theorem dX2_firstSign_42 : decode cX2_firstSign 42 = .ok (.ireturn, 1) := by decide +kernel
theorem dX3_init_0 : decode cX3_init 0 = .ok (.aload_n 0, 1) := by decide +kernel
theorem dX3_init_1 : decode cX3_init 1 = .ok (.invokespecial 1, 3) := by decide +kernel
theorem dX3_init_4 : decode cX3_init 4 = .ok (.aload_n 0, 1) := by decide +kernel
theorem dX3_init_5 : decode cX3_init 5 = .ok (.bipush 6, 2) := by decide +kernel
theorem dX3_init_7 : decode cX3_init 7 = .ok (.newarray .int, 2) := by decide +kernel
theorem dX3_init_9 : decode cX3_init 9 = .ok (.putfield 9, 3) := by decide +kernel
theorem dX3_init_12 : decode cX3_init 12 = .ok (.return_, 1) := by decide +kernel
theorem dX4_init_0 : decode cX4_init 0 = .ok (.aload_n 0, 1) := by decide +kernel
theorem dX4_init_1 : decode cX4_init 1 = .ok (.invokespecial 3, 3) := by decide +kernel
theorem dX4_init_4 : decode cX4_init 4 = .ok (.aload_n 0, 1) := by decide +kernel
theorem dX4_init_5 : decode cX4_init 5 = .ok (.new 9, 3) := by decide +kernel
theorem dX4_init_8 : decode cX4_init 8 = .ok (.dup, 1) := by decide +kernel
theorem dX4_init_9 : decode cX4_init 9 = .ok (.invokespecial 11, 3) := by decide +kernel
theorem dX4_init_12 : decode cX4_init 12 = .ok (.putfield 12, 3) := by decide +kernel
theorem dX4_init_15 : decode cX4_init 15 = .ok (.aload_n 0, 1) := by decide +kernel
theorem dX4_init_16 : decode cX4_init 16 = .ok (.bipush 9, 2) := by decide +kernel
theorem dX4_init_18 : decode cX4_init 18 = .ok (.iconst 5, 1) := by decide +kernel
theorem dX4_init_19 : decode cX4_init 19 = .ok (.multianewarray 18 2, 4) := by decide +kernel
theorem dX4_init_23 : decode cX4_init 23 = .ok (.putfield 20, 3) := by decide +kernel
theorem dX4_init_26 : decode cX4_init 26 = .ok (.aload_n 0, 1) := by decide +kernel
theorem dX4_init_27 : decode cX4_init 27 = .ok (.bipush 9, 2) := by decide +kernel
theorem dX4_init_29 : decode cX4_init 29 = .ok (.newarray .long, 2) := by decide +kernel
theorem dX4_init_31 : decode cX4_init 31 = .ok (.putfield 23, 3) := by decide +kernel
theorem dX4_init_34 : decode cX4_init 34 = .ok (.aload_n 0, 1) := by decide +kernel
theorem dX4_init_35 : decode cX4_init 35 = .ok (.bipush 9, 2) := by decide +kernel
theorem dX4_init_37 : decode cX4_init 37 = .ok (.newarray .double, 2) := by decide +kernel
theorem dX4_init_39 : decode cX4_init 39 = .ok (.putfield 27, 3) := by decide +kernel
theorem dX4_init_42 : decode cX4_init 42 = .ok (.aload_n 0, 1) := by decide +kernel
theorem dX4_init_43 : decode cX4_init 43 = .ok (.bipush 9, 2) := by decide +kernel
theorem dX4_init_45 : decode cX4_init 45 = .ok (.newarray .long, 2) := by decide +kernel
theorem dX4_init_47 : decode cX4_init 47 = .ok (.putfield 31, 3) := by decide +kernel
theorem dX4_init_50 : decode cX4_init 50 = .ok (.aload_n 0, 1) := by decide +kernel
theorem dX4_init_51 : decode cX4_init 51 = .ok (.iconst 3, 1) := by decide +kernel
theorem dX4_init_52 : decode cX4_init 52 = .ok (.newarray .long, 2) := by decide +kernel
theorem dX4_init_54 : decode cX4_init 54 = .ok (.putfield 34, 3) := by decide +kernel
theorem dX4_init_57 : decode cX4_init 57 = .ok (.aload_n 0, 1) := by decide +kernel
theorem dX4_init_58 : decode cX4_init 58 = .ok (.bipush 9, 2) := by decide +kernel
theorem dX4_init_60 : decode cX4_init 60 = .ok (.newarray .long, 2) := by decide +kernel
theorem dX4_init_62 : decode cX4_init 62 = .ok (.putfield 37, 3) := by decide +kernel
theorem dX4_init_65 : decode cX4_init 65 = .ok (.aload_n 0, 1) := by decide +kernel
theorem dX4_init_66 : decode cX4_init 66 = .ok (.ldc2_w 40, 3) := by decide +kernel
theorem dX4_init_69 : decode cX4_init 69 = .ok (.putfield 42, 3) := by decide +kernel
theorem dX4_init_72 : decode cX4_init 72 = .ok (.aload_n 0, 1) := by decide +kernel
theorem dX4_init_73 : decode cX4_init 73 = .ok (.iconst 3, 1) := by decide +kernel
theorem dX4_init_74 : decode cX4_init 74 = .ok (.bipush 11, 2) := by decide +kernel
theorem dX4_init_76 : decode cX4_init 76 = .ok (.multianewarray 46 2, 4) := by decide +kernel
theorem dX4_init_80 : decode cX4_init 80 = .ok (.putfield 48, 3) := by decide +kernel
theorem dX4_init_83 : decode cX4_init 83 = .ok (.aload_n 0, 1) := by decide +kernel
theorem dX4_init_84 : decode cX4_init 84 = .ok (.iconst 5, 1) := by decide +kernel
theorem dX4_init_85 : decode cX4_init 85 = .ok (.newarray .int, 2) := by decide +kernel
theorem dX4_init_87 : decode cX4_init 87 = .ok (.dup, 1) := by decide +kernel
theorem dX4_init_88 : decode cX4_init 88 = .ok (.iconst 0, 1) := by decide +kernel
theorem dX4_init_89 : decode cX4_init 89 = .ok (.iconst 0, 1) := by decide +kernel
theorem dX4_init_90 : decode cX4_init 90 = .ok (.iastore, 1) := by decide +kernel
theorem dX4_init_91 : decode cX4_init 91 = .ok (.dup, 1) := by decide +kernel
theorem dX4_init_92 : decode cX4_init 92 = .ok (.iconst 1, 1) := by decide +kernel
theorem dX4_init_93 : decode cX4_init 93 = .ok (.sipush 10000, 3) := by decide +kernel
theorem dX4_init_96 : decode cX4_init 96 = .ok (.iastore, 1) := by decide +kernel
theorem dX4_init_97 : decode cX4_init 97 = .ok (.dup, 1) := by decide +kernel
theorem dX4_init_98 : decode cX4_init 98 = .ok (.iconst 2, 1) := by decide +kernel
theorem dX4_init_99 : decode cX4_init 99 = .ok (.sipush 5000, 3) := by decide +kernel
theorem dX4_init_102 : decode cX4_init 102 = .ok (.iastore, 1) := by decide +kernel
theorem dX4_init_103 : decode cX4_init 103 = .ok (.dup, 1) := by decide +kernel
theorem dX4_init_104 : decode cX4_init 104 = .ok (.iconst 3, 1) := by decide +kernel
theorem dX4_init_105 : decode cX4_init 105 = .ok (.iconst 0, 1) := by decide +kernel
theorem dX4_init_106 : decode cX4_init 106 = .ok (.iastore, 1) := by decide +kernel
theorem dX4_init_107 : decode cX4_init 107 = .ok (.dup, 1) := by decide +kernel
theorem dX4_init_108 : decode cX4_init 108 = .ok (.iconst 4, 1) := by decide +kernel
theorem dX4_init_109 : decode cX4_init 109 = .ok (.iconst 0, 1) := by decide +kernel
theorem dX4_init_110 : decode cX4_init 110 = .ok (.iastore, 1) := by decide +kernel
theorem dX4_init_111 : decode cX4_init 111 = .ok (.putfield 51, 3) := by decide +kernel
theorem dX4_init_114 : decode cX4_init 114 = .ok (.aload_n 0, 1) := by decide +kernel
theorem dX4_init_115 : decode cX4_init 115 = .ok (.iconst 3, 1) := by decide +kernel
theorem dX4_init_116 : decode cX4_init 116 = .ok (.bipush 6, 2) := by decide +kernel
theorem dX4_init_118 : decode cX4_init 118 = .ok (.multianewarray 18 2, 4) := by decide +kernel
theorem dX4_init_122 : decode cX4_init 122 = .ok (.putfield 55, 3) := by decide +kernel
theorem dX4_init_125 : decode cX4_init 125 = .ok (.aload_n 0, 1) := by decide +kernel
theorem dX4_init_126 : decode cX4_init 126 = .ok (.iconst 3, 1) := by decide +kernel
theorem dX4_init_127 : decode cX4_init 127 = .ok (.bipush 6, 2) := by decide +kernel
theorem dX4_init_129 : decode cX4_init 129 = .ok (.multianewarray 18 2, 4) := by decide +kernel
theorem dX4_init_133 : decode cX4_init 133 = .ok (.putfield 58, 3) := by decide +kernel
theorem dX4_init_136 : decode cX4_init 136 = .ok (.aload_n 0, 1) := by decide +kernel
theorem dX4_init_137 : decode cX4_init 137 = .ok (.iconst 3, 1) := by decide +kernel
theorem dX4_init_138 : decode cX4_init 138 = .ok (.newarray .int, 2) := by decide +kernel
theorem dX4_init_140 : decode cX4_init 140 = .ok (.putfield 61, 3) := by decide +kernel
theorem dX4_init_143 : decode cX4_init 143 = .ok (.iconst 0, 1) := by decide +kernel
theorem dX4_init_144 : decode cX4_init 144 = .ok (.istore_n 1, 1) := by decide +kernel
theorem dX4_init_145 : decode cX4_init 145 = .ok (.iload_n 1, 1) := by decide +kernel
theorem dX4_init_146 : decode cX4_init 146 = .ok (.bipush 9, 2) := by decide +kernel
theorem dX4_init_148 : decode cX4_init 148 = .ok (.if_icmp .ge 27, 3) := by decide +kernel
theorem dX4_init_151 : decode cX4_init 151 = .ok (.aload_n 0, 1) := by decide +kernel
theorem dX4_init_152 : decode cX4_init 152 = .ok (.getfield 23, 3) := by decide +kernel
theorem dX4_init_155 : decode cX4_init 155 = .ok (.iload_n 1, 1) := by decide +kernel
theorem dX4_init_156 : decode cX4_init 156 = .ok (.ldc2_w 64, 3) := by decide +kernel
theorem dX4_init_159 : decode cX4_init 159 = .ok (.lastore, 1) := by decide +kernel
theorem dX4_init_160 : decode cX4_init 160 = .ok (.aload_n 0, 1) := by decide +kernel
theorem dX4_init_161 : decode cX4_init 161 = .ok (.getfield 20, 3) := by decide +kernel
theorem dX4_init_164 : decode cX4_init 164 = .ok (.iload_n 1, 1) := by decide +kernel
theorem dX4_init_165 : decode cX4_init 165 = .ok (.aaload, 1) := by decide +kernel
theorem dX4_init_166 : decode cX4_init 166 = .ok (.iconst 0, 1) := by decide +kernel
theorem dX4_init_167 : decode cX4_init 167 = .ok (.iconst 1, 1) := by decide +kernel
theorem dX4_init_168 : decode cX4_init 168 = .ok (.iastore, 1) := by decide +kernel
theorem dX4_init_169 : decode cX4_init 169 = .ok (.iinc 1 1, 3) := by decide +kernel
theorem dX4_init_172 : decode cX4_init 172 = .ok (.goto (-27), 3) := by decide +kernel
theorem dX4_init_175 : decode cX4_init 175 = .ok (.iconst 0, 1) := by decide +kernel
theorem dX4_init_176 : decode cX4_init 176 = .ok (.istore_n 1, 1) := by decide +kernel
theorem dX4_init_177 : decode cX4_init 177 = .ok (.iload_n 1, 1) := by decide +kernel
theorem dX4_init_178 : decode cX4_init 178 = .ok (.iconst 3, 1) := by decide +kernel
theorem dX4_init_179 : decode cX4_init 179 = .ok (.if_icmp .ge 40, 3) := by decide +kernel
theorem dX4_init_182 : decode cX4_init 182 = .ok (.aload_n 0, 1) := by decide +kernel
theorem dX4_init_183 : decode cX4_init 183 = .ok (.getfield 34, 3) := by decide +kernel
theorem dX4_init_186 : decode cX4_init 186 = .ok (.iload_n 1, 1) := by decide +kernel
theorem dX4_init_187 : decode cX4_init 187 = .ok (.ldc2_w 64, 3) := by decide +kernel
theorem dX4_init_190 : decode cX4_init 190 = .ok (.lastore, 1) := by decide +kernel
theorem dX4_init_191 : decode cX4_init 191 = .ok (.aload_n 0, 1) := by decide +kernel
theorem dX4_init_192 : decode cX4_init 192 = .ok (.getfield 48, 3) := by decide +kernel
theorem dX4_init_195 : decode cX4_init 195 = .ok (.iload_n 1, 1) := by decide +kernel
theorem dX4_init_196 : decode cX4_init 196 = .ok (.aaload, 1) := by decide +kernel
theorem dX4_init_197 : decode cX4_init 197 = .ok (.iconst 0, 1) := by decide +kernel
theorem dX4_init_198 : decode cX4_init 198 = .ok (.ldc2_w 66, 3) := by decide +kernel
theorem dX4_init_201 : decode cX4_init 201 = .ok (.lastore, 1) := by decide +kernel
theorem dX4_init_202 : decode cX4_init 202 = .ok (.aload_n 0, 1) := by decide +kernel
theorem dX4_init_203 : decode cX4_init 203 = .ok (.getfield 48, 3) := by decide +kernel
theorem dX4_init_206 : decode cX4_init 206 = .ok (.iload_n 1, 1) := by decide +kernel
theorem dX4_init_207 : decode cX4_init 207 = .ok (.aaload, 1) := by decide +kernel
theorem dX4_init_208 : decode cX4_init 208 = .ok (.iconst 1, 1) := by decide +kernel
theorem dX4_init_209 : decode cX4_init 209 = .ok (.ldc2_w 68, 3) := by decide +kernel
theorem dX4_init_212 : decode cX4_init 212 = .ok (.lastore, 1) := by decide +kernel
theorem dX4_init_213 : decode cX4_init 213 = .ok (.iinc 1 1, 3) := by decide +kernel
theorem dX4_init_216 : decode cX4_init 216 = .ok (.goto (-39), 3) := by decide +kernel
theorem dX4_init_219 : decode cX4_init 219 = .ok (.return_, 1) := by decide +kernel
theorem dX4_takeReading_0 : decode cX4_takeReading 0 = .ok (.aload_n 0, 1) := by decide +kernel
theorem dX4_takeReading_1 : decode cX4_takeReading 1 = .ok (.getfield 23, 3) := by decide +kernel
theorem dX4_takeReading_4 : decode cX4_takeReading 4 = .ok (.iload_n 1, 1) := by decide +kernel
theorem dX4_takeReading_5 : decode cX4_takeReading 5 = .ok (.lload_n 2, 1) := by decide +kernel
theorem dX4_takeReading_6 : decode cX4_takeReading 6 = .ok (.lastore, 1) := by decide +kernel
theorem dX4_takeReading_7 : decode cX4_takeReading 7 = .ok (.aload_n 0, 1) := by decide +kernel
theorem dX4_takeReading_8 : decode cX4_takeReading 8 = .ok (.getfield 27, 3) := by decide +kernel
theorem dX4_takeReading_11 : decode cX4_takeReading 11 = .ok (.iload_n 1, 1) := by decide +kernel
theorem dX4_takeReading_12 : decode cX4_takeReading 12 = .ok (.lload_n 2, 1) := by decide +kernel
theorem dX4_takeReading_13 : decode cX4_takeReading 13 = .ok (.invokestatic 70, 3) := by decide +kernel
theorem dX4_takeReading_16 : decode cX4_takeReading 16 = .ok (.ifCond .eq 10, 3) := by decide +kernel
theorem dX4_takeReading_19 : decode cX4_takeReading 19 = .ok (.lload_n 2, 1) := by decide +kernel
theorem dX4_takeReading_20 : decode cX4_takeReading 20 = .ok (.invokestatic 74, 3) := by decide +kernel
theorem dX4_takeReading_23 : decode cX4_takeReading 23 = .ok (.goto 4, 3) := by decide +kernel
theorem dX4_takeReading_26 : decode cX4_takeReading 26 = .ok (.dconst 0, 1) := by decide +kernel
theorem dX4_takeReading_27 : decode cX4_takeReading 27 = .ok (.dastore, 1) := by decide +kernel
theorem dX4_takeReading_28 : decode cX4_takeReading 28 = .ok (.return_, 1) := by decide +kernel
theorem dX4_newWeather_0 : decode cX4_newWeather 0 = .ok (.iload_n 1, 1) := by decide +kernel
theorem dX4_newWeather_1 : decode cX4_newWeather 1 = .ok (.ifCond .lt 26, 3) := by decide +kernel
theorem dX4_newWeather_4 : decode cX4_newWeather 4 = .ok (.iload_n 1, 1) := by decide +kernel
theorem dX4_newWeather_5 : decode cX4_newWeather 5 = .ok (.iconst 4, 1) := by decide +kernel
theorem dX4_newWeather_6 : decode cX4_newWeather 6 = .ok (.if_icmp .gt 21, 3) := by decide +kernel
theorem dX4_newWeather_9 : decode cX4_newWeather 9 = .ok (.iload_n 2, 1) := by decide +kernel
theorem dX4_newWeather_10 : decode cX4_newWeather 10 = .ok (.getstatic 78, 3) := by decide +kernel
theorem dX4_newWeather_13 : decode cX4_newWeather 13 = .ok (.iload_n 1, 1) := by decide +kernel
theorem dX4_newWeather_14 : decode cX4_newWeather 14 = .ok (.iaload, 1) := by decide +kernel
theorem dX4_newWeather_15 : decode cX4_newWeather 15 = .ok (.if_icmp .lt 12, 3) := by decide +kernel
theorem dX4_newWeather_18 : decode cX4_newWeather 18 = .ok (.iload_n 2, 1) := by decide +kernel
theorem dX4_newWeather_19 : decode cX4_newWeather 19 = .ok (.getstatic 81, 3) := by decide +kernel
theorem dX4_newWeather_22 : decode cX4_newWeather 22 = .ok (.iload_n 1, 1) := by decide +kernel
theorem dX4_newWeather_23 : decode cX4_newWeather 23 = .ok (.iaload, 1) := by decide +kernel
theorem dX4_newWeather_24 : decode cX4_newWeather 24 = .ok (.if_icmp .le 6, 3) := by decide +kernel
theorem dX4_newWeather_27 : decode cX4_newWeather 27 = .ok (.ldc 84, 2) := by decide +kernel
theorem dX4_newWeather_29 : decode cX4_newWeather 29 = .ok (.ireturn, 1) := by decide +kernel
theorem dX4_newWeather_30 : decode cX4_newWeather 30 = .ok (.aload_n 0, 1) := by decide +kernel
theorem dX4_newWeather_31 : decode cX4_newWeather 31 = .ok (.getfield 51, 3) := by decide +kernel
theorem dX4_newWeather_34 : decode cX4_newWeather 34 = .ok (.iload_n 1, 1) := by decide +kernel
theorem dX4_newWeather_35 : decode cX4_newWeather 35 = .ok (.iaload, 1) := by decide +kernel
theorem dX4_newWeather_36 : decode cX4_newWeather 36 = .ok (.istore_n 3, 1) := by decide +kernel
theorem dX4_newWeather_37 : decode cX4_newWeather 37 = .ok (.aload_n 0, 1) := by decide +kernel
theorem dX4_newWeather_38 : decode cX4_newWeather 38 = .ok (.getfield 51, 3) := by decide +kernel
theorem dX4_newWeather_41 : decode cX4_newWeather 41 = .ok (.iload_n 1, 1) := by decide +kernel
theorem dX4_newWeather_42 : decode cX4_newWeather 42 = .ok (.iload_n 2, 1) := by decide +kernel
theorem dX4_newWeather_43 : decode cX4_newWeather 43 = .ok (.iastore, 1) := by decide +kernel
theorem dX4_newWeather_44 : decode cX4_newWeather 44 = .ok (.iload_n 3, 1) := by decide +kernel
theorem dX4_newWeather_45 : decode cX4_newWeather 45 = .ok (.ireturn, 1) := by decide +kernel
theorem dX4_passMinute_0 : decode cX4_passMinute 0 = .ok (.aload_n 0, 1) := by decide +kernel
theorem dX4_passMinute_1 : decode cX4_passMinute 1 = .ok (.dup, 1) := by decide +kernel
theorem dX4_passMinute_2 : decode cX4_passMinute 2 = .ok (.getfield 85, 3) := by decide +kernel
theorem dX4_passMinute_5 : decode cX4_passMinute 5 = .ok (.iconst 1, 1) := by decide +kernel
theorem dX4_passMinute_6 : decode cX4_passMinute 6 = .ok (.iadd, 1) := by decide +kernel
theorem dX4_passMinute_7 : decode cX4_passMinute 7 = .ok (.putfield 85, 3) := by decide +kernel
theorem dX4_passMinute_10 : decode cX4_passMinute 10 = .ok (.iconst 0, 1) := by decide +kernel
theorem dX4_passMinute_11 : decode cX4_passMinute 11 = .ok (.istore_n 1, 1) := by decide +kernel
theorem dX4_passMinute_12 : decode cX4_passMinute 12 = .ok (.iload_n 1, 1) := by decide +kernel
theorem dX4_passMinute_13 : decode cX4_passMinute 13 = .ok (.iconst 3, 1) := by decide +kernel
theorem dX4_passMinute_14 : decode cX4_passMinute 14 = .ok (.if_icmp .ge 24, 3) := by decide +kernel
theorem dX4_passMinute_17 : decode cX4_passMinute 17 = .ok (.aload_n 0, 1) := by decide +kernel
theorem dX4_passMinute_18 : decode cX4_passMinute 18 = .ok (.iload_n 1, 1) := by decide +kernel
theorem dX4_passMinute_19 : decode cX4_passMinute 19 = .ok (.invokevirtual 89, 3) := by decide +kernel
theorem dX4_passMinute_22 : decode cX4_passMinute 22 = .ok (.aload_n 0, 1) := by decide +kernel
theorem dX4_passMinute_23 : decode cX4_passMinute 23 = .ok (.iload_n 1, 1) := by decide +kernel
theorem dX4_passMinute_24 : decode cX4_passMinute 24 = .ok (.invokevirtual 93, 3) := by decide +kernel
theorem dX4_passMinute_27 : decode cX4_passMinute 27 = .ok (.aload_n 0, 1) := by decide +kernel
theorem dX4_passMinute_28 : decode cX4_passMinute 28 = .ok (.iload_n 1, 1) := by decide +kernel
theorem dX4_passMinute_29 : decode cX4_passMinute 29 = .ok (.invokevirtual 96, 3) := by decide +kernel
theorem dX4_passMinute_32 : decode cX4_passMinute 32 = .ok (.iinc 1 1, 3) := by decide +kernel
theorem dX4_passMinute_35 : decode cX4_passMinute 35 = .ok (.goto (-23), 3) := by decide +kernel
theorem dX4_passMinute_38 : decode cX4_passMinute 38 = .ok (.return_, 1) := by decide +kernel
theorem dX4_markAdded_0 : decode cX4_markAdded 0 = .ok (.aload_n 0, 1) := by decide +kernel
theorem dX4_markAdded_1 : decode cX4_markAdded 1 = .ok (.getfield 61, 3) := by decide +kernel
theorem dX4_markAdded_4 : decode cX4_markAdded 4 = .ok (.iload_n 1, 1) := by decide +kernel
theorem dX4_markAdded_5 : decode cX4_markAdded 5 = .ok (.iaload, 1) := by decide +kernel
theorem dX4_markAdded_6 : decode cX4_markAdded 6 = .ok (.istore 4, 2) := by decide +kernel
theorem dX4_markAdded_8 : decode cX4_markAdded 8 = .ok (.iload_n 2, 1) := by decide +kernel
theorem dX4_markAdded_9 : decode cX4_markAdded 9 = .ok (.ifCond .lt 22, 3) := by decide +kernel
theorem dX4_markAdded_12 : decode cX4_markAdded 12 = .ok (.iload_n 2, 1) := by decide +kernel
theorem dX4_markAdded_13 : decode cX4_markAdded 13 = .ok (.sipush 1440, 3) := by decide +kernel
theorem dX4_markAdded_16 : decode cX4_markAdded 16 = .ok (.if_icmp .ge 15, 3) := by decide +kernel
theorem dX4_markAdded_19 : decode cX4_markAdded 19 = .ok (.iload_n 3, 1) := by decide +kernel
theorem dX4_markAdded_20 : decode cX4_markAdded 20 = .ok (.ldc 99, 2) := by decide +kernel
theorem dX4_markAdded_22 : decode cX4_markAdded 22 = .ok (.if_icmp .lt 9, 3) := by decide +kernel
theorem dX4_markAdded_25 : decode cX4_markAdded 25 = .ok (.iload_n 3, 1) := by decide +kernel
theorem dX4_markAdded_26 : decode cX4_markAdded 26 = .ok (.ldc 100, 2) := by decide +kernel
theorem dX4_markAdded_28 : decode cX4_markAdded 28 = .ok (.if_icmp .le 6, 3) := by decide +kernel
theorem dX4_markAdded_31 : decode cX4_markAdded 31 = .ok (.bipush (-2), 2) := by decide +kernel
theorem dX4_markAdded_33 : decode cX4_markAdded 33 = .ok (.ireturn, 1) := by decide +kernel
theorem dX4_markAdded_34 : decode cX4_markAdded 34 = .ok (.iload 4, 2) := by decide +kernel
theorem dX4_markAdded_36 : decode cX4_markAdded 36 = .ok (.ifCond .le 21, 3) := by decide +kernel
theorem dX4_markAdded_39 : decode cX4_markAdded 39 = .ok (.iload_n 2, 1) := by decide +kernel
theorem dX4_markAdded_40 : decode cX4_markAdded 40 = .ok (.aload_n 0, 1) := by decide +kernel
theorem dX4_markAdded_41 : decode cX4_markAdded 41 = .ok (.getfield 55, 3) := by decide +kernel
theorem dX4_markAdded_44 : decode cX4_markAdded 44 = .ok (.iload_n 1, 1) := by decide +kernel
theorem dX4_markAdded_45 : decode cX4_markAdded 45 = .ok (.aaload, 1) := by decide +kernel
theorem dX4_markAdded_46 : decode cX4_markAdded 46 = .ok (.iload 4, 2) := by decide +kernel
theorem dX4_markAdded_48 : decode cX4_markAdded 48 = .ok (.iconst 1, 1) := by decide +kernel
theorem dX4_markAdded_49 : decode cX4_markAdded 49 = .ok (.isub, 1) := by decide +kernel
theorem dX4_markAdded_50 : decode cX4_markAdded 50 = .ok (.iaload, 1) := by decide +kernel
theorem dX4_markAdded_51 : decode cX4_markAdded 51 = .ok (.if_icmp .gt 6, 3) := by decide +kernel
theorem dX4_markAdded_54 : decode cX4_markAdded 54 = .ok (.bipush (-2), 2) := by decide +kernel
theorem dX4_markAdded_56 : decode cX4_markAdded 56 = .ok (.ireturn, 1) := by decide +kernel
theorem dX4_markAdded_57 : decode cX4_markAdded 57 = .ok (.iload 4, 2) := by decide +kernel
theorem dX4_markAdded_59 : decode cX4_markAdded 59 = .ok (.bipush 6, 2) := by decide +kernel
theorem dX4_markAdded_61 : decode cX4_markAdded 61 = .ok (.if_icmp .lt 6, 3) := by decide +kernel
theorem dX4_markAdded_64 : decode cX4_markAdded 64 = .ok (.bipush (-4), 2) := by decide +kernel
theorem dX4_markAdded_66 : decode cX4_markAdded 66 = .ok (.ireturn, 1) := by decide +kernel
theorem dX4_markAdded_67 : decode cX4_markAdded 67 = .ok (.aload_n 0, 1) := by decide +kernel
theorem dX4_markAdded_68 : decode cX4_markAdded 68 = .ok (.getfield 55, 3) := by decide +kernel
theorem dX4_markAdded_71 : decode cX4_markAdded 71 = .ok (.iload_n 1, 1) := by decide +kernel
theorem dX4_markAdded_72 : decode cX4_markAdded 72 = .ok (.aaload, 1) := by decide +kernel
theorem dX4_markAdded_73 : decode cX4_markAdded 73 = .ok (.iload 4, 2) := by decide +kernel
theorem dX4_markAdded_75 : decode cX4_markAdded 75 = .ok (.iload_n 2, 1) := by decide +kernel
theorem dX4_markAdded_76 : decode cX4_markAdded 76 = .ok (.iastore, 1) := by decide +kernel
theorem dX4_markAdded_77 : decode cX4_markAdded 77 = .ok (.aload_n 0, 1) := by decide +kernel
theorem dX4_markAdded_78 : decode cX4_markAdded 78 = .ok (.getfield 58, 3) := by decide +kernel
theorem dX4_markAdded_81 : decode cX4_markAdded 81 = .ok (.iload_n 1, 1) := by decide +kernel
theorem dX4_markAdded_82 : decode cX4_markAdded 82 = .ok (.aaload, 1) := by decide +kernel
theorem dX4_markAdded_83 : decode cX4_markAdded 83 = .ok (.iload 4, 2) := by decide +kernel
theorem dX4_markAdded_85 : decode cX4_markAdded 85 = .ok (.iload_n 3, 1) := by decide +kernel
theorem dX4_markAdded_86 : decode cX4_markAdded 86 = .ok (.iastore, 1) := by decide +kernel
theorem dX4_markAdded_87 : decode cX4_markAdded 87 = .ok (.aload_n 0, 1) := by decide +kernel
theorem dX4_markAdded_88 : decode cX4_markAdded 88 = .ok (.getfield 61, 3) := by decide +kernel
theorem dX4_markAdded_91 : decode cX4_markAdded 91 = .ok (.iload_n 1, 1) := by decide +kernel
theorem dX4_markAdded_92 : decode cX4_markAdded 92 = .ok (.iload 4, 2) := by decide +kernel
theorem dX4_markAdded_94 : decode cX4_markAdded 94 = .ok (.iconst 1, 1) := by decide +kernel
theorem dX4_markAdded_95 : decode cX4_markAdded 95 = .ok (.iadd, 1) := by decide +kernel
theorem dX4_markAdded_96 : decode cX4_markAdded 96 = .ok (.iastore, 1) := by decide +kernel
theorem dX4_markAdded_97 : decode cX4_markAdded 97 = .ok (.iload 4, 2) := by decide +kernel
theorem dX4_markAdded_99 : decode cX4_markAdded 99 = .ok (.iconst 1, 1) := by decide +kernel
theorem dX4_markAdded_100 : decode cX4_markAdded 100 = .ok (.iadd, 1) := by decide +kernel
theorem dX4_markAdded_101 : decode cX4_markAdded 101 = .ok (.ireturn, 1) := by decide +kernel
theorem dX4_marksGone_0 : decode cX4_marksGone 0 = .ok (.aload_n 0, 1) := by decide +kernel
theorem dX4_marksGone_1 : decode cX4_marksGone 1 = .ok (.getfield 61, 3) := by decide +kernel
theorem dX4_marksGone_4 : decode cX4_marksGone 4 = .ok (.iload_n 1, 1) := by decide +kernel
theorem dX4_marksGone_5 : decode cX4_marksGone 5 = .ok (.iaload, 1) := by decide +kernel
theorem dX4_marksGone_6 : decode cX4_marksGone 6 = .ok (.istore_n 2, 1) := by decide +kernel
theorem dX4_marksGone_7 : decode cX4_marksGone 7 = .ok (.aload_n 0, 1) := by decide +kernel
theorem dX4_marksGone_8 : decode cX4_marksGone 8 = .ok (.getfield 61, 3) := by decide +kernel
theorem dX4_marksGone_11 : decode cX4_marksGone 11 = .ok (.iload_n 1, 1) := by decide +kernel
theorem dX4_marksGone_12 : decode cX4_marksGone 12 = .ok (.iconst 0, 1) := by decide +kernel
theorem dX4_marksGone_13 : decode cX4_marksGone 13 = .ok (.iastore, 1) := by decide +kernel
theorem dX4_marksGone_14 : decode cX4_marksGone 14 = .ok (.iload_n 2, 1) := by decide +kernel
theorem dX4_marksGone_15 : decode cX4_marksGone 15 = .ok (.ireturn, 1) := by decide +kernel
theorem dX4_hasWish_0 : decode cX4_hasWish 0 = .ok (.aload_n 0, 1) := by decide +kernel
theorem dX4_hasWish_1 : decode cX4_hasWish 1 = .ok (.getfield 61, 3) := by decide +kernel
theorem dX4_hasWish_4 : decode cX4_hasWish 4 = .ok (.iload_n 1, 1) := by decide +kernel
theorem dX4_hasWish_5 : decode cX4_hasWish 5 = .ok (.iaload, 1) := by decide +kernel
theorem dX4_hasWish_6 : decode cX4_hasWish 6 = .ok (.ifCond .le 7, 3) := by decide +kernel
theorem dX4_hasWish_9 : decode cX4_hasWish 9 = .ok (.iconst 1, 1) := by decide +kernel
theorem dX4_hasWish_10 : decode cX4_hasWish 10 = .ok (.goto 4, 3) := by decide +kernel
theorem dX4_hasWish_13 : decode cX4_hasWish 13 = .ok (.iconst 0, 1) := by decide +kernel
theorem dX4_hasWish_14 : decode cX4_hasWish 14 = .ok (.ireturn, 1) := by decide +kernel
theorem dX4_wishAt_0 : decode cX4_wishAt 0 = .ok (.aload_n 0, 1) := by decide +kernel
theorem dX4_wishAt_1 : decode cX4_wishAt 1 = .ok (.getfield 61, 3) := by decide +kernel
theorem dX4_wishAt_4 : decode cX4_wishAt 4 = .ok (.iload_n 1, 1) := by decide +kernel
theorem dX4_wishAt_5 : decode cX4_wishAt 5 = .ok (.iaload, 1) := by decide +kernel
theorem dX4_wishAt_6 : decode cX4_wishAt 6 = .ok (.istore_n 3, 1) := by decide +kernel
theorem dX4_wishAt_7 : decode cX4_wishAt 7 = .ok (.iload_n 3, 1) := by decide +kernel
theorem dX4_wishAt_8 : decode cX4_wishAt 8 = .ok (.iconst 1, 1) := by decide +kernel
theorem dX4_wishAt_9 : decode cX4_wishAt 9 = .ok (.if_icmp .ge 5, 3) := by decide +kernel
theorem dX4_wishAt_12 : decode cX4_wishAt 12 = .ok (.iconst 0, 1) := by decide +kernel
theorem dX4_wishAt_13 : decode cX4_wishAt 13 = .ok (.ireturn, 1) := by decide +kernel
theorem dX4_wishAt_14 : decode cX4_wishAt 14 = .ok (.iconst 0, 1) := by decide +kernel
theorem dX4_wishAt_15 : decode cX4_wishAt 15 = .ok (.istore 4, 2) := by decide +kernel
theorem dX4_wishAt_17 : decode cX4_wishAt 17 = .ok (.iload 4, 2) := by decide +kernel
theorem dX4_wishAt_19 : decode cX4_wishAt 19 = .ok (.iload_n 3, 1) := by decide +kernel
theorem dX4_wishAt_20 : decode cX4_wishAt 20 = .ok (.if_icmp .ge 22, 3) := by decide +kernel
theorem dX4_wishAt_23 : decode cX4_wishAt 23 = .ok (.aload_n 0, 1) := by decide +kernel
theorem dX4_wishAt_24 : decode cX4_wishAt 24 = .ok (.getfield 55, 3) := by decide +kernel
theorem dX4_wishAt_27 : decode cX4_wishAt 27 = .ok (.iload_n 1, 1) := by decide +kernel
theorem dX4_wishAt_28 : decode cX4_wishAt 28 = .ok (.aaload, 1) := by decide +kernel
theorem dX4_wishAt_29 : decode cX4_wishAt 29 = .ok (.iload 4, 2) := by decide +kernel
theorem dX4_wishAt_31 : decode cX4_wishAt 31 = .ok (.iaload, 1) := by decide +kernel
theorem dX4_wishAt_32 : decode cX4_wishAt 32 = .ok (.iload_n 2, 1) := by decide +kernel
theorem dX4_wishAt_33 : decode cX4_wishAt 33 = .ok (.if_icmp .gt 9, 3) := by decide +kernel
theorem dX4_wishAt_36 : decode cX4_wishAt 36 = .ok (.iinc 4 1, 3) := by decide +kernel
theorem dX4_wishAt_39 : decode cX4_wishAt 39 = .ok (.goto (-22), 3) := by decide +kernel
theorem dX4_wishAt_42 : decode cX4_wishAt 42 = .ok (.iload 4, 2) := by decide +kernel
theorem dX4_wishAt_44 : decode cX4_wishAt 44 = .ok (.ifCond .ne 9, 3) := by decide +kernel
theorem dX4_wishAt_47 : decode cX4_wishAt 47 = .ok (.iload_n 3, 1) := by decide +kernel
theorem dX4_wishAt_48 : decode cX4_wishAt 48 = .ok (.iconst 1, 1) := by decide +kernel
theorem dX4_wishAt_49 : decode cX4_wishAt 49 = .ok (.isub, 1) := by decide +kernel
theorem dX4_wishAt_50 : decode cX4_wishAt 50 = .ok (.goto 7, 3) := by decide +kernel
theorem dX4_wishAt_53 : decode cX4_wishAt 53 = .ok (.iload 4, 2) := by decide +kernel
theorem dX4_wishAt_55 : decode cX4_wishAt 55 = .ok (.iconst 1, 1) := by decide +kernel
theorem dX4_wishAt_56 : decode cX4_wishAt 56 = .ok (.isub, 1) := by decide +kernel
theorem dX4_wishAt_57 : decode cX4_wishAt 57 = .ok (.istore 5, 2) := by decide +kernel
theorem dX4_wishAt_59 : decode cX4_wishAt 59 = .ok (.iload 4, 2) := by decide +kernel
theorem dX4_wishAt_61 : decode cX4_wishAt 61 = .ok (.iload_n 3, 1) := by decide +kernel
theorem dX4_wishAt_62 : decode cX4_wishAt 62 = .ok (.if_icmp .ne 7, 3) := by decide +kernel
theorem dX4_wishAt_65 : decode cX4_wishAt 65 = .ok (.iconst 0, 1) := by decide +kernel
theorem dX4_wishAt_66 : decode cX4_wishAt 66 = .ok (.goto 5, 3) := by decide +kernel
theorem dX4_wishAt_69 : decode cX4_wishAt 69 = .ok (.iload 4, 2) := by decide +kernel
theorem dX4_wishAt_71 : decode cX4_wishAt 71 = .ok (.istore 6, 2) := by decide +kernel
theorem dX4_wishAt_73 : decode cX4_wishAt 73 = .ok (.aload_n 0, 1) := by decide +kernel
theorem dX4_wishAt_74 : decode cX4_wishAt 74 = .ok (.getfield 55, 3) := by decide +kernel
theorem dX4_wishAt_77 : decode cX4_wishAt 77 = .ok (.iload_n 1, 1) := by decide +kernel
theorem dX4_wishAt_78 : decode cX4_wishAt 78 = .ok (.aaload, 1) := by decide +kernel
theorem dX4_wishAt_79 : decode cX4_wishAt 79 = .ok (.iload 5, 2) := by decide +kernel
theorem dX4_wishAt_81 : decode cX4_wishAt 81 = .ok (.iaload, 1) := by decide +kernel
theorem dX4_wishAt_82 : decode cX4_wishAt 82 = .ok (.iload 4, 2) := by decide +kernel
theorem dX4_wishAt_84 : decode cX4_wishAt 84 = .ok (.ifCond .ne 9, 3) := by decide +kernel
theorem dX4_wishAt_87 : decode cX4_wishAt 87 = .ok (.sipush 1440, 3) := by decide +kernel
theorem dX4_wishAt_90 : decode cX4_wishAt 90 = .ok (.goto 4, 3) := by decide +kernel
theorem dX4_wishAt_93 : decode cX4_wishAt 93 = .ok (.iconst 0, 1) := by decide +kernel
theorem dX4_wishAt_94 : decode cX4_wishAt 94 = .ok (.isub, 1) := by decide +kernel
theorem dX4_wishAt_95 : decode cX4_wishAt 95 = .ok (.istore 7, 2) := by decide +kernel
theorem dX4_wishAt_97 : decode cX4_wishAt 97 = .ok (.aload_n 0, 1) := by decide +kernel
theorem dX4_wishAt_98 : decode cX4_wishAt 98 = .ok (.getfield 55, 3) := by decide +kernel
theorem dX4_wishAt_101 : decode cX4_wishAt 101 = .ok (.iload_n 1, 1) := by decide +kernel
theorem dX4_wishAt_102 : decode cX4_wishAt 102 = .ok (.aaload, 1) := by decide +kernel
theorem dX4_wishAt_103 : decode cX4_wishAt 103 = .ok (.iload 6, 2) := by decide +kernel
theorem dX4_wishAt_105 : decode cX4_wishAt 105 = .ok (.iaload, 1) := by decide +kernel
theorem dX4_wishAt_106 : decode cX4_wishAt 106 = .ok (.iload 4, 2) := by decide +kernel
theorem dX4_wishAt_108 : decode cX4_wishAt 108 = .ok (.iload_n 3, 1) := by decide +kernel
theorem dX4_wishAt_109 : decode cX4_wishAt 109 = .ok (.if_icmp .ne 9, 3) := by decide +kernel
theorem dX4_wishAt_112 : decode cX4_wishAt 112 = .ok (.sipush 1440, 3) := by decide +kernel
theorem dX4_wishAt_115 : decode cX4_wishAt 115 = .ok (.goto 4, 3) := by decide +kernel
theorem dX4_wishAt_118 : decode cX4_wishAt 118 = .ok (.iconst 0, 1) := by decide +kernel
theorem dX4_wishAt_119 : decode cX4_wishAt 119 = .ok (.iadd, 1) := by decide +kernel
theorem dX4_wishAt_120 : decode cX4_wishAt 120 = .ok (.istore 8, 2) := by decide +kernel
theorem dX4_wishAt_122 : decode cX4_wishAt 122 = .ok (.iload 8, 2) := by decide +kernel
theorem dX4_wishAt_124 : decode cX4_wishAt 124 = .ok (.iload 7, 2) := by decide +kernel
theorem dX4_wishAt_126 : decode cX4_wishAt 126 = .ok (.if_icmp .gt 13, 3) := by decide +kernel
theorem dX4_wishAt_129 : decode cX4_wishAt 129 = .ok (.aload_n 0, 1) := by decide +kernel
theorem dX4_wishAt_130 : decode cX4_wishAt 130 = .ok (.getfield 58, 3) := by decide +kernel
theorem dX4_wishAt_133 : decode cX4_wishAt 133 = .ok (.iload_n 1, 1) := by decide +kernel
theorem dX4_wishAt_134 : decode cX4_wishAt 134 = .ok (.aaload, 1) := by decide +kernel
theorem dX4_wishAt_135 : decode cX4_wishAt 135 = .ok (.iload 5, 2) := by decide +kernel
theorem dX4_wishAt_137 : decode cX4_wishAt 137 = .ok (.iaload, 1) := by decide +kernel
theorem dX4_wishAt_138 : decode cX4_wishAt 138 = .ok (.ireturn, 1) := by decide +kernel
theorem dX4_wishAt_139 : decode cX4_wishAt 139 = .ok (.aload_n 0, 1) := by decide +kernel
theorem dX4_wishAt_140 : decode cX4_wishAt 140 = .ok (.getfield 58, 3) := by decide +kernel
theorem dX4_wishAt_143 : decode cX4_wishAt 143 = .ok (.iload_n 1, 1) := by decide +kernel
theorem dX4_wishAt_144 : decode cX4_wishAt 144 = .ok (.aaload, 1) := by decide +kernel
theorem dX4_wishAt_145 : decode cX4_wishAt 145 = .ok (.iload 6, 2) := by decide +kernel
theorem dX4_wishAt_147 : decode cX4_wishAt 147 = .ok (.iaload, 1) := by decide +kernel
theorem dX4_wishAt_148 : decode cX4_wishAt 148 = .ok (.i2l, 1) := by decide +kernel
theorem dX4_wishAt_149 : decode cX4_wishAt 149 = .ok (.aload_n 0, 1) := by decide +kernel
theorem dX4_wishAt_150 : decode cX4_wishAt 150 = .ok (.getfield 58, 3) := by decide +kernel
theorem dX4_wishAt_153 : decode cX4_wishAt 153 = .ok (.iload_n 1, 1) := by decide +kernel
theorem dX4_wishAt_154 : decode cX4_wishAt 154 = .ok (.aaload, 1) := by decide +kernel
theorem dX4_wishAt_155 : decode cX4_wishAt 155 = .ok (.iload 5, 2) := by decide +kernel
theorem dX4_wishAt_157 : decode cX4_wishAt 157 = .ok (.iaload, 1) := by decide +kernel
theorem dX4_wishAt_158 : decode cX4_wishAt 158 = .ok (.i2l, 1) := by decide +kernel
theorem dX4_wishAt_159 : decode cX4_wishAt 159 = .ok (.lsub, 1) := by decide +kernel
theorem dX4_wishAt_160 : decode cX4_wishAt 160 = .ok (.lstore 9, 2) := by decide +kernel
theorem dX4_wishAt_162 : decode cX4_wishAt 162 = .ok (.aload_n 0, 1) := by decide +kernel
theorem dX4_wishAt_163 : decode cX4_wishAt 163 = .ok (.getfield 58, 3) := by decide +kernel
theorem dX4_wishAt_166 : decode cX4_wishAt 166 = .ok (.iload_n 1, 1) := by decide +kernel
theorem dX4_wishAt_167 : decode cX4_wishAt 167 = .ok (.aaload, 1) := by decide +kernel
theorem dX4_wishAt_168 : decode cX4_wishAt 168 = .ok (.iload 5, 2) := by decide +kernel
theorem dX4_wishAt_170 : decode cX4_wishAt 170 = .ok (.iaload, 1) := by decide +kernel
theorem dX4_wishAt_171 : decode cX4_wishAt 171 = .ok (.i2l, 1) := by decide +kernel
theorem dX4_wishAt_172 : decode cX4_wishAt 172 = .ok (.lload 9, 2) := by decide +kernel
theorem dX4_wishAt_174 : decode cX4_wishAt 174 = .ok (.iload_n 2, 1) := by decide +kernel
theorem dX4_wishAt_175 : decode cX4_wishAt 175 = .ok (.iload 7, 2) := by decide +kernel
theorem dX4_wishAt_177 : decode cX4_wishAt 177 = .ok (.isub, 1) := by decide +kernel
theorem dX4_wishAt_178 : decode cX4_wishAt 178 = .ok (.i2l, 1) := by decide +kernel
theorem dX4_wishAt_179 : decode cX4_wishAt 179 = .ok (.lmul, 1) := by decide +kernel
theorem dX4_wishAt_180 : decode cX4_wishAt 180 = .ok (.iload 8, 2) := by decide +kernel
theorem dX4_wishAt_182 : decode cX4_wishAt 182 = .ok (.iload 7, 2) := by decide +kernel
theorem dX4_wishAt_184 : decode cX4_wishAt 184 = .ok (.isub, 1) := by decide +kernel
theorem dX4_wishAt_185 : decode cX4_wishAt 185 = .ok (.i2l, 1) := by decide +kernel
theorem dX4_wishAt_186 : decode cX4_wishAt 186 = .ok (.invokestatic 101, 3) := by decide +kernel
theorem dX4_wishAt_189 : decode cX4_wishAt 189 = .ok (.ladd, 1) := by decide +kernel
theorem dX4_wishAt_190 : decode cX4_wishAt 190 = .ok (.l2i, 1) := by decide +kernel
theorem dX4_wishAt_191 : decode cX4_wishAt 191 = .ok (.ireturn, 1) := by decide +kernel
theorem dX4_vote_0 : decode cX4_vote 0 = .ok (.aload_n 0, 1) := by decide +kernel
theorem dX4_vote_1 : decode cX4_vote 1 = .ok (.iload_n 1, 1) := by decide +kernel
theorem dX4_vote_2 : decode cX4_vote 2 = .ok (.invokevirtual 107, 3) := by decide +kernel
theorem dX4_vote_5 : decode cX4_vote 5 = .ok (.istore_n 2, 1) := by decide +kernel
theorem dX4_vote_6 : decode cX4_vote 6 = .ok (.aload_n 0, 1) := by decide +kernel
theorem dX4_vote_7 : decode cX4_vote 7 = .ok (.getfield 34, 3) := by decide +kernel
theorem dX4_vote_10 : decode cX4_vote 10 = .ok (.iload_n 1, 1) := by decide +kernel
theorem dX4_vote_11 : decode cX4_vote 11 = .ok (.aload_n 0, 1) := by decide +kernel
theorem dX4_vote_12 : decode cX4_vote 12 = .ok (.iload_n 1, 1) := by decide +kernel
theorem dX4_vote_13 : decode cX4_vote 13 = .ok (.invokevirtual 111, 3) := by decide +kernel
theorem dX4_vote_16 : decode cX4_vote 16 = .ok (.lastore, 1) := by decide +kernel
theorem dX4_vote_17 : decode cX4_vote 17 = .ok (.aload_n 0, 1) := by decide +kernel
theorem dX4_vote_18 : decode cX4_vote 18 = .ok (.getfield 34, 3) := by decide +kernel
theorem dX4_vote_21 : decode cX4_vote 21 = .ok (.iload_n 1, 1) := by decide +kernel
theorem dX4_vote_22 : decode cX4_vote 22 = .ok (.laload, 1) := by decide +kernel
theorem dX4_vote_23 : decode cX4_vote 23 = .ok (.invokestatic 70, 3) := by decide +kernel
theorem dX4_vote_26 : decode cX4_vote 26 = .ok (.ifCond .eq 16, 3) := by decide +kernel
theorem dX4_vote_29 : decode cX4_vote 29 = .ok (.aload_n 0, 1) := by decide +kernel
theorem dX4_vote_30 : decode cX4_vote 30 = .ok (.iload_n 1, 1) := by decide +kernel
theorem dX4_vote_31 : decode cX4_vote 31 = .ok (.invokevirtual 115, 3) := by decide +kernel
theorem dX4_vote_34 : decode cX4_vote 34 = .ok (.iconst 3, 1) := by decide +kernel
theorem dX4_vote_35 : decode cX4_vote 35 = .ok (.if_icmp .lt 7, 3) := by decide +kernel
theorem dX4_vote_38 : decode cX4_vote 38 = .ok (.iconst 1, 1) := by decide +kernel
theorem dX4_vote_39 : decode cX4_vote 39 = .ok (.goto 4, 3) := by decide +kernel
theorem dX4_vote_42 : decode cX4_vote 42 = .ok (.iconst 0, 1) := by decide +kernel
theorem dX4_vote_43 : decode cX4_vote 43 = .ok (.istore_n 3, 1) := by decide +kernel
theorem dX4_vote_44 : decode cX4_vote 44 = .ok (.aload_n 0, 1) := by decide +kernel
theorem dX4_vote_45 : decode cX4_vote 45 = .ok (.iload_n 1, 1) := by decide +kernel
theorem dX4_vote_46 : decode cX4_vote 46 = .ok (.invokevirtual 119, 3) := by decide +kernel
theorem dX4_vote_49 : decode cX4_vote 49 = .ok (.dstore 4, 2) := by decide +kernel
theorem dX4_vote_51 : decode cX4_vote 51 = .ok (.iload_n 1, 1) := by decide +kernel
theorem dX4_vote_52 : decode cX4_vote 52 = .ok (.istore 6, 2) := by decide +kernel
theorem dX4_vote_54 : decode cX4_vote 54 = .ok (.iload 6, 2) := by decide +kernel
theorem dX4_vote_56 : decode cX4_vote 56 = .ok (.bipush 9, 2) := by decide +kernel
theorem dX4_vote_58 : decode cX4_vote 58 = .ok (.if_icmp .ge 52, 3) := by decide +kernel
theorem dX4_vote_61 : decode cX4_vote 61 = .ok (.aload_n 0, 1) := by decide +kernel
theorem dX4_vote_62 : decode cX4_vote 62 = .ok (.iload 6, 2) := by decide +kernel
theorem dX4_vote_64 : decode cX4_vote 64 = .ok (.iload_n 3, 1) := by decide +kernel
theorem dX4_vote_65 : decode cX4_vote 65 = .ok (.ifCond .eq 20, 3) := by decide +kernel
theorem dX4_vote_68 : decode cX4_vote 68 = .ok (.aload_n 0, 1) := by decide +kernel
theorem dX4_vote_69 : decode cX4_vote 69 = .ok (.getfield 23, 3) := by decide +kernel
theorem dX4_vote_72 : decode cX4_vote 72 = .ok (.iload 6, 2) := by decide +kernel
theorem dX4_vote_74 : decode cX4_vote 74 = .ok (.laload, 1) := by decide +kernel
theorem dX4_vote_75 : decode cX4_vote 75 = .ok (.invokestatic 70, 3) := by decide +kernel
theorem dX4_vote_78 : decode cX4_vote 78 = .ok (.ifCond .eq 7, 3) := by decide +kernel
theorem dX4_vote_81 : decode cX4_vote 81 = .ok (.iconst 1, 1) := by decide +kernel
theorem dX4_vote_82 : decode cX4_vote 82 = .ok (.goto 4, 3) := by decide +kernel
theorem dX4_vote_85 : decode cX4_vote 85 = .ok (.iconst 0, 1) := by decide +kernel
theorem dX4_vote_86 : decode cX4_vote 86 = .ok (.aload_n 0, 1) := by decide +kernel
theorem dX4_vote_87 : decode cX4_vote 87 = .ok (.getfield 34, 3) := by decide +kernel
theorem dX4_vote_90 : decode cX4_vote 90 = .ok (.iload_n 1, 1) := by decide +kernel
theorem dX4_vote_91 : decode cX4_vote 91 = .ok (.laload, 1) := by decide +kernel
theorem dX4_vote_92 : decode cX4_vote 92 = .ok (.dload 4, 2) := by decide +kernel
theorem dX4_vote_94 : decode cX4_vote 94 = .ok (.invokevirtual 123, 3) := by decide +kernel
theorem dX4_vote_97 : decode cX4_vote 97 = .ok (.aload_n 0, 1) := by decide +kernel
theorem dX4_vote_98 : decode cX4_vote 98 = .ok (.iload 6, 2) := by decide +kernel
theorem dX4_vote_100 : decode cX4_vote 100 = .ok (.iload_n 2, 1) := by decide +kernel
theorem dX4_vote_101 : decode cX4_vote 101 = .ok (.invokevirtual 127, 3) := by decide +kernel
theorem dX4_vote_104 : decode cX4_vote 104 = .ok (.iinc 6 3, 3) := by decide +kernel
theorem dX4_vote_107 : decode cX4_vote 107 = .ok (.goto (-53), 3) := by decide +kernel
theorem dX4_vote_110 : decode cX4_vote 110 = .ok (.return_, 1) := by decide +kernel
theorem dX4_countSame_0 : decode cX4_countSame 0 = .ok (.iconst 0, 1) := by decide +kernel
theorem dX4_countSame_1 : decode cX4_countSame 1 = .ok (.istore_n 2, 1) := by decide +kernel
theorem dX4_countSame_2 : decode cX4_countSame 2 = .ok (.iload_n 1, 1) := by decide +kernel
theorem dX4_countSame_3 : decode cX4_countSame 3 = .ok (.istore_n 3, 1) := by decide +kernel
theorem dX4_countSame_4 : decode cX4_countSame 4 = .ok (.iload_n 3, 1) := by decide +kernel
theorem dX4_countSame_5 : decode cX4_countSame 5 = .ok (.bipush 9, 2) := by decide +kernel
theorem dX4_countSame_7 : decode cX4_countSame 7 = .ok (.if_icmp .ge 114, 3) := by decide +kernel
theorem dX4_countSame_10 : decode cX4_countSame 10 = .ok (.aload_n 0, 1) := by decide +kernel
theorem dX4_countSame_11 : decode cX4_countSame 11 = .ok (.getfield 20, 3) := by decide +kernel
theorem dX4_countSame_14 : decode cX4_countSame 14 = .ok (.iload_n 3, 1) := by decide +kernel
theorem dX4_countSame_15 : decode cX4_countSame 15 = .ok (.aaload, 1) := by decide +kernel
theorem dX4_countSame_16 : decode cX4_countSame 16 = .ok (.iconst 4, 1) := by decide +kernel
theorem dX4_countSame_17 : decode cX4_countSame 17 = .ok (.iaload, 1) := by decide +kernel
theorem dX4_countSame_18 : decode cX4_countSame 18 = .ok (.ifCond .ne 7, 3) := by decide +kernel
theorem dX4_countSame_21 : decode cX4_countSame 21 = .ok (.iconst 1, 1) := by decide +kernel
theorem dX4_countSame_22 : decode cX4_countSame 22 = .ok (.goto 4, 3) := by decide +kernel
theorem dX4_countSame_25 : decode cX4_countSame 25 = .ok (.iconst 0, 1) := by decide +kernel
theorem dX4_countSame_26 : decode cX4_countSame 26 = .ok (.istore 4, 2) := by decide +kernel
theorem dX4_countSame_28 : decode cX4_countSame 28 = .ok (.iload 4, 2) := by decide +kernel
theorem dX4_countSame_30 : decode cX4_countSame 30 = .ok (.ifCond .ne 23, 3) := by decide +kernel
theorem dX4_countSame_33 : decode cX4_countSame 33 = .ok (.aload_n 0, 1) := by decide +kernel
theorem dX4_countSame_34 : decode cX4_countSame 34 = .ok (.getfield 23, 3) := by decide +kernel
theorem dX4_countSame_37 : decode cX4_countSame 37 = .ok (.iload_n 3, 1) := by decide +kernel
theorem dX4_countSame_38 : decode cX4_countSame 38 = .ok (.laload, 1) := by decide +kernel
theorem dX4_countSame_39 : decode cX4_countSame 39 = .ok (.aload_n 0, 1) := by decide +kernel
theorem dX4_countSame_40 : decode cX4_countSame 40 = .ok (.getfield 31, 3) := by decide +kernel
theorem dX4_countSame_43 : decode cX4_countSame 43 = .ok (.iload_n 3, 1) := by decide +kernel
theorem dX4_countSame_44 : decode cX4_countSame 44 = .ok (.laload, 1) := by decide +kernel
theorem dX4_countSame_45 : decode cX4_countSame 45 = .ok (.lcmp, 1) := by decide +kernel
theorem dX4_countSame_46 : decode cX4_countSame 46 = .ok (.ifCond .ne 7, 3) := by decide +kernel
theorem dX4_countSame_49 : decode cX4_countSame 49 = .ok (.iconst 1, 1) := by decide +kernel
theorem dX4_countSame_50 : decode cX4_countSame 50 = .ok (.goto 4, 3) := by decide +kernel
theorem dX4_countSame_53 : decode cX4_countSame 53 = .ok (.iconst 0, 1) := by decide +kernel
theorem dX4_countSame_54 : decode cX4_countSame 54 = .ok (.istore 5, 2) := by decide +kernel
theorem dX4_countSame_56 : decode cX4_countSame 56 = .ok (.iload_n 2, 1) := by decide +kernel
theorem dX4_countSame_57 : decode cX4_countSame 57 = .ok (.ifCond .ne 13, 3) := by decide +kernel
theorem dX4_countSame_60 : decode cX4_countSame 60 = .ok (.iload 4, 2) := by decide +kernel
theorem dX4_countSame_62 : decode cX4_countSame 62 = .ok (.ifCond .ne 12, 3) := by decide +kernel
theorem dX4_countSame_65 : decode cX4_countSame 65 = .ok (.iload 5, 2) := by decide +kernel
theorem dX4_countSame_67 : decode cX4_countSame 67 = .ok (.ifCond .ne 7, 3) := by decide +kernel
theorem dX4_countSame_70 : decode cX4_countSame 70 = .ok (.iconst 1, 1) := by decide +kernel
theorem dX4_countSame_71 : decode cX4_countSame 71 = .ok (.goto 4, 3) := by decide +kernel
theorem dX4_countSame_74 : decode cX4_countSame 74 = .ok (.iconst 0, 1) := by decide +kernel
theorem dX4_countSame_75 : decode cX4_countSame 75 = .ok (.istore_n 2, 1) := by decide +kernel
theorem dX4_countSame_76 : decode cX4_countSame 76 = .ok (.aload_n 0, 1) := by decide +kernel
theorem dX4_countSame_77 : decode cX4_countSame 77 = .ok (.getfield 20, 3) := by decide +kernel
theorem dX4_countSame_80 : decode cX4_countSame 80 = .ok (.iload_n 3, 1) := by decide +kernel
theorem dX4_countSame_81 : decode cX4_countSame 81 = .ok (.aaload, 1) := by decide +kernel
theorem dX4_countSame_82 : decode cX4_countSame 82 = .ok (.iconst 4, 1) := by decide +kernel
theorem dX4_countSame_83 : decode cX4_countSame 83 = .ok (.iload 5, 2) := by decide +kernel
theorem dX4_countSame_85 : decode cX4_countSame 85 = .ok (.ifCond .eq 16, 3) := by decide +kernel
theorem dX4_countSame_88 : decode cX4_countSame 88 = .ok (.aload_n 0, 1) := by decide +kernel
theorem dX4_countSame_89 : decode cX4_countSame 89 = .ok (.getfield 20, 3) := by decide +kernel
theorem dX4_countSame_92 : decode cX4_countSame 92 = .ok (.iload_n 3, 1) := by decide +kernel
theorem dX4_countSame_93 : decode cX4_countSame 93 = .ok (.aaload, 1) := by decide +kernel
theorem dX4_countSame_94 : decode cX4_countSame 94 = .ok (.iconst 4, 1) := by decide +kernel
theorem dX4_countSame_95 : decode cX4_countSame 95 = .ok (.iaload, 1) := by decide +kernel
theorem dX4_countSame_96 : decode cX4_countSame 96 = .ok (.iconst 1, 1) := by decide +kernel
theorem dX4_countSame_97 : decode cX4_countSame 97 = .ok (.iadd, 1) := by decide +kernel
theorem dX4_countSame_98 : decode cX4_countSame 98 = .ok (.goto 4, 3) := by decide +kernel
theorem dX4_countSame_101 : decode cX4_countSame 101 = .ok (.iconst 1, 1) := by decide +kernel
theorem dX4_countSame_102 : decode cX4_countSame 102 = .ok (.iastore, 1) := by decide +kernel
theorem dX4_countSame_103 : decode cX4_countSame 103 = .ok (.aload_n 0, 1) := by decide +kernel
theorem dX4_countSame_104 : decode cX4_countSame 104 = .ok (.getfield 31, 3) := by decide +kernel
theorem dX4_countSame_107 : decode cX4_countSame 107 = .ok (.iload_n 3, 1) := by decide +kernel
theorem dX4_countSame_108 : decode cX4_countSame 108 = .ok (.aload_n 0, 1) := by decide +kernel
theorem dX4_countSame_109 : decode cX4_countSame 109 = .ok (.getfield 23, 3) := by decide +kernel
theorem dX4_countSame_112 : decode cX4_countSame 112 = .ok (.iload_n 3, 1) := by decide +kernel
theorem dX4_countSame_113 : decode cX4_countSame 113 = .ok (.laload, 1) := by decide +kernel
theorem dX4_countSame_114 : decode cX4_countSame 114 = .ok (.lastore, 1) := by decide +kernel
theorem dX4_countSame_115 : decode cX4_countSame 115 = .ok (.iinc 3 3, 3) := by decide +kernel
theorem dX4_countSame_118 : decode cX4_countSame 118 = .ok (.goto (-114), 3) := by decide +kernel
theorem dX4_countSame_121 : decode cX4_countSame 121 = .ok (.iload_n 2, 1) := by decide +kernel
theorem dX4_countSame_122 : decode cX4_countSame 122 = .ok (.ireturn, 1) := by decide +kernel
theorem dX4_manyReading_0 : decode cX4_manyReading 0 = .ok (.iconst 0, 1) := by decide +kernel
theorem dX4_manyReading_1 : decode cX4_manyReading 1 = .ok (.istore_n 2, 1) := by decide +kernel
theorem dX4_manyReading_2 : decode cX4_manyReading 2 = .ok (.iload_n 1, 1) := by decide +kernel
theorem dX4_manyReading_3 : decode cX4_manyReading 3 = .ok (.istore_n 3, 1) := by decide +kernel
theorem dX4_manyReading_4 : decode cX4_manyReading 4 = .ok (.iload_n 3, 1) := by decide +kernel
theorem dX4_manyReading_5 : decode cX4_manyReading 5 = .ok (.bipush 9, 2) := by decide +kernel
theorem dX4_manyReading_7 : decode cX4_manyReading 7 = .ok (.if_icmp .ge 24, 3) := by decide +kernel
theorem dX4_manyReading_10 : decode cX4_manyReading 10 = .ok (.aload_n 0, 1) := by decide +kernel
theorem dX4_manyReading_11 : decode cX4_manyReading 11 = .ok (.getfield 23, 3) := by decide +kernel
theorem dX4_manyReading_14 : decode cX4_manyReading 14 = .ok (.iload_n 3, 1) := by decide +kernel
theorem dX4_manyReading_15 : decode cX4_manyReading 15 = .ok (.laload, 1) := by decide +kernel
theorem dX4_manyReading_16 : decode cX4_manyReading 16 = .ok (.invokestatic 70, 3) := by decide +kernel
theorem dX4_manyReading_19 : decode cX4_manyReading 19 = .ok (.ifCond .eq 6, 3) := by decide +kernel
theorem dX4_manyReading_22 : decode cX4_manyReading 22 = .ok (.iinc 2 1, 3) := by decide +kernel
theorem dX4_manyReading_25 : decode cX4_manyReading 25 = .ok (.iinc 3 3, 3) := by decide +kernel
theorem dX4_manyReading_28 : decode cX4_manyReading 28 = .ok (.goto (-24), 3) := by decide +kernel
theorem dX4_manyReading_31 : decode cX4_manyReading 31 = .ok (.iload_n 2, 1) := by decide +kernel
theorem dX4_manyReading_32 : decode cX4_manyReading 32 = .ok (.ireturn, 1) := by decide +kernel
theorem dX4_middleOf_0 : decode cX4_middleOf 0 = .ok (.iconst 0, 1) := by decide +kernel
theorem dX4_middleOf_1 : decode cX4_middleOf 1 = .ok (.istore_n 2, 1) := by decide +kernel
theorem dX4_middleOf_2 : decode cX4_middleOf 2 = .ok (.iload_n 1, 1) := by decide +kernel
theorem dX4_middleOf_3 : decode cX4_middleOf 3 = .ok (.istore_n 3, 1) := by decide +kernel
theorem dX4_middleOf_4 : decode cX4_middleOf 4 = .ok (.iload_n 3, 1) := by decide +kernel
theorem dX4_middleOf_5 : decode cX4_middleOf 5 = .ok (.bipush 9, 2) := by decide +kernel
theorem dX4_middleOf_7 : decode cX4_middleOf 7 = .ok (.if_icmp .ge 54, 3) := by decide +kernel
theorem dX4_middleOf_10 : decode cX4_middleOf 10 = .ok (.aload_n 0, 1) := by decide +kernel
theorem dX4_middleOf_11 : decode cX4_middleOf 11 = .ok (.getfield 20, 3) := by decide +kernel
theorem dX4_middleOf_14 : decode cX4_middleOf 14 = .ok (.iload_n 3, 1) := by decide +kernel
theorem dX4_middleOf_15 : decode cX4_middleOf 15 = .ok (.aaload, 1) := by decide +kernel
theorem dX4_middleOf_16 : decode cX4_middleOf 16 = .ok (.iconst 0, 1) := by decide +kernel
theorem dX4_middleOf_17 : decode cX4_middleOf 17 = .ok (.iaload, 1) := by decide +kernel
theorem dX4_middleOf_18 : decode cX4_middleOf 18 = .ok (.iconst 1, 1) := by decide +kernel
theorem dX4_middleOf_19 : decode cX4_middleOf 19 = .ok (.if_icmp .ne 36, 3) := by decide +kernel
theorem dX4_middleOf_22 : decode cX4_middleOf 22 = .ok (.aload_n 0, 1) := by decide +kernel
theorem dX4_middleOf_23 : decode cX4_middleOf 23 = .ok (.getfield 23, 3) := by decide +kernel
theorem dX4_middleOf_26 : decode cX4_middleOf 26 = .ok (.iload_n 3, 1) := by decide +kernel
theorem dX4_middleOf_27 : decode cX4_middleOf 27 = .ok (.laload, 1) := by decide +kernel
theorem dX4_middleOf_28 : decode cX4_middleOf 28 = .ok (.invokestatic 70, 3) := by decide +kernel
theorem dX4_middleOf_31 : decode cX4_middleOf 31 = .ok (.ifCond .eq 24, 3) := by decide +kernel
theorem dX4_middleOf_34 : decode cX4_middleOf 34 = .ok (.iload_n 2, 1) := by decide +kernel
theorem dX4_middleOf_35 : decode cX4_middleOf 35 = .ok (.bipush 9, 2) := by decide +kernel
theorem dX4_middleOf_37 : decode cX4_middleOf 37 = .ok (.if_icmp .ge 18, 3) := by decide +kernel
theorem dX4_middleOf_40 : decode cX4_middleOf 40 = .ok (.aload_n 0, 1) := by decide +kernel
theorem dX4_middleOf_41 : decode cX4_middleOf 41 = .ok (.getfield 37, 3) := by decide +kernel
theorem dX4_middleOf_44 : decode cX4_middleOf 44 = .ok (.iload_n 2, 1) := by decide +kernel
theorem dX4_middleOf_45 : decode cX4_middleOf 45 = .ok (.aload_n 0, 1) := by decide +kernel
theorem dX4_middleOf_46 : decode cX4_middleOf 46 = .ok (.getfield 23, 3) := by decide +kernel
theorem dX4_middleOf_49 : decode cX4_middleOf 49 = .ok (.iload_n 3, 1) := by decide +kernel
theorem dX4_middleOf_50 : decode cX4_middleOf 50 = .ok (.laload, 1) := by decide +kernel
theorem dX4_middleOf_51 : decode cX4_middleOf 51 = .ok (.lastore, 1) := by decide +kernel
theorem dX4_middleOf_52 : decode cX4_middleOf 52 = .ok (.iinc 2 1, 3) := by decide +kernel
theorem dX4_middleOf_55 : decode cX4_middleOf 55 = .ok (.iinc 3 3, 3) := by decide +kernel
theorem dX4_middleOf_58 : decode cX4_middleOf 58 = .ok (.goto (-54), 3) := by decide +kernel
theorem dX4_middleOf_61 : decode cX4_middleOf 61 = .ok (.iload_n 2, 1) := by decide +kernel
theorem dX4_middleOf_62 : decode cX4_middleOf 62 = .ok (.ifCond .ne 7, 3) := by decide +kernel
theorem dX4_middleOf_65 : decode cX4_middleOf 65 = .ok (.ldc2_w 64, 3) := by decide +kernel
theorem dX4_middleOf_68 : decode cX4_middleOf 68 = .ok (.lreturn, 1) := by decide +kernel
theorem dX4_middleOf_69 : decode cX4_middleOf 69 = .ok (.aload_n 0, 1) := by decide +kernel
theorem dX4_middleOf_70 : decode cX4_middleOf 70 = .ok (.getfield 37, 3) := by decide +kernel
theorem dX4_middleOf_73 : decode cX4_middleOf 73 = .ok (.iload_n 2, 1) := by decide +kernel
theorem dX4_middleOf_74 : decode cX4_middleOf 74 = .ok (.invokestatic 131, 3) := by decide +kernel
theorem dX4_middleOf_77 : decode cX4_middleOf 77 = .ok (.aload_n 0, 1) := by decide +kernel
theorem dX4_middleOf_78 : decode cX4_middleOf 78 = .ok (.getfield 37, 3) := by decide +kernel
theorem dX4_middleOf_81 : decode cX4_middleOf 81 = .ok (.iload_n 2, 1) := by decide +kernel
theorem dX4_middleOf_82 : decode cX4_middleOf 82 = .ok (.iconst 1, 1) := by decide +kernel
theorem dX4_middleOf_83 : decode cX4_middleOf 83 = .ok (.isub, 1) := by decide +kernel
theorem dX4_middleOf_84 : decode cX4_middleOf 84 = .ok (.iconst 2, 1) := by decide +kernel
theorem dX4_middleOf_85 : decode cX4_middleOf 85 = .ok (.idiv, 1) := by decide +kernel
theorem dX4_middleOf_86 : decode cX4_middleOf 86 = .ok (.laload, 1) := by decide +kernel
theorem dX4_middleOf_87 : decode cX4_middleOf 87 = .ok (.lreturn, 1) := by decide +kernel
theorem dX4_valueReal_0 : decode cX4_valueReal 0 = .ok (.iload_n 1, 1) := by decide +kernel
theorem dX4_valueReal_1 : decode cX4_valueReal 1 = .ok (.istore_n 2, 1) := by decide +kernel
theorem dX4_valueReal_2 : decode cX4_valueReal 2 = .ok (.iload_n 2, 1) := by decide +kernel
theorem dX4_valueReal_3 : decode cX4_valueReal 3 = .ok (.bipush 9, 2) := by decide +kernel
theorem dX4_valueReal_5 : decode cX4_valueReal 5 = .ok (.if_icmp .ge 32, 3) := by decide +kernel
theorem dX4_valueReal_8 : decode cX4_valueReal 8 = .ok (.aload_n 0, 1) := by decide +kernel
theorem dX4_valueReal_9 : decode cX4_valueReal 9 = .ok (.getfield 23, 3) := by decide +kernel
theorem dX4_valueReal_12 : decode cX4_valueReal 12 = .ok (.iload_n 2, 1) := by decide +kernel
theorem dX4_valueReal_13 : decode cX4_valueReal 13 = .ok (.laload, 1) := by decide +kernel
theorem dX4_valueReal_14 : decode cX4_valueReal 14 = .ok (.aload_n 0, 1) := by decide +kernel
theorem dX4_valueReal_15 : decode cX4_valueReal 15 = .ok (.getfield 34, 3) := by decide +kernel
theorem dX4_valueReal_18 : decode cX4_valueReal 18 = .ok (.iload_n 1, 1) := by decide +kernel
theorem dX4_valueReal_19 : decode cX4_valueReal 19 = .ok (.laload, 1) := by decide +kernel
theorem dX4_valueReal_20 : decode cX4_valueReal 20 = .ok (.lcmp, 1) := by decide +kernel
theorem dX4_valueReal_21 : decode cX4_valueReal 21 = .ok (.ifCond .ne 10, 3) := by decide +kernel
theorem dX4_valueReal_24 : decode cX4_valueReal 24 = .ok (.aload_n 0, 1) := by decide +kernel
theorem dX4_valueReal_25 : decode cX4_valueReal 25 = .ok (.getfield 27, 3) := by decide +kernel
theorem dX4_valueReal_28 : decode cX4_valueReal 28 = .ok (.iload_n 2, 1) := by decide +kernel
theorem dX4_valueReal_29 : decode cX4_valueReal 29 = .ok (.daload, 1) := by decide +kernel
theorem dX4_valueReal_30 : decode cX4_valueReal 30 = .ok (.dreturn, 1) := by decide +kernel
theorem dX4_valueReal_31 : decode cX4_valueReal 31 = .ok (.iinc 2 3, 3) := by decide +kernel
theorem dX4_valueReal_34 : decode cX4_valueReal 34 = .ok (.goto (-32), 3) := by decide +kernel
theorem dX4_valueReal_37 : decode cX4_valueReal 37 = .ok (.dconst 0, 1) := by decide +kernel
theorem dX4_valueReal_38 : decode cX4_valueReal 38 = .ok (.dreturn, 1) := by decide +kernel
theorem dX4_countOff_0 : decode cX4_countOff 0 = .ok (.iload_n 2, 1) := by decide +kernel
theorem dX4_countOff_1 : decode cX4_countOff 1 = .ok (.ifCond .ne 22, 3) := by decide +kernel
theorem dX4_countOff_4 : decode cX4_countOff 4 = .ok (.aload_n 0, 1) := by decide +kernel
theorem dX4_countOff_5 : decode cX4_countOff 5 = .ok (.getfield 20, 3) := by decide +kernel
theorem dX4_countOff_8 : decode cX4_countOff 8 = .ok (.iload_n 1, 1) := by decide +kernel
theorem dX4_countOff_9 : decode cX4_countOff 9 = .ok (.aaload, 1) := by decide +kernel
theorem dX4_countOff_10 : decode cX4_countOff 10 = .ok (.iconst 2, 1) := by decide +kernel
theorem dX4_countOff_11 : decode cX4_countOff 11 = .ok (.iconst 0, 1) := by decide +kernel
theorem dX4_countOff_12 : decode cX4_countOff 12 = .ok (.iastore, 1) := by decide +kernel
theorem dX4_countOff_13 : decode cX4_countOff 13 = .ok (.aload_n 0, 1) := by decide +kernel
theorem dX4_countOff_14 : decode cX4_countOff 14 = .ok (.getfield 20, 3) := by decide +kernel
theorem dX4_countOff_17 : decode cX4_countOff 17 = .ok (.iload_n 1, 1) := by decide +kernel
theorem dX4_countOff_18 : decode cX4_countOff 18 = .ok (.aaload, 1) := by decide +kernel
theorem dX4_countOff_19 : decode cX4_countOff 19 = .ok (.iconst 3, 1) := by decide +kernel
theorem dX4_countOff_20 : decode cX4_countOff 20 = .ok (.iconst 0, 1) := by decide +kernel
theorem dX4_countOff_21 : decode cX4_countOff 21 = .ok (.iastore, 1) := by decide +kernel
theorem dX4_countOff_22 : decode cX4_countOff 22 = .ok (.return_, 1) := by decide +kernel
theorem dX4_countOff_23 : decode cX4_countOff 23 = .ok (.aload_n 0, 1) := by decide +kernel
theorem dX4_countOff_24 : decode cX4_countOff 24 = .ok (.getfield 23, 3) := by decide +kernel
theorem dX4_countOff_27 : decode cX4_countOff 27 = .ok (.iload_n 1, 1) := by decide +kernel
theorem dX4_countOff_28 : decode cX4_countOff 28 = .ok (.laload, 1) := by decide +kernel
theorem dX4_countOff_29 : decode cX4_countOff 29 = .ok (.lload_n 3, 1) := by decide +kernel
theorem dX4_countOff_30 : decode cX4_countOff 30 = .ok (.lcmp, 1) := by decide +kernel
theorem dX4_countOff_31 : decode cX4_countOff 31 = .ok (.ifCond .ne 7, 3) := by decide +kernel
theorem dX4_countOff_34 : decode cX4_countOff 34 = .ok (.dconst 0, 1) := by decide +kernel
theorem dX4_countOff_35 : decode cX4_countOff 35 = .ok (.goto 12, 3) := by decide +kernel
theorem dX4_countOff_38 : decode cX4_countOff 38 = .ok (.aload_n 0, 1) := by decide +kernel
theorem dX4_countOff_39 : decode cX4_countOff 39 = .ok (.getfield 27, 3) := by decide +kernel
theorem dX4_countOff_42 : decode cX4_countOff 42 = .ok (.iload_n 1, 1) := by decide +kernel
theorem dX4_countOff_43 : decode cX4_countOff 43 = .ok (.daload, 1) := by decide +kernel
theorem dX4_countOff_44 : decode cX4_countOff 44 = .ok (.dload 5, 2) := by decide +kernel
theorem dX4_countOff_46 : decode cX4_countOff 46 = .ok (.dsub, 1) := by decide +kernel
theorem dX4_countOff_47 : decode cX4_countOff 47 = .ok (.dstore 7, 2) := by decide +kernel
theorem dX4_countOff_49 : decode cX4_countOff 49 = .ok (.dload 7, 2) := by decide +kernel
theorem dX4_countOff_51 : decode cX4_countOff 51 = .ok (.dconst 0, 1) := by decide +kernel
theorem dX4_countOff_52 : decode cX4_countOff 52 = .ok (.dcmp .g, 1) := by decide +kernel
theorem dX4_countOff_53 : decode cX4_countOff 53 = .ok (.ifCond .ge 9, 3) := by decide +kernel
theorem dX4_countOff_56 : decode cX4_countOff 56 = .ok (.dload 7, 2) := by decide +kernel
theorem dX4_countOff_58 : decode cX4_countOff 58 = .ok (.dneg, 1) := by decide +kernel
theorem dX4_countOff_59 : decode cX4_countOff 59 = .ok (.goto 5, 3) := by decide +kernel
theorem dX4_countOff_62 : decode cX4_countOff 62 = .ok (.dload 7, 2) := by decide +kernel
theorem dX4_countOff_64 : decode cX4_countOff 64 = .ok (.aload_n 0, 1) := by decide +kernel
theorem dX4_countOff_65 : decode cX4_countOff 65 = .ok (.getfield 42, 3) := by decide +kernel
theorem dX4_countOff_68 : decode cX4_countOff 68 = .ok (.dcmp .l, 1) := by decide +kernel
theorem dX4_countOff_69 : decode cX4_countOff 69 = .ok (.ifCond .le 7, 3) := by decide +kernel
theorem dX4_countOff_72 : decode cX4_countOff 72 = .ok (.iconst 1, 1) := by decide +kernel
theorem dX4_countOff_73 : decode cX4_countOff 73 = .ok (.goto 4, 3) := by decide +kernel
theorem dX4_countOff_76 : decode cX4_countOff 76 = .ok (.iconst 0, 1) := by decide +kernel
theorem dX4_countOff_77 : decode cX4_countOff 77 = .ok (.istore 9, 2) := by decide +kernel
theorem dX4_countOff_79 : decode cX4_countOff 79 = .ok (.aload_n 0, 1) := by decide +kernel
theorem dX4_countOff_80 : decode cX4_countOff 80 = .ok (.getfield 20, 3) := by decide +kernel
theorem dX4_countOff_83 : decode cX4_countOff 83 = .ok (.iload_n 1, 1) := by decide +kernel
theorem dX4_countOff_84 : decode cX4_countOff 84 = .ok (.aaload, 1) := by decide +kernel
theorem dX4_countOff_85 : decode cX4_countOff 85 = .ok (.iconst 2, 1) := by decide +kernel
theorem dX4_countOff_86 : decode cX4_countOff 86 = .ok (.iload 9, 2) := by decide +kernel
theorem dX4_countOff_88 : decode cX4_countOff 88 = .ok (.ifCond .eq 16, 3) := by decide +kernel
theorem dX4_countOff_91 : decode cX4_countOff 91 = .ok (.aload_n 0, 1) := by decide +kernel
theorem dX4_countOff_92 : decode cX4_countOff 92 = .ok (.getfield 20, 3) := by decide +kernel
theorem dX4_countOff_95 : decode cX4_countOff 95 = .ok (.iload_n 1, 1) := by decide +kernel
theorem dX4_countOff_96 : decode cX4_countOff 96 = .ok (.aaload, 1) := by decide +kernel
theorem dX4_countOff_97 : decode cX4_countOff 97 = .ok (.iconst 2, 1) := by decide +kernel
theorem dX4_countOff_98 : decode cX4_countOff 98 = .ok (.iaload, 1) := by decide +kernel
theorem dX4_countOff_99 : decode cX4_countOff 99 = .ok (.iconst 1, 1) := by decide +kernel
theorem dX4_countOff_100 : decode cX4_countOff 100 = .ok (.iadd, 1) := by decide +kernel
theorem dX4_countOff_101 : decode cX4_countOff 101 = .ok (.goto 4, 3) := by decide +kernel
theorem dX4_countOff_104 : decode cX4_countOff 104 = .ok (.iconst 0, 1) := by decide +kernel
theorem dX4_countOff_105 : decode cX4_countOff 105 = .ok (.iastore, 1) := by decide +kernel
theorem dX4_countOff_106 : decode cX4_countOff 106 = .ok (.aload_n 0, 1) := by decide +kernel
theorem dX4_countOff_107 : decode cX4_countOff 107 = .ok (.getfield 20, 3) := by decide +kernel
theorem dX4_countOff_110 : decode cX4_countOff 110 = .ok (.iload_n 1, 1) := by decide +kernel
theorem dX4_countOff_111 : decode cX4_countOff 111 = .ok (.aaload, 1) := by decide +kernel
theorem dX4_countOff_112 : decode cX4_countOff 112 = .ok (.iconst 3, 1) := by decide +kernel
theorem dX4_countOff_113 : decode cX4_countOff 113 = .ok (.iload 9, 2) := by decide +kernel
theorem dX4_countOff_115 : decode cX4_countOff 115 = .ok (.ifCond .eq 7, 3) := by decide +kernel
theorem dX4_countOff_118 : decode cX4_countOff 118 = .ok (.iconst 0, 1) := by decide +kernel
theorem dX4_countOff_119 : decode cX4_countOff 119 = .ok (.goto 13, 3) := by decide +kernel
theorem dX4_countOff_122 : decode cX4_countOff 122 = .ok (.aload_n 0, 1) := by decide +kernel
theorem dX4_countOff_123 : decode cX4_countOff 123 = .ok (.getfield 20, 3) := by decide +kernel
theorem dX4_countOff_126 : decode cX4_countOff 126 = .ok (.iload_n 1, 1) := by decide +kernel
theorem dX4_countOff_127 : decode cX4_countOff 127 = .ok (.aaload, 1) := by decide +kernel
theorem dX4_countOff_128 : decode cX4_countOff 128 = .ok (.iconst 3, 1) := by decide +kernel
theorem dX4_countOff_129 : decode cX4_countOff 129 = .ok (.iaload, 1) := by decide +kernel
theorem dX4_countOff_130 : decode cX4_countOff 130 = .ok (.iconst 1, 1) := by decide +kernel
theorem dX4_countOff_131 : decode cX4_countOff 131 = .ok (.iadd, 1) := by decide +kernel
theorem dX4_countOff_132 : decode cX4_countOff 132 = .ok (.iastore, 1) := by decide +kernel
theorem dX4_countOff_133 : decode cX4_countOff 133 = .ok (.return_, 1) := by decide +kernel
theorem dX4_judge_0 : decode cX4_judge 0 = .ok (.aload_n 0, 1) := by decide +kernel
theorem dX4_judge_1 : decode cX4_judge 1 = .ok (.getfield 20, 3) := by decide +kernel
theorem dX4_judge_4 : decode cX4_judge 4 = .ok (.iload_n 1, 1) := by decide +kernel
theorem dX4_judge_5 : decode cX4_judge 5 = .ok (.aaload, 1) := by decide +kernel
theorem dX4_judge_6 : decode cX4_judge 6 = .ok (.iconst 0, 1) := by decide +kernel
theorem dX4_judge_7 : decode cX4_judge 7 = .ok (.iaload, 1) := by decide +kernel
theorem dX4_judge_8 : decode cX4_judge 8 = .ok (.iconst 1, 1) := by decide +kernel
theorem dX4_judge_9 : decode cX4_judge 9 = .ok (.if_icmp .ne 7, 3) := by decide +kernel
theorem dX4_judge_12 : decode cX4_judge 12 = .ok (.iconst 1, 1) := by decide +kernel
theorem dX4_judge_13 : decode cX4_judge 13 = .ok (.goto 4, 3) := by decide +kernel
theorem dX4_judge_16 : decode cX4_judge 16 = .ok (.iconst 0, 1) := by decide +kernel
theorem dX4_judge_17 : decode cX4_judge 17 = .ok (.istore_n 3, 1) := by decide +kernel
theorem dX4_judge_18 : decode cX4_judge 18 = .ok (.aload_n 0, 1) := by decide +kernel
theorem dX4_judge_19 : decode cX4_judge 19 = .ok (.getfield 23, 3) := by decide +kernel
theorem dX4_judge_22 : decode cX4_judge 22 = .ok (.iload_n 1, 1) := by decide +kernel
theorem dX4_judge_23 : decode cX4_judge 23 = .ok (.laload, 1) := by decide +kernel
theorem dX4_judge_24 : decode cX4_judge 24 = .ok (.invokestatic 70, 3) := by decide +kernel
theorem dX4_judge_27 : decode cX4_judge 27 = .ok (.ifCond .eq 30, 3) := by decide +kernel
theorem dX4_judge_30 : decode cX4_judge 30 = .ok (.aload_n 0, 1) := by decide +kernel
theorem dX4_judge_31 : decode cX4_judge 31 = .ok (.getfield 20, 3) := by decide +kernel
theorem dX4_judge_34 : decode cX4_judge 34 = .ok (.iload_n 1, 1) := by decide +kernel
theorem dX4_judge_35 : decode cX4_judge 35 = .ok (.aaload, 1) := by decide +kernel
theorem dX4_judge_36 : decode cX4_judge 36 = .ok (.iconst 4, 1) := by decide +kernel
theorem dX4_judge_37 : decode cX4_judge 37 = .ok (.iaload, 1) := by decide +kernel
theorem dX4_judge_38 : decode cX4_judge 38 = .ok (.bipush 8, 2) := by decide +kernel
theorem dX4_judge_40 : decode cX4_judge 40 = .ok (.if_icmp .lt 17, 3) := by decide +kernel
theorem dX4_judge_43 : decode cX4_judge 43 = .ok (.iload_n 2, 1) := by decide +kernel
theorem dX4_judge_44 : decode cX4_judge 44 = .ok (.ifCond .eq 13, 3) := by decide +kernel
theorem dX4_judge_47 : decode cX4_judge 47 = .ok (.aload_n 0, 1) := by decide +kernel
theorem dX4_judge_48 : decode cX4_judge 48 = .ok (.iload_n 1, 1) := by decide +kernel
theorem dX4_judge_49 : decode cX4_judge 49 = .ok (.iconst 0, 1) := by decide +kernel
theorem dX4_judge_50 : decode cX4_judge 50 = .ok (.iconst 2, 1) := by decide +kernel
theorem dX4_judge_51 : decode cX4_judge 51 = .ok (.invokevirtual 135, 3) := by decide +kernel
theorem dX4_judge_54 : decode cX4_judge 54 = .ok (.goto 52, 3) := by decide +kernel
theorem dX4_judge_57 : decode cX4_judge 57 = .ok (.iload_n 3, 1) := by decide +kernel
theorem dX4_judge_58 : decode cX4_judge 58 = .ok (.ifCond .eq 25, 3) := by decide +kernel
theorem dX4_judge_61 : decode cX4_judge 61 = .ok (.aload_n 0, 1) := by decide +kernel
theorem dX4_judge_62 : decode cX4_judge 62 = .ok (.getfield 20, 3) := by decide +kernel
theorem dX4_judge_65 : decode cX4_judge 65 = .ok (.iload_n 1, 1) := by decide +kernel
theorem dX4_judge_66 : decode cX4_judge 66 = .ok (.aaload, 1) := by decide +kernel
theorem dX4_judge_67 : decode cX4_judge 67 = .ok (.iconst 2, 1) := by decide +kernel
theorem dX4_judge_68 : decode cX4_judge 68 = .ok (.iaload, 1) := by decide +kernel
theorem dX4_judge_69 : decode cX4_judge 69 = .ok (.iconst 3, 1) := by decide +kernel
theorem dX4_judge_70 : decode cX4_judge 70 = .ok (.if_icmp .lt 13, 3) := by decide +kernel
theorem dX4_judge_73 : decode cX4_judge 73 = .ok (.aload_n 0, 1) := by decide +kernel
theorem dX4_judge_74 : decode cX4_judge 74 = .ok (.iload_n 1, 1) := by decide +kernel
theorem dX4_judge_75 : decode cX4_judge 75 = .ok (.iconst 0, 1) := by decide +kernel
theorem dX4_judge_76 : decode cX4_judge 76 = .ok (.iconst 1, 1) := by decide +kernel
theorem dX4_judge_77 : decode cX4_judge 77 = .ok (.invokevirtual 135, 3) := by decide +kernel
theorem dX4_judge_80 : decode cX4_judge 80 = .ok (.goto 26, 3) := by decide +kernel
theorem dX4_judge_83 : decode cX4_judge 83 = .ok (.iload_n 3, 1) := by decide +kernel
theorem dX4_judge_84 : decode cX4_judge 84 = .ok (.ifCond .ne 22, 3) := by decide +kernel
theorem dX4_judge_87 : decode cX4_judge 87 = .ok (.aload_n 0, 1) := by decide +kernel
theorem dX4_judge_88 : decode cX4_judge 88 = .ok (.getfield 20, 3) := by decide +kernel
theorem dX4_judge_91 : decode cX4_judge 91 = .ok (.iload_n 1, 1) := by decide +kernel
theorem dX4_judge_92 : decode cX4_judge 92 = .ok (.aaload, 1) := by decide +kernel
theorem dX4_judge_93 : decode cX4_judge 93 = .ok (.iconst 3, 1) := by decide +kernel
theorem dX4_judge_94 : decode cX4_judge 94 = .ok (.iaload, 1) := by decide +kernel
theorem dX4_judge_95 : decode cX4_judge 95 = .ok (.iconst 5, 1) := by decide +kernel
theorem dX4_judge_96 : decode cX4_judge 96 = .ok (.if_icmp .lt 10, 3) := by decide +kernel
theorem dX4_judge_99 : decode cX4_judge 99 = .ok (.aload_n 0, 1) := by decide +kernel
theorem dX4_judge_100 : decode cX4_judge 100 = .ok (.iload_n 1, 1) := by decide +kernel
theorem dX4_judge_101 : decode cX4_judge 101 = .ok (.iconst 1, 1) := by decide +kernel
theorem dX4_judge_102 : decode cX4_judge 102 = .ok (.iconst 0, 1) := by decide +kernel
theorem dX4_judge_103 : decode cX4_judge 103 = .ok (.invokevirtual 135, 3) := by decide +kernel
theorem dX4_judge_106 : decode cX4_judge 106 = .ok (.return_, 1) := by decide +kernel
theorem dX4_sendTo_0 : decode cX4_sendTo 0 = .ok (.aload_n 0, 1) := by decide +kernel
theorem dX4_sendTo_1 : decode cX4_sendTo 1 = .ok (.getfield 20, 3) := by decide +kernel
theorem dX4_sendTo_4 : decode cX4_sendTo 4 = .ok (.iload_n 1, 1) := by decide +kernel
theorem dX4_sendTo_5 : decode cX4_sendTo 5 = .ok (.aaload, 1) := by decide +kernel
theorem dX4_sendTo_6 : decode cX4_sendTo 6 = .ok (.iconst 0, 1) := by decide +kernel
theorem dX4_sendTo_7 : decode cX4_sendTo 7 = .ok (.iload_n 2, 1) := by decide +kernel
theorem dX4_sendTo_8 : decode cX4_sendTo 8 = .ok (.iastore, 1) := by decide +kernel
theorem dX4_sendTo_9 : decode cX4_sendTo 9 = .ok (.aload_n 0, 1) := by decide +kernel
theorem dX4_sendTo_10 : decode cX4_sendTo 10 = .ok (.getfield 20, 3) := by decide +kernel
theorem dX4_sendTo_13 : decode cX4_sendTo 13 = .ok (.iload_n 1, 1) := by decide +kernel
theorem dX4_sendTo_14 : decode cX4_sendTo 14 = .ok (.aaload, 1) := by decide +kernel
theorem dX4_sendTo_15 : decode cX4_sendTo 15 = .ok (.iconst 1, 1) := by decide +kernel
theorem dX4_sendTo_16 : decode cX4_sendTo 16 = .ok (.iload_n 3, 1) := by decide +kernel
theorem dX4_sendTo_17 : decode cX4_sendTo 17 = .ok (.iastore, 1) := by decide +kernel
theorem dX4_sendTo_18 : decode cX4_sendTo 18 = .ok (.aload_n 0, 1) := by decide +kernel
theorem dX4_sendTo_19 : decode cX4_sendTo 19 = .ok (.getfield 20, 3) := by decide +kernel
theorem dX4_sendTo_22 : decode cX4_sendTo 22 = .ok (.iload_n 1, 1) := by decide +kernel
theorem dX4_sendTo_23 : decode cX4_sendTo 23 = .ok (.aaload, 1) := by decide +kernel
theorem dX4_sendTo_24 : decode cX4_sendTo 24 = .ok (.iconst 2, 1) := by decide +kernel
theorem dX4_sendTo_25 : decode cX4_sendTo 25 = .ok (.iconst 0, 1) := by decide +kernel
theorem dX4_sendTo_26 : decode cX4_sendTo 26 = .ok (.iastore, 1) := by decide +kernel
theorem dX4_sendTo_27 : decode cX4_sendTo 27 = .ok (.aload_n 0, 1) := by decide +kernel
theorem dX4_sendTo_28 : decode cX4_sendTo 28 = .ok (.getfield 20, 3) := by decide +kernel
theorem dX4_sendTo_31 : decode cX4_sendTo 31 = .ok (.iload_n 1, 1) := by decide +kernel
theorem dX4_sendTo_32 : decode cX4_sendTo 32 = .ok (.aaload, 1) := by decide +kernel
theorem dX4_sendTo_33 : decode cX4_sendTo 33 = .ok (.iconst 3, 1) := by decide +kernel
theorem dX4_sendTo_34 : decode cX4_sendTo 34 = .ok (.iconst 0, 1) := by decide +kernel
theorem dX4_sendTo_35 : decode cX4_sendTo 35 = .ok (.iastore, 1) := by decide +kernel
theorem dX4_sendTo_36 : decode cX4_sendTo 36 = .ok (.return_, 1) := by decide +kernel
theorem dX4_bounded_0 : decode cX4_bounded 0 = .ok (.lload_n 2, 1) := by decide +kernel
theorem dX4_bounded_1 : decode cX4_bounded 1 = .ok (.lload 4, 2) := by decide +kernel
theorem dX4_bounded_3 : decode cX4_bounded 3 = .ok (.lload_n 0, 1) := by decide +kernel
theorem dX4_bounded_4 : decode cX4_bounded 4 = .ok (.invokestatic 139, 3) := by decide +kernel
theorem dX4_bounded_7 : decode cX4_bounded 7 = .ok (.invokestatic 142, 3) := by decide +kernel
theorem dX4_bounded_10 : decode cX4_bounded 10 = .ok (.lreturn, 1) := by decide +kernel
theorem dX4_towards_0 : decode cX4_towards 0 = .ok (.lload_n 0, 1) := by decide +kernel
theorem dX4_towards_1 : decode cX4_towards 1 = .ok (.lload_n 2, 1) := by decide +kernel
theorem dX4_towards_2 : decode cX4_towards 2 = .ok (.lload_n 0, 1) := by decide +kernel
theorem dX4_towards_3 : decode cX4_towards 3 = .ok (.lsub, 1) := by decide +kernel
theorem dX4_towards_4 : decode cX4_towards 4 = .ok (.ldc2_w 145, 3) := by decide +kernel
theorem dX4_towards_7 : decode cX4_towards 7 = .ok (.ldc2_w 147, 3) := by decide +kernel
theorem dX4_towards_10 : decode cX4_towards 10 = .ok (.invokestatic 149, 3) := by decide +kernel
theorem dX4_towards_13 : decode cX4_towards 13 = .ok (.ladd, 1) := by decide +kernel
theorem dX4_towards_14 : decode cX4_towards 14 = .ok (.lreturn, 1) := by decide +kernel
theorem dX4_steer_0 : decode cX4_steer 0 = .ok (.aload_n 0, 1) := by decide +kernel
theorem dX4_steer_1 : decode cX4_steer 1 = .ok (.getfield 48, 3) := by decide +kernel
theorem dX4_steer_4 : decode cX4_steer 4 = .ok (.iload_n 1, 1) := by decide +kernel
theorem dX4_steer_5 : decode cX4_steer 5 = .ok (.aaload, 1) := by decide +kernel
theorem dX4_steer_6 : decode cX4_steer 6 = .ok (.astore_n 2, 1) := by decide +kernel
theorem dX4_steer_7 : decode cX4_steer 7 = .ok (.aload_n 2, 1) := by decide +kernel
theorem dX4_steer_8 : decode cX4_steer 8 = .ok (.iconst 3, 1) := by decide +kernel
theorem dX4_steer_9 : decode cX4_steer 9 = .ok (.laload, 1) := by decide +kernel
theorem dX4_steer_10 : decode cX4_steer 10 = .ok (.lstore_n 3, 1) := by decide +kernel
theorem dX4_steer_11 : decode cX4_steer 11 = .ok (.aload_n 0, 1) := by decide +kernel
theorem dX4_steer_12 : decode cX4_steer 12 = .ok (.getfield 51, 3) := by decide +kernel
theorem dX4_steer_15 : decode cX4_steer 15 = .ok (.iconst 3, 1) := by decide +kernel
theorem dX4_steer_16 : decode cX4_steer 16 = .ok (.iaload, 1) := by decide +kernel
theorem dX4_steer_17 : decode cX4_steer 17 = .ok (.iconst 1, 1) := by decide +kernel
theorem dX4_steer_18 : decode cX4_steer 18 = .ok (.if_icmp .ne 12, 3) := by decide +kernel
theorem dX4_steer_21 : decode cX4_steer 21 = .ok (.aload_n 2, 1) := by decide +kernel
theorem dX4_steer_22 : decode cX4_steer 22 = .ok (.iconst 3, 1) := by decide +kernel
theorem dX4_steer_23 : decode cX4_steer 23 = .ok (.lload_n 3, 1) := by decide +kernel
theorem dX4_steer_24 : decode cX4_steer 24 = .ok (.lconst 0, 1) := by decide +kernel
theorem dX4_steer_25 : decode cX4_steer 25 = .ok (.invokestatic 153, 3) := by decide +kernel
theorem dX4_steer_28 : decode cX4_steer 28 = .ok (.lastore, 1) := by decide +kernel
theorem dX4_steer_29 : decode cX4_steer 29 = .ok (.return_, 1) := by decide +kernel
theorem dX4_steer_30 : decode cX4_steer 30 = .ok (.aload_n 0, 1) := by decide +kernel
theorem dX4_steer_31 : decode cX4_steer 31 = .ok (.getfield 34, 3) := by decide +kernel
theorem dX4_steer_34 : decode cX4_steer 34 = .ok (.iload_n 1, 1) := by decide +kernel
theorem dX4_steer_35 : decode cX4_steer 35 = .ok (.laload, 1) := by decide +kernel
theorem dX4_steer_36 : decode cX4_steer 36 = .ok (.invokestatic 70, 3) := by decide +kernel
theorem dX4_steer_39 : decode cX4_steer 39 = .ok (.ifCond .eq 11, 3) := by decide +kernel
theorem dX4_steer_42 : decode cX4_steer 42 = .ok (.aload_n 0, 1) := by decide +kernel
theorem dX4_steer_43 : decode cX4_steer 43 = .ok (.iload_n 1, 1) := by decide +kernel
theorem dX4_steer_44 : decode cX4_steer 44 = .ok (.invokevirtual 156, 3) := by decide +kernel
theorem dX4_steer_47 : decode cX4_steer 47 = .ok (.ifCond .ne 28, 3) := by decide +kernel
theorem dX4_steer_50 : decode cX4_steer 50 = .ok (.aload_n 2, 1) := by decide +kernel
theorem dX4_steer_51 : decode cX4_steer 51 = .ok (.iconst 3, 1) := by decide +kernel
theorem dX4_steer_52 : decode cX4_steer 52 = .ok (.lload_n 3, 1) := by decide +kernel
theorem dX4_steer_53 : decode cX4_steer 53 = .ok (.ldc2_w 147, 3) := by decide +kernel
theorem dX4_steer_56 : decode cX4_steer 56 = .ok (.invokestatic 153, 3) := by decide +kernel
theorem dX4_steer_59 : decode cX4_steer 59 = .ok (.lastore, 1) := by decide +kernel
theorem dX4_steer_60 : decode cX4_steer 60 = .ok (.aload_n 2, 1) := by decide +kernel
theorem dX4_steer_61 : decode cX4_steer 61 = .ok (.iconst 4, 1) := by decide +kernel
theorem dX4_steer_62 : decode cX4_steer 62 = .ok (.aload_n 2, 1) := by decide +kernel
theorem dX4_steer_63 : decode cX4_steer 63 = .ok (.iconst 4, 1) := by decide +kernel
theorem dX4_steer_64 : decode cX4_steer 64 = .ok (.laload, 1) := by decide +kernel
theorem dX4_steer_65 : decode cX4_steer 65 = .ok (.ldc2_w 159, 3) := by decide +kernel
theorem dX4_steer_68 : decode cX4_steer 68 = .ok (.invokestatic 153, 3) := by decide +kernel
theorem dX4_steer_71 : decode cX4_steer 71 = .ok (.lastore, 1) := by decide +kernel
theorem dX4_steer_72 : decode cX4_steer 72 = .ok (.goto 13, 3) := by decide +kernel
theorem dX4_steer_75 : decode cX4_steer 75 = .ok (.aload_n 0, 1) := by decide +kernel
theorem dX4_steer_76 : decode cX4_steer 76 = .ok (.iload_n 1, 1) := by decide +kernel
theorem dX4_steer_77 : decode cX4_steer 77 = .ok (.aload_n 0, 1) := by decide +kernel
theorem dX4_steer_78 : decode cX4_steer 78 = .ok (.iload_n 1, 1) := by decide +kernel
theorem dX4_steer_79 : decode cX4_steer 79 = .ok (.invokevirtual 161, 3) := by decide +kernel
theorem dX4_steer_82 : decode cX4_steer 82 = .ok (.invokevirtual 164, 3) := by decide +kernel
theorem dX4_steer_85 : decode cX4_steer 85 = .ok (.aload_n 0, 1) := by decide +kernel
theorem dX4_steer_86 : decode cX4_steer 86 = .ok (.getfield 51, 3) := by decide +kernel
theorem dX4_steer_89 : decode cX4_steer 89 = .ok (.iconst 4, 1) := by decide +kernel
theorem dX4_steer_90 : decode cX4_steer 90 = .ok (.iaload, 1) := by decide +kernel
theorem dX4_steer_91 : decode cX4_steer 91 = .ok (.iconst 1, 1) := by decide +kernel
theorem dX4_steer_92 : decode cX4_steer 92 = .ok (.if_icmp .ne 27, 3) := by decide +kernel
theorem dX4_steer_95 : decode cX4_steer 95 = .ok (.aload_n 2, 1) := by decide +kernel
theorem dX4_steer_96 : decode cX4_steer 96 = .ok (.iconst 3, 1) := by decide +kernel
theorem dX4_steer_97 : decode cX4_steer 97 = .ok (.laload, 1) := by decide +kernel
theorem dX4_steer_98 : decode cX4_steer 98 = .ok (.ldc2_w 168, 3) := by decide +kernel
theorem dX4_steer_101 : decode cX4_steer 101 = .ok (.lcmp, 1) := by decide +kernel
theorem dX4_steer_102 : decode cX4_steer 102 = .ok (.ifCond .le 17, 3) := by decide +kernel
theorem dX4_steer_105 : decode cX4_steer 105 = .ok (.aload_n 2, 1) := by decide +kernel
theorem dX4_steer_106 : decode cX4_steer 106 = .ok (.iconst 3, 1) := by decide +kernel
theorem dX4_steer_107 : decode cX4_steer 107 = .ok (.ldc2_w 168, 3) := by decide +kernel
theorem dX4_steer_110 : decode cX4_steer 110 = .ok (.lload_n 3, 1) := by decide +kernel
theorem dX4_steer_111 : decode cX4_steer 111 = .ok (.ldc2_w 147, 3) := by decide +kernel
theorem dX4_steer_114 : decode cX4_steer 114 = .ok (.lsub, 1) := by decide +kernel
theorem dX4_steer_115 : decode cX4_steer 115 = .ok (.invokestatic 142, 3) := by decide +kernel
theorem dX4_steer_118 : decode cX4_steer 118 = .ok (.lastore, 1) := by decide +kernel
theorem dX4_steer_119 : decode cX4_steer 119 = .ok (.return_, 1) := by decide +kernel
theorem dX4_wantedMove_0 : decode cX4_wantedMove 0 = .ok (.aload_n 0, 1) := by decide +kernel
theorem dX4_wantedMove_1 : decode cX4_wantedMove 1 = .ok (.getfield 48, 3) := by decide +kernel
theorem dX4_wantedMove_4 : decode cX4_wantedMove 4 = .ok (.iload_n 1, 1) := by decide +kernel
theorem dX4_wantedMove_5 : decode cX4_wantedMove 5 = .ok (.aaload, 1) := by decide +kernel
theorem dX4_wantedMove_6 : decode cX4_wantedMove 6 = .ok (.astore_n 2, 1) := by decide +kernel
theorem dX4_wantedMove_7 : decode cX4_wantedMove 7 = .ok (.aload_n 0, 1) := by decide +kernel
theorem dX4_wantedMove_8 : decode cX4_wantedMove 8 = .ok (.iload_n 1, 1) := by decide +kernel
theorem dX4_wantedMove_9 : decode cX4_wantedMove 9 = .ok (.invokevirtual 119, 3) := by decide +kernel
theorem dX4_wantedMove_12 : decode cX4_wantedMove 12 = .ok (.ldc2_w 170, 3) := by decide +kernel
theorem dX4_wantedMove_15 : decode cX4_wantedMove 15 = .ok (.dmul, 1) := by decide +kernel
theorem dX4_wantedMove_16 : decode cX4_wantedMove 16 = .ok (.d2l, 1) := by decide +kernel
theorem dX4_wantedMove_17 : decode cX4_wantedMove 17 = .ok (.ldc2_w 172, 3) := by decide +kernel
theorem dX4_wantedMove_20 : decode cX4_wantedMove 20 = .ok (.ldc2_w 174, 3) := by decide +kernel
theorem dX4_wantedMove_23 : decode cX4_wantedMove 23 = .ok (.invokestatic 149, 3) := by decide +kernel
theorem dX4_wantedMove_26 : decode cX4_wantedMove 26 = .ok (.lstore_n 3, 1) := by decide +kernel
theorem dX4_wantedMove_27 : decode cX4_wantedMove 27 = .ok (.lload_n 3, 1) := by decide +kernel
theorem dX4_wantedMove_28 : decode cX4_wantedMove 28 = .ok (.aload_n 0, 1) := by decide +kernel
theorem dX4_wantedMove_29 : decode cX4_wantedMove 29 = .ok (.iload_n 1, 1) := by decide +kernel
theorem dX4_wantedMove_30 : decode cX4_wantedMove 30 = .ok (.aload_n 0, 1) := by decide +kernel
theorem dX4_wantedMove_31 : decode cX4_wantedMove 31 = .ok (.getfield 85, 3) := by decide +kernel
theorem dX4_wantedMove_34 : decode cX4_wantedMove 34 = .ok (.sipush 1440, 3) := by decide +kernel
theorem dX4_wantedMove_37 : decode cX4_wantedMove 37 = .ok (.irem, 1) := by decide +kernel
theorem dX4_wantedMove_38 : decode cX4_wantedMove 38 = .ok (.invokevirtual 176, 3) := by decide +kernel
theorem dX4_wantedMove_41 : decode cX4_wantedMove 41 = .ok (.i2l, 1) := by decide +kernel
theorem dX4_wantedMove_42 : decode cX4_wantedMove 42 = .ok (.lsub, 1) := by decide +kernel
theorem dX4_wantedMove_43 : decode cX4_wantedMove 43 = .ok (.ldc2_w 180, 3) := by decide +kernel
theorem dX4_wantedMove_46 : decode cX4_wantedMove 46 = .ok (.ldc2_w 182, 3) := by decide +kernel
theorem dX4_wantedMove_49 : decode cX4_wantedMove 49 = .ok (.invokestatic 149, 3) := by decide +kernel
theorem dX4_wantedMove_52 : decode cX4_wantedMove 52 = .ok (.lstore 5, 2) := by decide +kernel
theorem dX4_wantedMove_54 : decode cX4_wantedMove 54 = .ok (.aload_n 2, 1) := by decide +kernel
theorem dX4_wantedMove_55 : decode cX4_wantedMove 55 = .ok (.iconst 5, 1) := by decide +kernel
theorem dX4_wantedMove_56 : decode cX4_wantedMove 56 = .ok (.aload_n 2, 1) := by decide +kernel
theorem dX4_wantedMove_57 : decode cX4_wantedMove 57 = .ok (.iconst 5, 1) := by decide +kernel
theorem dX4_wantedMove_58 : decode cX4_wantedMove 58 = .ok (.laload, 1) := by decide +kernel
theorem dX4_wantedMove_59 : decode cX4_wantedMove 59 = .ok (.lload 5, 2) := by decide +kernel
theorem dX4_wantedMove_61 : decode cX4_wantedMove 61 = .ok (.ldc2_w 184, 3) := by decide +kernel
theorem dX4_wantedMove_64 : decode cX4_wantedMove 64 = .ok (.ldiv, 1) := by decide +kernel
theorem dX4_wantedMove_65 : decode cX4_wantedMove 65 = .ok (.ladd, 1) := by decide +kernel
theorem dX4_wantedMove_66 : decode cX4_wantedMove 66 = .ok (.ldc2_w 186, 3) := by decide +kernel
theorem dX4_wantedMove_69 : decode cX4_wantedMove 69 = .ok (.ldc2_w 188, 3) := by decide +kernel
theorem dX4_wantedMove_72 : decode cX4_wantedMove 72 = .ok (.invokestatic 149, 3) := by decide +kernel
theorem dX4_wantedMove_75 : decode cX4_wantedMove 75 = .ok (.lastore, 1) := by decide +kernel
theorem dX4_wantedMove_76 : decode cX4_wantedMove 76 = .ok (.lload 5, 2) := by decide +kernel
theorem dX4_wantedMove_78 : decode cX4_wantedMove 78 = .ok (.ldc2_w 190, 3) := by decide +kernel
theorem dX4_wantedMove_81 : decode cX4_wantedMove 81 = .ok (.ldiv, 1) := by decide +kernel
theorem dX4_wantedMove_82 : decode cX4_wantedMove 82 = .ok (.aload_n 2, 1) := by decide +kernel
theorem dX4_wantedMove_83 : decode cX4_wantedMove 83 = .ok (.iconst 5, 1) := by decide +kernel
theorem dX4_wantedMove_84 : decode cX4_wantedMove 84 = .ok (.laload, 1) := by decide +kernel
theorem dX4_wantedMove_85 : decode cX4_wantedMove 85 = .ok (.ldc2_w 192, 3) := by decide +kernel
theorem dX4_wantedMove_88 : decode cX4_wantedMove 88 = .ok (.ldiv, 1) := by decide +kernel
theorem dX4_wantedMove_89 : decode cX4_wantedMove 89 = .ok (.ladd, 1) := by decide +kernel
theorem dX4_wantedMove_90 : decode cX4_wantedMove 90 = .ok (.ldc2_w 145, 3) := by decide +kernel
theorem dX4_wantedMove_93 : decode cX4_wantedMove 93 = .ok (.ldc2_w 147, 3) := by decide +kernel
theorem dX4_wantedMove_96 : decode cX4_wantedMove 96 = .ok (.invokestatic 149, 3) := by decide +kernel
theorem dX4_wantedMove_99 : decode cX4_wantedMove 99 = .ok (.lreturn, 1) := by decide +kernel
theorem dX4_moveBy_0 : decode cX4_moveBy 0 = .ok (.lload_n 2, 1) := by decide +kernel
theorem dX4_moveBy_1 : decode cX4_moveBy 1 = .ok (.lconst 0, 1) := by decide +kernel
theorem dX4_moveBy_2 : decode cX4_moveBy 2 = .ok (.lcmp, 1) := by decide +kernel
theorem dX4_moveBy_3 : decode cX4_moveBy 3 = .ok (.ifCond .le 7, 3) := by decide +kernel
theorem dX4_moveBy_6 : decode cX4_moveBy 6 = .ok (.iconst 4, 1) := by decide +kernel
theorem dX4_moveBy_7 : decode cX4_moveBy 7 = .ok (.goto 4, 3) := by decide +kernel
theorem dX4_moveBy_10 : decode cX4_moveBy 10 = .ok (.iconst 3, 1) := by decide +kernel
theorem dX4_moveBy_11 : decode cX4_moveBy 11 = .ok (.istore 4, 2) := by decide +kernel
theorem dX4_moveBy_13 : decode cX4_moveBy 13 = .ok (.lload_n 2, 1) := by decide +kernel
theorem dX4_moveBy_14 : decode cX4_moveBy 14 = .ok (.lconst 0, 1) := by decide +kernel
theorem dX4_moveBy_15 : decode cX4_moveBy 15 = .ok (.lcmp, 1) := by decide +kernel
theorem dX4_moveBy_16 : decode cX4_moveBy 16 = .ok (.ifCond .le 7, 3) := by decide +kernel
theorem dX4_moveBy_19 : decode cX4_moveBy 19 = .ok (.iconst 3, 1) := by decide +kernel
theorem dX4_moveBy_20 : decode cX4_moveBy 20 = .ok (.goto 4, 3) := by decide +kernel
theorem dX4_moveBy_23 : decode cX4_moveBy 23 = .ok (.iconst 4, 1) := by decide +kernel
theorem dX4_moveBy_24 : decode cX4_moveBy 24 = .ok (.istore 5, 2) := by decide +kernel
theorem dX4_moveBy_26 : decode cX4_moveBy 26 = .ok (.lload_n 2, 1) := by decide +kernel
theorem dX4_moveBy_27 : decode cX4_moveBy 27 = .ok (.invokestatic 194, 3) := by decide +kernel
theorem dX4_moveBy_30 : decode cX4_moveBy 30 = .ok (.lstore 6, 2) := by decide +kernel
theorem dX4_moveBy_32 : decode cX4_moveBy 32 = .ok (.lload 6, 2) := by decide +kernel
theorem dX4_moveBy_34 : decode cX4_moveBy 34 = .ok (.aload_n 0, 1) := by decide +kernel
theorem dX4_moveBy_35 : decode cX4_moveBy 35 = .ok (.getfield 48, 3) := by decide +kernel
theorem dX4_moveBy_38 : decode cX4_moveBy 38 = .ok (.iload_n 1, 1) := by decide +kernel
theorem dX4_moveBy_39 : decode cX4_moveBy 39 = .ok (.aaload, 1) := by decide +kernel
theorem dX4_moveBy_40 : decode cX4_moveBy 40 = .ok (.iload 4, 2) := by decide +kernel
theorem dX4_moveBy_42 : decode cX4_moveBy 42 = .ok (.laload, 1) := by decide +kernel
theorem dX4_moveBy_43 : decode cX4_moveBy 43 = .ok (.invokestatic 139, 3) := by decide +kernel
theorem dX4_moveBy_46 : decode cX4_moveBy 46 = .ok (.lstore 8, 2) := by decide +kernel
theorem dX4_moveBy_48 : decode cX4_moveBy 48 = .ok (.aload_n 0, 1) := by decide +kernel
theorem dX4_moveBy_49 : decode cX4_moveBy 49 = .ok (.getfield 48, 3) := by decide +kernel
theorem dX4_moveBy_52 : decode cX4_moveBy 52 = .ok (.iload_n 1, 1) := by decide +kernel
theorem dX4_moveBy_53 : decode cX4_moveBy 53 = .ok (.aaload, 1) := by decide +kernel
theorem dX4_moveBy_54 : decode cX4_moveBy 54 = .ok (.iload 4, 2) := by decide +kernel
theorem dX4_moveBy_56 : decode cX4_moveBy 56 = .ok (.dup2, 1) := by decide +kernel
theorem dX4_moveBy_57 : decode cX4_moveBy 57 = .ok (.laload, 1) := by decide +kernel
theorem dX4_moveBy_58 : decode cX4_moveBy 58 = .ok (.lload 8, 2) := by decide +kernel
theorem dX4_moveBy_60 : decode cX4_moveBy 60 = .ok (.lsub, 1) := by decide +kernel
theorem dX4_moveBy_61 : decode cX4_moveBy 61 = .ok (.lastore, 1) := by decide +kernel
theorem dX4_moveBy_62 : decode cX4_moveBy 62 = .ok (.aload_n 0, 1) := by decide +kernel
theorem dX4_moveBy_63 : decode cX4_moveBy 63 = .ok (.getfield 48, 3) := by decide +kernel
theorem dX4_moveBy_66 : decode cX4_moveBy 66 = .ok (.iload_n 1, 1) := by decide +kernel
theorem dX4_moveBy_67 : decode cX4_moveBy 67 = .ok (.aaload, 1) := by decide +kernel
theorem dX4_moveBy_68 : decode cX4_moveBy 68 = .ok (.iload 5, 2) := by decide +kernel
theorem dX4_moveBy_70 : decode cX4_moveBy 70 = .ok (.ldc2_w 198, 3) := by decide +kernel
theorem dX4_moveBy_73 : decode cX4_moveBy 73 = .ok (.aload_n 0, 1) := by decide +kernel
theorem dX4_moveBy_74 : decode cX4_moveBy 74 = .ok (.getfield 48, 3) := by decide +kernel
theorem dX4_moveBy_77 : decode cX4_moveBy 77 = .ok (.iload_n 1, 1) := by decide +kernel
theorem dX4_moveBy_78 : decode cX4_moveBy 78 = .ok (.aaload, 1) := by decide +kernel
theorem dX4_moveBy_79 : decode cX4_moveBy 79 = .ok (.iload 5, 2) := by decide +kernel
theorem dX4_moveBy_81 : decode cX4_moveBy 81 = .ok (.laload, 1) := by decide +kernel
theorem dX4_moveBy_82 : decode cX4_moveBy 82 = .ok (.lload 6, 2) := by decide +kernel
theorem dX4_moveBy_84 : decode cX4_moveBy 84 = .ok (.ladd, 1) := by decide +kernel
theorem dX4_moveBy_85 : decode cX4_moveBy 85 = .ok (.lload 8, 2) := by decide +kernel
theorem dX4_moveBy_87 : decode cX4_moveBy 87 = .ok (.lsub, 1) := by decide +kernel
theorem dX4_moveBy_88 : decode cX4_moveBy 88 = .ok (.invokestatic 139, 3) := by decide +kernel
theorem dX4_moveBy_91 : decode cX4_moveBy 91 = .ok (.lastore, 1) := by decide +kernel
theorem dX4_moveBy_92 : decode cX4_moveBy 92 = .ok (.return_, 1) := by decide +kernel
theorem dX4_changeAir_0 : decode cX4_changeAir 0 = .ok (.aload_n 0, 1) := by decide +kernel
theorem dX4_changeAir_1 : decode cX4_changeAir 1 = .ok (.getfield 48, 3) := by decide +kernel
theorem dX4_changeAir_4 : decode cX4_changeAir 4 = .ok (.iload_n 1, 1) := by decide +kernel
theorem dX4_changeAir_5 : decode cX4_changeAir 5 = .ok (.aaload, 1) := by decide +kernel
theorem dX4_changeAir_6 : decode cX4_changeAir 6 = .ok (.astore_n 2, 1) := by decide +kernel
theorem dX4_changeAir_7 : decode cX4_changeAir 7 = .ok (.aload_n 0, 1) := by decide +kernel
theorem dX4_changeAir_8 : decode cX4_changeAir 8 = .ok (.getfield 51, 3) := by decide +kernel
theorem dX4_changeAir_11 : decode cX4_changeAir 11 = .ok (.iconst 0, 1) := by decide +kernel
theorem dX4_changeAir_12 : decode cX4_changeAir 12 = .ok (.iaload, 1) := by decide +kernel
theorem dX4_changeAir_13 : decode cX4_changeAir 13 = .ok (.bipush 8, 2) := by decide +kernel
theorem dX4_changeAir_15 : decode cX4_changeAir 15 = .ok (.idiv, 1) := by decide +kernel
theorem dX4_changeAir_16 : decode cX4_changeAir 16 = .ok (.i2l, 1) := by decide +kernel
theorem dX4_changeAir_17 : decode cX4_changeAir 17 = .ok (.ldc2_w 200, 3) := by decide +kernel
theorem dX4_changeAir_20 : decode cX4_changeAir 20 = .ok (.aload_n 2, 1) := by decide +kernel
theorem dX4_changeAir_21 : decode cX4_changeAir 21 = .ok (.iconst 4, 1) := by decide +kernel
theorem dX4_changeAir_22 : decode cX4_changeAir 22 = .ok (.laload, 1) := by decide +kernel
theorem dX4_changeAir_23 : decode cX4_changeAir 23 = .ok (.lmul, 1) := by decide +kernel
theorem dX4_changeAir_24 : decode cX4_changeAir 24 = .ok (.ladd, 1) := by decide +kernel
theorem dX4_changeAir_25 : decode cX4_changeAir 25 = .ok (.lstore_n 3, 1) := by decide +kernel
theorem dX4_changeAir_26 : decode cX4_changeAir 26 = .ok (.aload_n 2, 1) := by decide +kernel
theorem dX4_changeAir_27 : decode cX4_changeAir 27 = .ok (.iconst 0, 1) := by decide +kernel
theorem dX4_changeAir_28 : decode cX4_changeAir 28 = .ok (.laload, 1) := by decide +kernel
theorem dX4_changeAir_29 : decode cX4_changeAir 29 = .ok (.aload_n 0, 1) := by decide +kernel
theorem dX4_changeAir_30 : decode cX4_changeAir 30 = .ok (.getfield 51, 3) := by decide +kernel
theorem dX4_changeAir_33 : decode cX4_changeAir 33 = .ok (.iconst 1, 1) := by decide +kernel
theorem dX4_changeAir_34 : decode cX4_changeAir 34 = .ok (.iaload, 1) := by decide +kernel
theorem dX4_changeAir_35 : decode cX4_changeAir 35 = .ok (.i2l, 1) := by decide +kernel
theorem dX4_changeAir_36 : decode cX4_changeAir 36 = .ok (.lsub, 1) := by decide +kernel
theorem dX4_changeAir_37 : decode cX4_changeAir 37 = .ok (.ldc2_w 202, 3) := by decide +kernel
theorem dX4_changeAir_40 : decode cX4_changeAir 40 = .ok (.aload_n 2, 1) := by decide +kernel
theorem dX4_changeAir_41 : decode cX4_changeAir 41 = .ok (.iconst 3, 1) := by decide +kernel
theorem dX4_changeAir_42 : decode cX4_changeAir 42 = .ok (.laload, 1) := by decide +kernel
theorem dX4_changeAir_43 : decode cX4_changeAir 43 = .ok (.ladd, 1) := by decide +kernel
theorem dX4_changeAir_44 : decode cX4_changeAir 44 = .ok (.lmul, 1) := by decide +kernel
theorem dX4_changeAir_45 : decode cX4_changeAir 45 = .ok (.ldc2_w 204, 3) := by decide +kernel
theorem dX4_changeAir_48 : decode cX4_changeAir 48 = .ok (.ldiv, 1) := by decide +kernel
theorem dX4_changeAir_49 : decode cX4_changeAir 49 = .ok (.lstore 5, 2) := by decide +kernel
theorem dX4_changeAir_51 : decode cX4_changeAir 51 = .ok (.aload_n 2, 1) := by decide +kernel
theorem dX4_changeAir_52 : decode cX4_changeAir 52 = .ok (.iconst 0, 1) := by decide +kernel
theorem dX4_changeAir_53 : decode cX4_changeAir 53 = .ok (.dup2, 1) := by decide +kernel
theorem dX4_changeAir_54 : decode cX4_changeAir 54 = .ok (.laload, 1) := by decide +kernel
theorem dX4_changeAir_55 : decode cX4_changeAir 55 = .ok (.lload_n 3, 1) := by decide +kernel
theorem dX4_changeAir_56 : decode cX4_changeAir 56 = .ok (.lload 5, 2) := by decide +kernel
theorem dX4_changeAir_58 : decode cX4_changeAir 58 = .ok (.lsub, 1) := by decide +kernel
theorem dX4_changeAir_59 : decode cX4_changeAir 59 = .ok (.ladd, 1) := by decide +kernel
theorem dX4_changeAir_60 : decode cX4_changeAir 60 = .ok (.lastore, 1) := by decide +kernel
theorem dX4_changeAir_61 : decode cX4_changeAir 61 = .ok (.aload_n 2, 1) := by decide +kernel
theorem dX4_changeAir_62 : decode cX4_changeAir 62 = .ok (.bipush 6, 2) := by decide +kernel
theorem dX4_changeAir_64 : decode cX4_changeAir 64 = .ok (.dup2, 1) := by decide +kernel
theorem dX4_changeAir_65 : decode cX4_changeAir 65 = .ok (.laload, 1) := by decide +kernel
theorem dX4_changeAir_66 : decode cX4_changeAir 66 = .ok (.lload_n 3, 1) := by decide +kernel
theorem dX4_changeAir_67 : decode cX4_changeAir 67 = .ok (.ladd, 1) := by decide +kernel
theorem dX4_changeAir_68 : decode cX4_changeAir 68 = .ok (.lastore, 1) := by decide +kernel
theorem dX4_changeAir_69 : decode cX4_changeAir 69 = .ok (.aload_n 2, 1) := by decide +kernel
theorem dX4_changeAir_70 : decode cX4_changeAir 70 = .ok (.bipush 7, 2) := by decide +kernel
theorem dX4_changeAir_72 : decode cX4_changeAir 72 = .ok (.dup2, 1) := by decide +kernel
theorem dX4_changeAir_73 : decode cX4_changeAir 73 = .ok (.laload, 1) := by decide +kernel
theorem dX4_changeAir_74 : decode cX4_changeAir 74 = .ok (.lload 5, 2) := by decide +kernel
theorem dX4_changeAir_76 : decode cX4_changeAir 76 = .ok (.ladd, 1) := by decide +kernel
theorem dX4_changeAir_77 : decode cX4_changeAir 77 = .ok (.lastore, 1) := by decide +kernel
theorem dX4_changeAir_78 : decode cX4_changeAir 78 = .ok (.bipush 12, 2) := by decide +kernel
theorem dX4_changeAir_80 : decode cX4_changeAir 80 = .ok (.aload_n 0, 1) := by decide +kernel
theorem dX4_changeAir_81 : decode cX4_changeAir 81 = .ok (.getfield 51, 3) := by decide +kernel
theorem dX4_changeAir_84 : decode cX4_changeAir 84 = .ok (.iconst 0, 1) := by decide +kernel
theorem dX4_changeAir_85 : decode cX4_changeAir 85 = .ok (.iaload, 1) := by decide +kernel
theorem dX4_changeAir_86 : decode cX4_changeAir 86 = .ok (.bipush 50, 2) := by decide +kernel
theorem dX4_changeAir_88 : decode cX4_changeAir 88 = .ok (.idiv, 1) := by decide +kernel
theorem dX4_changeAir_89 : decode cX4_changeAir 89 = .ok (.iadd, 1) := by decide +kernel
theorem dX4_changeAir_90 : decode cX4_changeAir 90 = .ok (.i2l, 1) := by decide +kernel
theorem dX4_changeAir_91 : decode cX4_changeAir 91 = .ok (.lstore 7, 2) := by decide +kernel
theorem dX4_changeAir_93 : decode cX4_changeAir 93 = .ok (.aload_n 2, 1) := by decide +kernel
theorem dX4_changeAir_94 : decode cX4_changeAir 94 = .ok (.iconst 1, 1) := by decide +kernel
theorem dX4_changeAir_95 : decode cX4_changeAir 95 = .ok (.laload, 1) := by decide +kernel
theorem dX4_changeAir_96 : decode cX4_changeAir 96 = .ok (.aload_n 0, 1) := by decide +kernel
theorem dX4_changeAir_97 : decode cX4_changeAir 97 = .ok (.getfield 51, 3) := by decide +kernel
theorem dX4_changeAir_100 : decode cX4_changeAir 100 = .ok (.iconst 2, 1) := by decide +kernel
theorem dX4_changeAir_101 : decode cX4_changeAir 101 = .ok (.iaload, 1) := by decide +kernel
theorem dX4_changeAir_102 : decode cX4_changeAir 102 = .ok (.i2l, 1) := by decide +kernel
theorem dX4_changeAir_103 : decode cX4_changeAir 103 = .ok (.lsub, 1) := by decide +kernel
theorem dX4_changeAir_104 : decode cX4_changeAir 104 = .ok (.aload_n 2, 1) := by decide +kernel
theorem dX4_changeAir_105 : decode cX4_changeAir 105 = .ok (.iconst 3, 1) := by decide +kernel
theorem dX4_changeAir_106 : decode cX4_changeAir 106 = .ok (.laload, 1) := by decide +kernel
theorem dX4_changeAir_107 : decode cX4_changeAir 107 = .ok (.lmul, 1) := by decide +kernel
theorem dX4_changeAir_108 : decode cX4_changeAir 108 = .ok (.ldc2_w 206, 3) := by decide +kernel
theorem dX4_changeAir_111 : decode cX4_changeAir 111 = .ok (.ldiv, 1) := by decide +kernel
theorem dX4_changeAir_112 : decode cX4_changeAir 112 = .ok (.lstore 9, 2) := by decide +kernel
theorem dX4_changeAir_114 : decode cX4_changeAir 114 = .ok (.aload_n 2, 1) := by decide +kernel
theorem dX4_changeAir_115 : decode cX4_changeAir 115 = .ok (.iconst 1, 1) := by decide +kernel
theorem dX4_changeAir_116 : decode cX4_changeAir 116 = .ok (.laload, 1) := by decide +kernel
theorem dX4_changeAir_117 : decode cX4_changeAir 117 = .ok (.lload 7, 2) := by decide +kernel
theorem dX4_changeAir_119 : decode cX4_changeAir 119 = .ok (.ladd, 1) := by decide +kernel
theorem dX4_changeAir_120 : decode cX4_changeAir 120 = .ok (.lload 9, 2) := by decide +kernel
theorem dX4_changeAir_122 : decode cX4_changeAir 122 = .ok (.lsub, 1) := by decide +kernel
theorem dX4_changeAir_123 : decode cX4_changeAir 123 = .ok (.lstore 11, 2) := by decide +kernel
theorem dX4_changeAir_125 : decode cX4_changeAir 125 = .ok (.aload_n 2, 1) := by decide +kernel
theorem dX4_changeAir_126 : decode cX4_changeAir 126 = .ok (.bipush 8, 2) := by decide +kernel
theorem dX4_changeAir_128 : decode cX4_changeAir 128 = .ok (.dup2, 1) := by decide +kernel
theorem dX4_changeAir_129 : decode cX4_changeAir 129 = .ok (.laload, 1) := by decide +kernel
theorem dX4_changeAir_130 : decode cX4_changeAir 130 = .ok (.lload 7, 2) := by decide +kernel
theorem dX4_changeAir_132 : decode cX4_changeAir 132 = .ok (.ladd, 1) := by decide +kernel
theorem dX4_changeAir_133 : decode cX4_changeAir 133 = .ok (.lastore, 1) := by decide +kernel
theorem dX4_changeAir_134 : decode cX4_changeAir 134 = .ok (.aload_n 2, 1) := by decide +kernel
theorem dX4_changeAir_135 : decode cX4_changeAir 135 = .ok (.bipush 9, 2) := by decide +kernel
theorem dX4_changeAir_137 : decode cX4_changeAir 137 = .ok (.dup2, 1) := by decide +kernel
theorem dX4_changeAir_138 : decode cX4_changeAir 138 = .ok (.laload, 1) := by decide +kernel
theorem dX4_changeAir_139 : decode cX4_changeAir 139 = .ok (.lload 9, 2) := by decide +kernel
theorem dX4_changeAir_141 : decode cX4_changeAir 141 = .ok (.ladd, 1) := by decide +kernel
theorem dX4_changeAir_142 : decode cX4_changeAir 142 = .ok (.lastore, 1) := by decide +kernel
theorem dX4_changeAir_143 : decode cX4_changeAir 143 = .ok (.lload 11, 2) := by decide +kernel
theorem dX4_changeAir_145 : decode cX4_changeAir 145 = .ok (.lconst 0, 1) := by decide +kernel
theorem dX4_changeAir_146 : decode cX4_changeAir 146 = .ok (.lcmp, 1) := by decide +kernel
theorem dX4_changeAir_147 : decode cX4_changeAir 147 = .ok (.ifCond .ge 15, 3) := by decide +kernel
theorem dX4_changeAir_150 : decode cX4_changeAir 150 = .ok (.aload_n 2, 1) := by decide +kernel
theorem dX4_changeAir_151 : decode cX4_changeAir 151 = .ok (.bipush 10, 2) := by decide +kernel
theorem dX4_changeAir_153 : decode cX4_changeAir 153 = .ok (.dup2, 1) := by decide +kernel
theorem dX4_changeAir_154 : decode cX4_changeAir 154 = .ok (.laload, 1) := by decide +kernel
theorem dX4_changeAir_155 : decode cX4_changeAir 155 = .ok (.lload 11, 2) := by decide +kernel
theorem dX4_changeAir_157 : decode cX4_changeAir 157 = .ok (.lsub, 1) := by decide +kernel
theorem dX4_changeAir_158 : decode cX4_changeAir 158 = .ok (.lastore, 1) := by decide +kernel
theorem dX4_changeAir_159 : decode cX4_changeAir 159 = .ok (.lconst 0, 1) := by decide +kernel
theorem dX4_changeAir_160 : decode cX4_changeAir 160 = .ok (.lstore 11, 2) := by decide +kernel
theorem dX4_changeAir_162 : decode cX4_changeAir 162 = .ok (.aload_n 0, 1) := by decide +kernel
theorem dX4_changeAir_163 : decode cX4_changeAir 163 = .ok (.aload_n 2, 1) := by decide +kernel
theorem dX4_changeAir_164 : decode cX4_changeAir 164 = .ok (.iconst 0, 1) := by decide +kernel
theorem dX4_changeAir_165 : decode cX4_changeAir 165 = .ok (.laload, 1) := by decide +kernel
theorem dX4_changeAir_166 : decode cX4_changeAir 166 = .ok (.invokevirtual 208, 3) := by decide +kernel
theorem dX4_changeAir_169 : decode cX4_changeAir 169 = .ok (.lstore 13, 2) := by decide +kernel
theorem dX4_changeAir_171 : decode cX4_changeAir 171 = .ok (.aload_n 2, 1) := by decide +kernel
theorem dX4_changeAir_172 : decode cX4_changeAir 172 = .ok (.iconst 2, 1) := by decide +kernel
theorem dX4_changeAir_173 : decode cX4_changeAir 173 = .ok (.dup2, 1) := by decide +kernel
theorem dX4_changeAir_174 : decode cX4_changeAir 174 = .ok (.laload, 1) := by decide +kernel
theorem dX4_changeAir_175 : decode cX4_changeAir 175 = .ok (.lconst 0, 1) := by decide +kernel
theorem dX4_changeAir_176 : decode cX4_changeAir 176 = .ok (.lload 11, 2) := by decide +kernel
theorem dX4_changeAir_178 : decode cX4_changeAir 178 = .ok (.lload 13, 2) := by decide +kernel
theorem dX4_changeAir_180 : decode cX4_changeAir 180 = .ok (.lsub, 1) := by decide +kernel
theorem dX4_changeAir_181 : decode cX4_changeAir 181 = .ok (.invokestatic 142, 3) := by decide +kernel
theorem dX4_changeAir_184 : decode cX4_changeAir 184 = .ok (.ladd, 1) := by decide +kernel
theorem dX4_changeAir_185 : decode cX4_changeAir 185 = .ok (.lastore, 1) := by decide +kernel
theorem dX4_changeAir_186 : decode cX4_changeAir 186 = .ok (.aload_n 2, 1) := by decide +kernel
theorem dX4_changeAir_187 : decode cX4_changeAir 187 = .ok (.iconst 1, 1) := by decide +kernel
theorem dX4_changeAir_188 : decode cX4_changeAir 188 = .ok (.lload 11, 2) := by decide +kernel
theorem dX4_changeAir_190 : decode cX4_changeAir 190 = .ok (.lload 13, 2) := by decide +kernel
theorem dX4_changeAir_192 : decode cX4_changeAir 192 = .ok (.invokestatic 139, 3) := by decide +kernel
theorem dX4_changeAir_195 : decode cX4_changeAir 195 = .ok (.lastore, 1) := by decide +kernel
theorem dX4_changeAir_196 : decode cX4_changeAir 196 = .ok (.return_, 1) := by decide +kernel
theorem dX4_mostVapour_0 : decode cX4_mostVapour 0 = .ok (.aload_n 0, 1) := by decide +kernel
theorem dX4_mostVapour_1 : decode cX4_mostVapour 1 = .ok (.getfield 12, 3) := by decide +kernel
theorem dX4_mostVapour_4 : decode cX4_mostVapour 4 = .ok (.iconst 0, 1) := by decide +kernel
theorem dX4_mostVapour_5 : decode cX4_mostVapour 5 = .ok (.invokevirtual 211, 3) := by decide +kernel
theorem dX4_mostVapour_8 : decode cX4_mostVapour 8 = .ok (.ifCond .ne 7, 3) := by decide +kernel
theorem dX4_mostVapour_11 : decode cX4_mostVapour 11 = .ok (.ldc2_w 214, 3) := by decide +kernel
theorem dX4_mostVapour_14 : decode cX4_mostVapour 14 = .ok (.lreturn, 1) := by decide +kernel
theorem dX4_mostVapour_15 : decode cX4_mostVapour 15 = .ok (.iconst 0, 1) := by decide +kernel
theorem dX4_mostVapour_16 : decode cX4_mostVapour 16 = .ok (.aload_n 0, 1) := by decide +kernel
theorem dX4_mostVapour_17 : decode cX4_mostVapour 17 = .ok (.getfield 12, 3) := by decide +kernel
theorem dX4_mostVapour_20 : decode cX4_mostVapour 20 = .ok (.iconst 0, 1) := by decide +kernel
theorem dX4_mostVapour_21 : decode cX4_mostVapour 21 = .ok (.lload_n 1, 1) := by decide +kernel
theorem dX4_mostVapour_22 : decode cX4_mostVapour 22 = .ok (.ldc2_w 216, 3) := by decide +kernel
theorem dX4_mostVapour_25 : decode cX4_mostVapour 25 = .ok (.ldiv, 1) := by decide +kernel
theorem dX4_mostVapour_26 : decode cX4_mostVapour 26 = .ok (.l2i, 1) := by decide +kernel
theorem dX4_mostVapour_27 : decode cX4_mostVapour 27 = .ok (.invokevirtual 218, 3) := by decide +kernel
theorem dX4_mostVapour_30 : decode cX4_mostVapour 30 = .ok (.invokestatic 221, 3) := by decide +kernel
theorem dX4_mostVapour_33 : decode cX4_mostVapour 33 = .ok (.i2l, 1) := by decide +kernel
theorem dX4_mostVapour_34 : decode cX4_mostVapour 34 = .ok (.lreturn, 1) := by decide +kernel
theorem dX5_init_0 : decode cX5_init 0 = .ok (.aload_n 0, 1) := by decide +kernel
theorem dX5_init_1 : decode cX5_init 1 = .ok (.invokespecial 1, 3) := by decide +kernel
theorem dX5_init_4 : decode cX5_init 4 = .ok (.aload_n 0, 1) := by decide +kernel
theorem dX5_init_5 : decode cX5_init 5 = .ok (.iconst 2, 1) := by decide +kernel
theorem dX5_init_6 : decode cX5_init 6 = .ok (.iconst 4, 1) := by decide +kernel
theorem dX5_init_7 : decode cX5_init 7 = .ok (.multianewarray 9 2, 4) := by decide +kernel
theorem dX5_init_11 : decode cX5_init 11 = .ok (.putfield 11, 3) := by decide +kernel
theorem dX5_init_14 : decode cX5_init 14 = .ok (.aload_n 0, 1) := by decide +kernel
theorem dX5_init_15 : decode cX5_init 15 = .ok (.iconst 2, 1) := by decide +kernel
theorem dX5_init_16 : decode cX5_init 16 = .ok (.iconst 4, 1) := by decide +kernel
theorem dX5_init_17 : decode cX5_init 17 = .ok (.multianewarray 14 2, 4) := by decide +kernel
theorem dX5_init_21 : decode cX5_init 21 = .ok (.putfield 16, 3) := by decide +kernel
theorem dX5_init_24 : decode cX5_init 24 = .ok (.aload_n 0, 1) := by decide +kernel
theorem dX5_init_25 : decode cX5_init 25 = .ok (.iconst 2, 1) := by decide +kernel
theorem dX5_init_26 : decode cX5_init 26 = .ok (.iconst 4, 1) := by decide +kernel
theorem dX5_init_27 : decode cX5_init 27 = .ok (.multianewarray 14 2, 4) := by decide +kernel
theorem dX5_init_31 : decode cX5_init 31 = .ok (.putfield 19, 3) := by decide +kernel
theorem dX5_init_34 : decode cX5_init 34 = .ok (.aload_n 0, 1) := by decide +kernel
theorem dX5_init_35 : decode cX5_init 35 = .ok (.iconst 2, 1) := by decide +kernel
theorem dX5_init_36 : decode cX5_init 36 = .ok (.iconst 4, 1) := by decide +kernel
theorem dX5_init_37 : decode cX5_init 37 = .ok (.multianewarray 14 2, 4) := by decide +kernel
theorem dX5_init_41 : decode cX5_init 41 = .ok (.putfield 22, 3) := by decide +kernel
theorem dX5_init_44 : decode cX5_init 44 = .ok (.aload_n 0, 1) := by decide +kernel
theorem dX5_init_45 : decode cX5_init 45 = .ok (.iconst 3, 1) := by decide +kernel
theorem dX5_init_46 : decode cX5_init 46 = .ok (.newarray .long, 2) := by decide +kernel
theorem dX5_init_48 : decode cX5_init 48 = .ok (.putfield 25, 3) := by decide +kernel
theorem dX5_init_51 : decode cX5_init 51 = .ok (.aload_n 0, 1) := by decide +kernel
theorem dX5_init_52 : decode cX5_init 52 = .ok (.iconst 3, 1) := by decide +kernel
theorem dX5_init_53 : decode cX5_init 53 = .ok (.newarray .long, 2) := by decide +kernel
theorem dX5_init_55 : decode cX5_init 55 = .ok (.putfield 29, 3) := by decide +kernel
theorem dX5_init_58 : decode cX5_init 58 = .ok (.aload_n 0, 1) := by decide +kernel
theorem dX5_init_59 : decode cX5_init 59 = .ok (.iconst 3, 1) := by decide +kernel
theorem dX5_init_60 : decode cX5_init 60 = .ok (.newarray .long, 2) := by decide +kernel
theorem dX5_init_62 : decode cX5_init 62 = .ok (.putfield 32, 3) := by decide +kernel
theorem dX5_init_65 : decode cX5_init 65 = .ok (.aload_n 0, 1) := by decide +kernel
theorem dX5_init_66 : decode cX5_init 66 = .ok (.iconst 4, 1) := by decide +kernel
theorem dX5_init_67 : decode cX5_init 67 = .ok (.newarray .long, 2) := by decide +kernel
theorem dX5_init_69 : decode cX5_init 69 = .ok (.putfield 35, 3) := by decide +kernel
theorem dX5_init_72 : decode cX5_init 72 = .ok (.return_, 1) := by decide +kernel
theorem dX5_setParts_0 : decode cX5_setParts 0 = .ok (.aload_n 0, 1) := by decide +kernel
theorem dX5_setParts_1 : decode cX5_setParts 1 = .ok (.getfield 16, 3) := by decide +kernel
theorem dX5_setParts_4 : decode cX5_setParts 4 = .ok (.iload_n 1, 1) := by decide +kernel
theorem dX5_setParts_5 : decode cX5_setParts 5 = .ok (.aaload, 1) := by decide +kernel
theorem dX5_setParts_6 : decode cX5_setParts 6 = .ok (.iload_n 2, 1) := by decide +kernel
theorem dX5_setParts_7 : decode cX5_setParts 7 = .ok (.iload_n 3, 1) := by decide +kernel
theorem dX5_setParts_8 : decode cX5_setParts 8 = .ok (.iastore, 1) := by decide +kernel
theorem dX5_setParts_9 : decode cX5_setParts 9 = .ok (.aload_n 0, 1) := by decide +kernel
theorem dX5_setParts_10 : decode cX5_setParts 10 = .ok (.getfield 19, 3) := by decide +kernel
theorem dX5_setParts_13 : decode cX5_setParts 13 = .ok (.iload_n 1, 1) := by decide +kernel
theorem dX5_setParts_14 : decode cX5_setParts 14 = .ok (.aaload, 1) := by decide +kernel
theorem dX5_setParts_15 : decode cX5_setParts 15 = .ok (.iload_n 2, 1) := by decide +kernel
theorem dX5_setParts_16 : decode cX5_setParts 16 = .ok (.iload 4, 2) := by decide +kernel
theorem dX5_setParts_18 : decode cX5_setParts 18 = .ok (.iastore, 1) := by decide +kernel
theorem dX5_setParts_19 : decode cX5_setParts 19 = .ok (.aload_n 0, 1) := by decide +kernel
theorem dX5_setParts_20 : decode cX5_setParts 20 = .ok (.getfield 22, 3) := by decide +kernel
theorem dX5_setParts_23 : decode cX5_setParts 23 = .ok (.iload_n 1, 1) := by decide +kernel
theorem dX5_setParts_24 : decode cX5_setParts 24 = .ok (.aaload, 1) := by decide +kernel
theorem dX5_setParts_25 : decode cX5_setParts 25 = .ok (.iload_n 2, 1) := by decide +kernel
theorem dX5_setParts_26 : decode cX5_setParts 26 = .ok (.iload 5, 2) := by decide +kernel
theorem dX5_setParts_28 : decode cX5_setParts 28 = .ok (.iastore, 1) := by decide +kernel
theorem dX5_setParts_29 : decode cX5_setParts 29 = .ok (.return_, 1) := by decide +kernel
theorem dX5_lessen_0 : decode cX5_lessen 0 = .ok (.iconst 0, 1) := by decide +kernel
theorem dX5_lessen_1 : decode cX5_lessen 1 = .ok (.istore_n 2, 1) := by decide +kernel
theorem dX5_lessen_2 : decode cX5_lessen 2 = .ok (.iload_n 2, 1) := by decide +kernel
theorem dX5_lessen_3 : decode cX5_lessen 3 = .ok (.iconst 4, 1) := by decide +kernel
theorem dX5_lessen_4 : decode cX5_lessen 4 = .ok (.if_icmp .ge 23, 3) := by decide +kernel
theorem dX5_lessen_7 : decode cX5_lessen 7 = .ok (.aload_n 0, 1) := by decide +kernel
theorem dX5_lessen_8 : decode cX5_lessen 8 = .ok (.getfield 11, 3) := by decide +kernel
theorem dX5_lessen_11 : decode cX5_lessen 11 = .ok (.iload_n 1, 1) := by decide +kernel
theorem dX5_lessen_12 : decode cX5_lessen 12 = .ok (.aaload, 1) := by decide +kernel
theorem dX5_lessen_13 : decode cX5_lessen 13 = .ok (.iload_n 2, 1) := by decide +kernel
theorem dX5_lessen_14 : decode cX5_lessen 14 = .ok (.dup2, 1) := by decide +kernel
theorem dX5_lessen_15 : decode cX5_lessen 15 = .ok (.laload, 1) := by decide +kernel
theorem dX5_lessen_16 : decode cX5_lessen 16 = .ok (.ldc2_w 38, 3) := by decide +kernel
theorem dX5_lessen_19 : decode cX5_lessen 19 = .ok (.ldiv, 1) := by decide +kernel
theorem dX5_lessen_20 : decode cX5_lessen 20 = .ok (.lastore, 1) := by decide +kernel
theorem dX5_lessen_21 : decode cX5_lessen 21 = .ok (.iinc 2 1, 3) := by decide +kernel
theorem dX5_lessen_24 : decode cX5_lessen 24 = .ok (.goto (-22), 3) := by decide +kernel
theorem dX5_lessen_27 : decode cX5_lessen 27 = .ok (.aload_n 0, 1) := by decide +kernel
theorem dX5_lessen_28 : decode cX5_lessen 28 = .ok (.bipush 7, 2) := by decide +kernel
theorem dX5_lessen_30 : decode cX5_lessen 30 = .ok (.putfield 40, 3) := by decide +kernel
theorem dX5_lessen_33 : decode cX5_lessen 33 = .ok (.return_, 1) := by decide +kernel
theorem dX5_passDay_0 : decode cX5_passDay 0 = .ok (.iconst 0, 1) := by decide +kernel
theorem dX5_passDay_1 : decode cX5_passDay 1 = .ok (.istore_n 1, 1) := by decide +kernel
theorem dX5_passDay_2 : decode cX5_passDay 2 = .ok (.iload_n 1, 1) := by decide +kernel
theorem dX5_passDay_3 : decode cX5_passDay 3 = .ok (.iconst 2, 1) := by decide +kernel
theorem dX5_passDay_4 : decode cX5_passDay 4 = .ok (.if_icmp .ge 14, 3) := by decide +kernel
theorem dX5_passDay_7 : decode cX5_passDay 7 = .ok (.aload_n 0, 1) := by decide +kernel
theorem dX5_passDay_8 : decode cX5_passDay 8 = .ok (.iload_n 1, 1) := by decide +kernel
theorem dX5_passDay_9 : decode cX5_passDay 9 = .ok (.invokevirtual 44, 3) := by decide +kernel
theorem dX5_passDay_12 : decode cX5_passDay 12 = .ok (.iinc 1 1, 3) := by decide +kernel
theorem dX5_passDay_15 : decode cX5_passDay 15 = .ok (.goto (-13), 3) := by decide +kernel
theorem dX5_passDay_18 : decode cX5_passDay 18 = .ok (.aload_n 0, 1) := by decide +kernel
theorem dX5_passDay_19 : decode cX5_passDay 19 = .ok (.dup, 1) := by decide +kernel
theorem dX5_passDay_20 : decode cX5_passDay 20 = .ok (.getfield 48, 3) := by decide +kernel
theorem dX5_passDay_23 : decode cX5_passDay 23 = .ok (.iconst 1, 1) := by decide +kernel
theorem dX5_passDay_24 : decode cX5_passDay 24 = .ok (.iadd, 1) := by decide +kernel
theorem dX5_passDay_25 : decode cX5_passDay 25 = .ok (.putfield 48, 3) := by decide +kernel
theorem dX5_passDay_28 : decode cX5_passDay 28 = .ok (.aload_n 0, 1) := by decide +kernel
theorem dX5_passDay_29 : decode cX5_passDay 29 = .ok (.getfield 40, 3) := by decide +kernel
theorem dX5_passDay_32 : decode cX5_passDay 32 = .ok (.ifCond .le 13, 3) := by decide +kernel
theorem dX5_passDay_35 : decode cX5_passDay 35 = .ok (.aload_n 0, 1) := by decide +kernel
theorem dX5_passDay_36 : decode cX5_passDay 36 = .ok (.dup, 1) := by decide +kernel
theorem dX5_passDay_37 : decode cX5_passDay 37 = .ok (.getfield 40, 3) := by decide +kernel
theorem dX5_passDay_40 : decode cX5_passDay 40 = .ok (.iconst 1, 1) := by decide +kernel
theorem dX5_passDay_41 : decode cX5_passDay 41 = .ok (.isub, 1) := by decide +kernel
theorem dX5_passDay_42 : decode cX5_passDay 42 = .ok (.putfield 40, 3) := by decide +kernel
theorem dX5_passDay_45 : decode cX5_passDay 45 = .ok (.return_, 1) := by decide +kernel
theorem dX5_dayOf_0 : decode cX5_dayOf 0 = .ok (.aload_n 0, 1) := by decide +kernel
theorem dX5_dayOf_1 : decode cX5_dayOf 1 = .ok (.getfield 35, 3) := by decide +kernel
theorem dX5_dayOf_4 : decode cX5_dayOf 4 = .ok (.iconst 0, 1) := by decide +kernel
theorem dX5_dayOf_5 : decode cX5_dayOf 5 = .ok (.aload_n 0, 1) := by decide +kernel
theorem dX5_dayOf_6 : decode cX5_dayOf 6 = .ok (.getfield 11, 3) := by decide +kernel
theorem dX5_dayOf_9 : decode cX5_dayOf 9 = .ok (.iload_n 1, 1) := by decide +kernel
theorem dX5_dayOf_10 : decode cX5_dayOf 10 = .ok (.aaload, 1) := by decide +kernel
theorem dX5_dayOf_11 : decode cX5_dayOf 11 = .ok (.iconst 3, 1) := by decide +kernel
theorem dX5_dayOf_12 : decode cX5_dayOf 12 = .ok (.laload, 1) := by decide +kernel
theorem dX5_dayOf_13 : decode cX5_dayOf 13 = .ok (.aload_n 0, 1) := by decide +kernel
theorem dX5_dayOf_14 : decode cX5_dayOf 14 = .ok (.getfield 22, 3) := by decide +kernel
theorem dX5_dayOf_17 : decode cX5_dayOf 17 = .ok (.iload_n 1, 1) := by decide +kernel
theorem dX5_dayOf_18 : decode cX5_dayOf 18 = .ok (.aaload, 1) := by decide +kernel
theorem dX5_dayOf_19 : decode cX5_dayOf 19 = .ok (.iconst 3, 1) := by decide +kernel
theorem dX5_dayOf_20 : decode cX5_dayOf 20 = .ok (.iaload, 1) := by decide +kernel
theorem dX5_dayOf_21 : decode cX5_dayOf 21 = .ok (.i2l, 1) := by decide +kernel
theorem dX5_dayOf_22 : decode cX5_dayOf 22 = .ok (.lmul, 1) := by decide +kernel
theorem dX5_dayOf_23 : decode cX5_dayOf 23 = .ok (.ldc2_w 51, 3) := by decide +kernel
theorem dX5_dayOf_26 : decode cX5_dayOf 26 = .ok (.ldiv, 1) := by decide +kernel
theorem dX5_dayOf_27 : decode cX5_dayOf 27 = .ok (.lastore, 1) := by decide +kernel
theorem dX5_dayOf_28 : decode cX5_dayOf 28 = .ok (.iconst 1, 1) := by decide +kernel
theorem dX5_dayOf_29 : decode cX5_dayOf 29 = .ok (.istore_n 2, 1) := by decide +kernel
theorem dX5_dayOf_30 : decode cX5_dayOf 30 = .ok (.iload_n 2, 1) := by decide +kernel
theorem dX5_dayOf_31 : decode cX5_dayOf 31 = .ok (.iconst 4, 1) := by decide +kernel
theorem dX5_dayOf_32 : decode cX5_dayOf 32 = .ok (.if_icmp .ge 16, 3) := by decide +kernel
theorem dX5_dayOf_35 : decode cX5_dayOf 35 = .ok (.aload_n 0, 1) := by decide +kernel
theorem dX5_dayOf_36 : decode cX5_dayOf 36 = .ok (.getfield 35, 3) := by decide +kernel
theorem dX5_dayOf_39 : decode cX5_dayOf 39 = .ok (.iload_n 2, 1) := by decide +kernel
theorem dX5_dayOf_40 : decode cX5_dayOf 40 = .ok (.lconst 0, 1) := by decide +kernel
theorem dX5_dayOf_41 : decode cX5_dayOf 41 = .ok (.lastore, 1) := by decide +kernel
theorem dX5_dayOf_42 : decode cX5_dayOf 42 = .ok (.iinc 2 1, 3) := by decide +kernel
theorem dX5_dayOf_45 : decode cX5_dayOf 45 = .ok (.goto (-15), 3) := by decide +kernel
theorem dX5_dayOf_48 : decode cX5_dayOf 48 = .ok (.iconst 0, 1) := by decide +kernel
theorem dX5_dayOf_49 : decode cX5_dayOf 49 = .ok (.istore_n 2, 1) := by decide +kernel
theorem dX5_dayOf_50 : decode cX5_dayOf 50 = .ok (.iload_n 2, 1) := by decide +kernel
theorem dX5_dayOf_51 : decode cX5_dayOf 51 = .ok (.iconst 4, 1) := by decide +kernel
theorem dX5_dayOf_52 : decode cX5_dayOf 52 = .ok (.if_icmp .ge 125, 3) := by decide +kernel
theorem dX5_dayOf_55 : decode cX5_dayOf 55 = .ok (.aload_n 0, 1) := by decide +kernel
theorem dX5_dayOf_56 : decode cX5_dayOf 56 = .ok (.getfield 25, 3) := by decide +kernel
theorem dX5_dayOf_59 : decode cX5_dayOf 59 = .ok (.iconst 0, 1) := by decide +kernel
theorem dX5_dayOf_60 : decode cX5_dayOf 60 = .ok (.aload_n 0, 1) := by decide +kernel
theorem dX5_dayOf_61 : decode cX5_dayOf 61 = .ok (.getfield 16, 3) := by decide +kernel
theorem dX5_dayOf_64 : decode cX5_dayOf 64 = .ok (.iload_n 1, 1) := by decide +kernel
theorem dX5_dayOf_65 : decode cX5_dayOf 65 = .ok (.aaload, 1) := by decide +kernel
theorem dX5_dayOf_66 : decode cX5_dayOf 66 = .ok (.iload_n 2, 1) := by decide +kernel
theorem dX5_dayOf_67 : decode cX5_dayOf 67 = .ok (.iaload, 1) := by decide +kernel
theorem dX5_dayOf_68 : decode cX5_dayOf 68 = .ok (.i2l, 1) := by decide +kernel
theorem dX5_dayOf_69 : decode cX5_dayOf 69 = .ok (.lastore, 1) := by decide +kernel
theorem dX5_dayOf_70 : decode cX5_dayOf 70 = .ok (.aload_n 0, 1) := by decide +kernel
theorem dX5_dayOf_71 : decode cX5_dayOf 71 = .ok (.getfield 25, 3) := by decide +kernel
theorem dX5_dayOf_74 : decode cX5_dayOf 74 = .ok (.iconst 1, 1) := by decide +kernel
theorem dX5_dayOf_75 : decode cX5_dayOf 75 = .ok (.aload_n 0, 1) := by decide +kernel
theorem dX5_dayOf_76 : decode cX5_dayOf 76 = .ok (.getfield 19, 3) := by decide +kernel
theorem dX5_dayOf_79 : decode cX5_dayOf 79 = .ok (.iload_n 1, 1) := by decide +kernel
theorem dX5_dayOf_80 : decode cX5_dayOf 80 = .ok (.aaload, 1) := by decide +kernel
theorem dX5_dayOf_81 : decode cX5_dayOf 81 = .ok (.iload_n 2, 1) := by decide +kernel
theorem dX5_dayOf_82 : decode cX5_dayOf 82 = .ok (.iaload, 1) := by decide +kernel
theorem dX5_dayOf_83 : decode cX5_dayOf 83 = .ok (.i2l, 1) := by decide +kernel
theorem dX5_dayOf_84 : decode cX5_dayOf 84 = .ok (.lastore, 1) := by decide +kernel
theorem dX5_dayOf_85 : decode cX5_dayOf 85 = .ok (.aload_n 0, 1) := by decide +kernel
theorem dX5_dayOf_86 : decode cX5_dayOf 86 = .ok (.getfield 25, 3) := by decide +kernel
theorem dX5_dayOf_89 : decode cX5_dayOf 89 = .ok (.iconst 2, 1) := by decide +kernel
theorem dX5_dayOf_90 : decode cX5_dayOf 90 = .ok (.ldc2_w 53, 3) := by decide +kernel
theorem dX5_dayOf_93 : decode cX5_dayOf 93 = .ok (.aload_n 0, 1) := by decide +kernel
theorem dX5_dayOf_94 : decode cX5_dayOf 94 = .ok (.getfield 25, 3) := by decide +kernel
theorem dX5_dayOf_97 : decode cX5_dayOf 97 = .ok (.iconst 0, 1) := by decide +kernel
theorem dX5_dayOf_98 : decode cX5_dayOf 98 = .ok (.laload, 1) := by decide +kernel
theorem dX5_dayOf_99 : decode cX5_dayOf 99 = .ok (.lsub, 1) := by decide +kernel
theorem dX5_dayOf_100 : decode cX5_dayOf 100 = .ok (.aload_n 0, 1) := by decide +kernel
theorem dX5_dayOf_101 : decode cX5_dayOf 101 = .ok (.getfield 25, 3) := by decide +kernel
theorem dX5_dayOf_104 : decode cX5_dayOf 104 = .ok (.iconst 1, 1) := by decide +kernel
theorem dX5_dayOf_105 : decode cX5_dayOf 105 = .ok (.laload, 1) := by decide +kernel
theorem dX5_dayOf_106 : decode cX5_dayOf 106 = .ok (.lsub, 1) := by decide +kernel
theorem dX5_dayOf_107 : decode cX5_dayOf 107 = .ok (.lastore, 1) := by decide +kernel
theorem dX5_dayOf_108 : decode cX5_dayOf 108 = .ok (.aload_n 0, 1) := by decide +kernel
theorem dX5_dayOf_109 : decode cX5_dayOf 109 = .ok (.getfield 11, 3) := by decide +kernel
theorem dX5_dayOf_112 : decode cX5_dayOf 112 = .ok (.iload_n 1, 1) := by decide +kernel
theorem dX5_dayOf_113 : decode cX5_dayOf 113 = .ok (.aaload, 1) := by decide +kernel
theorem dX5_dayOf_114 : decode cX5_dayOf 114 = .ok (.iload_n 2, 1) := by decide +kernel
theorem dX5_dayOf_115 : decode cX5_dayOf 115 = .ok (.laload, 1) := by decide +kernel
theorem dX5_dayOf_116 : decode cX5_dayOf 116 = .ok (.aload_n 0, 1) := by decide +kernel
theorem dX5_dayOf_117 : decode cX5_dayOf 117 = .ok (.getfield 25, 3) := by decide +kernel
theorem dX5_dayOf_120 : decode cX5_dayOf 120 = .ok (.iconst 3, 1) := by decide +kernel
theorem dX5_dayOf_121 : decode cX5_dayOf 121 = .ok (.aload_n 0, 1) := by decide +kernel
theorem dX5_dayOf_122 : decode cX5_dayOf 122 = .ok (.getfield 29, 3) := by decide +kernel
theorem dX5_dayOf_125 : decode cX5_dayOf 125 = .ok (.aload_n 0, 1) := by decide +kernel
theorem dX5_dayOf_126 : decode cX5_dayOf 126 = .ok (.getfield 32, 3) := by decide +kernel
theorem dX5_dayOf_129 : decode cX5_dayOf 129 = .ok (.invokestatic 55, 3) := by decide +kernel
theorem dX5_dayOf_132 : decode cX5_dayOf 132 = .ok (.iload_n 2, 1) := by decide +kernel
theorem dX5_dayOf_133 : decode cX5_dayOf 133 = .ok (.iconst 1, 1) := by decide +kernel
theorem dX5_dayOf_134 : decode cX5_dayOf 134 = .ok (.iadd, 1) := by decide +kernel
