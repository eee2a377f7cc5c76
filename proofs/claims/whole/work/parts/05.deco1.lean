theorem dX5_dayOf_135 : decode cX5_dayOf 135 = .ok (.iconst 4, 1) := by decide +kernel
theorem dX5_dayOf_136 : decode cX5_dayOf 136 = .ok (.if_icmp .ge 20, 3) := by decide +kernel
theorem dX5_dayOf_139 : decode cX5_dayOf 139 = .ok (.aload_n 0, 1) := by decide +kernel
theorem dX5_dayOf_140 : decode cX5_dayOf 140 = .ok (.getfield 35, 3) := by decide +kernel
theorem dX5_dayOf_143 : decode cX5_dayOf 143 = .ok (.iload_n 2, 1) := by decide +kernel
theorem dX5_dayOf_144 : decode cX5_dayOf 144 = .ok (.iconst 1, 1) := by decide +kernel
theorem dX5_dayOf_145 : decode cX5_dayOf 145 = .ok (.iadd, 1) := by decide +kernel
theorem dX5_dayOf_146 : decode cX5_dayOf 146 = .ok (.dup2, 1) := by decide +kernel
theorem dX5_dayOf_147 : decode cX5_dayOf 147 = .ok (.laload, 1) := by decide +kernel
theorem dX5_dayOf_148 : decode cX5_dayOf 148 = .ok (.aload_n 0, 1) := by decide +kernel
theorem dX5_dayOf_149 : decode cX5_dayOf 149 = .ok (.getfield 29, 3) := by decide +kernel
theorem dX5_dayOf_152 : decode cX5_dayOf 152 = .ok (.iconst 0, 1) := by decide +kernel
theorem dX5_dayOf_153 : decode cX5_dayOf 153 = .ok (.laload, 1) := by decide +kernel
theorem dX5_dayOf_154 : decode cX5_dayOf 154 = .ok (.ladd, 1) := by decide +kernel
theorem dX5_dayOf_155 : decode cX5_dayOf 155 = .ok (.lastore, 1) := by decide +kernel
theorem dX5_dayOf_156 : decode cX5_dayOf 156 = .ok (.aload_n 0, 1) := by decide +kernel
theorem dX5_dayOf_157 : decode cX5_dayOf 157 = .ok (.getfield 35, 3) := by decide +kernel
theorem dX5_dayOf_160 : decode cX5_dayOf 160 = .ok (.iload_n 2, 1) := by decide +kernel
theorem dX5_dayOf_161 : decode cX5_dayOf 161 = .ok (.dup2, 1) := by decide +kernel
theorem dX5_dayOf_162 : decode cX5_dayOf 162 = .ok (.laload, 1) := by decide +kernel
theorem dX5_dayOf_163 : decode cX5_dayOf 163 = .ok (.aload_n 0, 1) := by decide +kernel
theorem dX5_dayOf_164 : decode cX5_dayOf 164 = .ok (.getfield 29, 3) := by decide +kernel
theorem dX5_dayOf_167 : decode cX5_dayOf 167 = .ok (.iconst 1, 1) := by decide +kernel
theorem dX5_dayOf_168 : decode cX5_dayOf 168 = .ok (.laload, 1) := by decide +kernel
theorem dX5_dayOf_169 : decode cX5_dayOf 169 = .ok (.ladd, 1) := by decide +kernel
theorem dX5_dayOf_170 : decode cX5_dayOf 170 = .ok (.lastore, 1) := by decide +kernel
theorem dX5_dayOf_171 : decode cX5_dayOf 171 = .ok (.iinc 2 1, 3) := by decide +kernel
theorem dX5_dayOf_174 : decode cX5_dayOf 174 = .ok (.goto (-124), 3) := by decide +kernel
theorem dX5_dayOf_177 : decode cX5_dayOf 177 = .ok (.iconst 0, 1) := by decide +kernel
theorem dX5_dayOf_178 : decode cX5_dayOf 178 = .ok (.istore_n 2, 1) := by decide +kernel
theorem dX5_dayOf_179 : decode cX5_dayOf 179 = .ok (.iload_n 2, 1) := by decide +kernel
theorem dX5_dayOf_180 : decode cX5_dayOf 180 = .ok (.iconst 4, 1) := by decide +kernel
theorem dX5_dayOf_181 : decode cX5_dayOf 181 = .ok (.if_icmp .ge 29, 3) := by decide +kernel
theorem dX5_dayOf_184 : decode cX5_dayOf 184 = .ok (.aload_n 0, 1) := by decide +kernel
theorem dX5_dayOf_185 : decode cX5_dayOf 185 = .ok (.getfield 11, 3) := by decide +kernel
theorem dX5_dayOf_188 : decode cX5_dayOf 188 = .ok (.iload_n 1, 1) := by decide +kernel
theorem dX5_dayOf_189 : decode cX5_dayOf 189 = .ok (.aaload, 1) := by decide +kernel
theorem dX5_dayOf_190 : decode cX5_dayOf 190 = .ok (.iload_n 2, 1) := by decide +kernel
theorem dX5_dayOf_191 : decode cX5_dayOf 191 = .ok (.ldc2_w 61, 3) := by decide +kernel
theorem dX5_dayOf_194 : decode cX5_dayOf 194 = .ok (.aload_n 0, 1) := by decide +kernel
theorem dX5_dayOf_195 : decode cX5_dayOf 195 = .ok (.getfield 35, 3) := by decide +kernel
theorem dX5_dayOf_198 : decode cX5_dayOf 198 = .ok (.iload_n 2, 1) := by decide +kernel
theorem dX5_dayOf_199 : decode cX5_dayOf 199 = .ok (.laload, 1) := by decide +kernel
theorem dX5_dayOf_200 : decode cX5_dayOf 200 = .ok (.invokestatic 63, 3) := by decide +kernel
theorem dX5_dayOf_203 : decode cX5_dayOf 203 = .ok (.lastore, 1) := by decide +kernel
theorem dX5_dayOf_204 : decode cX5_dayOf 204 = .ok (.iinc 2 1, 3) := by decide +kernel
theorem dX5_dayOf_207 : decode cX5_dayOf 207 = .ok (.goto (-28), 3) := by decide +kernel
theorem dX5_dayOf_210 : decode cX5_dayOf 210 = .ok (.return_, 1) := by decide +kernel
theorem dX6_init_0 : decode cX6_init 0 = .ok (.aload_n 0, 1) := by decide +kernel
theorem dX6_init_1 : decode cX6_init 1 = .ok (.invokespecial 3, 3) := by decide +kernel
theorem dX6_init_4 : decode cX6_init 4 = .ok (.aload_n 0, 1) := by decide +kernel
theorem dX6_init_5 : decode cX6_init 5 = .ok (.iconst 4, 1) := by decide +kernel
theorem dX6_init_6 : decode cX6_init 6 = .ok (.newarray .int, 2) := by decide +kernel
theorem dX6_init_8 : decode cX6_init 8 = .ok (.putfield 11, 3) := by decide +kernel
theorem dX6_init_11 : decode cX6_init 11 = .ok (.aload_n 0, 1) := by decide +kernel
theorem dX6_init_12 : decode cX6_init 12 = .ok (.sipush 160, 3) := by decide +kernel
theorem dX6_init_15 : decode cX6_init 15 = .ok (.newarray .int, 2) := by decide +kernel
theorem dX6_init_17 : decode cX6_init 17 = .ok (.putfield 15, 3) := by decide +kernel
theorem dX6_init_20 : decode cX6_init 20 = .ok (.aload_n 0, 1) := by decide +kernel
theorem dX6_init_21 : decode cX6_init 21 = .ok (.sipush 160, 3) := by decide +kernel
theorem dX6_init_24 : decode cX6_init 24 = .ok (.newarray .int, 2) := by decide +kernel
theorem dX6_init_26 : decode cX6_init 26 = .ok (.putfield 18, 3) := by decide +kernel
theorem dX6_init_29 : decode cX6_init 29 = .ok (.aload_n 0, 1) := by decide +kernel
theorem dX6_init_30 : decode cX6_init 30 = .ok (.sipush 160, 3) := by decide +kernel
theorem dX6_init_33 : decode cX6_init 33 = .ok (.newarray .int, 2) := by decide +kernel
theorem dX6_init_35 : decode cX6_init 35 = .ok (.putfield 21, 3) := by decide +kernel
theorem dX6_init_38 : decode cX6_init 38 = .ok (.aload_n 0, 1) := by decide +kernel
theorem dX6_init_39 : decode cX6_init 39 = .ok (.sipush 160, 3) := by decide +kernel
theorem dX6_init_42 : decode cX6_init 42 = .ok (.newarray .int, 2) := by decide +kernel
theorem dX6_init_44 : decode cX6_init 44 = .ok (.putfield 24, 3) := by decide +kernel
theorem dX6_init_47 : decode cX6_init 47 = .ok (.aload_n 0, 1) := by decide +kernel
theorem dX6_init_48 : decode cX6_init 48 = .ok (.sipush 160, 3) := by decide +kernel
theorem dX6_init_51 : decode cX6_init 51 = .ok (.newarray .int, 2) := by decide +kernel
theorem dX6_init_53 : decode cX6_init 53 = .ok (.putfield 27, 3) := by decide +kernel
theorem dX6_init_56 : decode cX6_init 56 = .ok (.aload_n 0, 1) := by decide +kernel
theorem dX6_init_57 : decode cX6_init 57 = .ok (.bipush 40, 2) := by decide +kernel
theorem dX6_init_59 : decode cX6_init 59 = .ok (.newarray .int, 2) := by decide +kernel
theorem dX6_init_61 : decode cX6_init 61 = .ok (.putfield 30, 3) := by decide +kernel
theorem dX6_init_64 : decode cX6_init 64 = .ok (.return_, 1) := by decide +kernel
theorem dX6_added_0 : decode cX6_added 0 = .ok (.aload_n 0, 1) := by decide +kernel
theorem dX6_added_1 : decode cX6_added 1 = .ok (.getfield 11, 3) := by decide +kernel
theorem dX6_added_4 : decode cX6_added 4 = .ok (.iload_n 1, 1) := by decide +kernel
theorem dX6_added_5 : decode cX6_added 5 = .ok (.iaload, 1) := by decide +kernel
theorem dX6_added_6 : decode cX6_added 6 = .ok (.istore 6, 2) := by decide +kernel
theorem dX6_added_8 : decode cX6_added 8 = .ok (.iload 6, 2) := by decide +kernel
theorem dX6_added_10 : decode cX6_added 10 = .ok (.bipush 40, 2) := by decide +kernel
theorem dX6_added_12 : decode cX6_added 12 = .ok (.if_icmp .lt 6, 3) := by decide +kernel
theorem dX6_added_15 : decode cX6_added 15 = .ok (.bipush (-4), 2) := by decide +kernel
theorem dX6_added_17 : decode cX6_added 17 = .ok (.ireturn, 1) := by decide +kernel
theorem dX6_added_18 : decode cX6_added 18 = .ok (.iload_n 1, 1) := by decide +kernel
theorem dX6_added_19 : decode cX6_added 19 = .ok (.bipush 40, 2) := by decide +kernel
theorem dX6_added_21 : decode cX6_added 21 = .ok (.imul, 1) := by decide +kernel
theorem dX6_added_22 : decode cX6_added 22 = .ok (.iload 6, 2) := by decide +kernel
theorem dX6_added_24 : decode cX6_added 24 = .ok (.iadd, 1) := by decide +kernel
theorem dX6_added_25 : decode cX6_added 25 = .ok (.istore 7, 2) := by decide +kernel
theorem dX6_added_27 : decode cX6_added 27 = .ok (.aload_n 0, 1) := by decide +kernel
theorem dX6_added_28 : decode cX6_added 28 = .ok (.getfield 15, 3) := by decide +kernel
theorem dX6_added_31 : decode cX6_added 31 = .ok (.iload 7, 2) := by decide +kernel
theorem dX6_added_33 : decode cX6_added 33 = .ok (.iload_n 2, 1) := by decide +kernel
theorem dX6_added_34 : decode cX6_added 34 = .ok (.iastore, 1) := by decide +kernel
theorem dX6_added_35 : decode cX6_added 35 = .ok (.aload_n 0, 1) := by decide +kernel
theorem dX6_added_36 : decode cX6_added 36 = .ok (.getfield 18, 3) := by decide +kernel
theorem dX6_added_39 : decode cX6_added 39 = .ok (.iload 7, 2) := by decide +kernel
theorem dX6_added_41 : decode cX6_added 41 = .ok (.iload_n 3, 1) := by decide +kernel
theorem dX6_added_42 : decode cX6_added 42 = .ok (.iastore, 1) := by decide +kernel
theorem dX6_added_43 : decode cX6_added 43 = .ok (.aload_n 0, 1) := by decide +kernel
theorem dX6_added_44 : decode cX6_added 44 = .ok (.getfield 21, 3) := by decide +kernel
theorem dX6_added_47 : decode cX6_added 47 = .ok (.iload 7, 2) := by decide +kernel
theorem dX6_added_49 : decode cX6_added 49 = .ok (.iload 4, 2) := by decide +kernel
theorem dX6_added_51 : decode cX6_added 51 = .ok (.iastore, 1) := by decide +kernel
theorem dX6_added_52 : decode cX6_added 52 = .ok (.aload_n 0, 1) := by decide +kernel
theorem dX6_added_53 : decode cX6_added 53 = .ok (.getfield 24, 3) := by decide +kernel
theorem dX6_added_56 : decode cX6_added 56 = .ok (.iload 7, 2) := by decide +kernel
theorem dX6_added_58 : decode cX6_added 58 = .ok (.iload 5, 2) := by decide +kernel
theorem dX6_added_60 : decode cX6_added 60 = .ok (.iastore, 1) := by decide +kernel
theorem dX6_added_61 : decode cX6_added 61 = .ok (.aload_n 0, 1) := by decide +kernel
theorem dX6_added_62 : decode cX6_added 62 = .ok (.getfield 11, 3) := by decide +kernel
theorem dX6_added_65 : decode cX6_added 65 = .ok (.iload_n 1, 1) := by decide +kernel
theorem dX6_added_66 : decode cX6_added 66 = .ok (.iload 6, 2) := by decide +kernel
theorem dX6_added_68 : decode cX6_added 68 = .ok (.iconst 1, 1) := by decide +kernel
theorem dX6_added_69 : decode cX6_added 69 = .ok (.iadd, 1) := by decide +kernel
theorem dX6_added_70 : decode cX6_added 70 = .ok (.iastore, 1) := by decide +kernel
theorem dX6_added_71 : decode cX6_added 71 = .ok (.iload 6, 2) := by decide +kernel
theorem dX6_added_73 : decode cX6_added 73 = .ok (.ireturn, 1) := by decide +kernel
theorem dX6_emptied_0 : decode cX6_emptied 0 = .ok (.aload_n 0, 1) := by decide +kernel
theorem dX6_emptied_1 : decode cX6_emptied 1 = .ok (.getfield 11, 3) := by decide +kernel
theorem dX6_emptied_4 : decode cX6_emptied 4 = .ok (.iload_n 1, 1) := by decide +kernel
theorem dX6_emptied_5 : decode cX6_emptied 5 = .ok (.iaload, 1) := by decide +kernel
theorem dX6_emptied_6 : decode cX6_emptied 6 = .ok (.istore_n 2, 1) := by decide +kernel
theorem dX6_emptied_7 : decode cX6_emptied 7 = .ok (.aload_n 0, 1) := by decide +kernel
theorem dX6_emptied_8 : decode cX6_emptied 8 = .ok (.getfield 11, 3) := by decide +kernel
theorem dX6_emptied_11 : decode cX6_emptied 11 = .ok (.iload_n 1, 1) := by decide +kernel
theorem dX6_emptied_12 : decode cX6_emptied 12 = .ok (.iconst 0, 1) := by decide +kernel
theorem dX6_emptied_13 : decode cX6_emptied 13 = .ok (.iastore, 1) := by decide +kernel
theorem dX6_emptied_14 : decode cX6_emptied 14 = .ok (.iload_n 2, 1) := by decide +kernel
theorem dX6_emptied_15 : decode cX6_emptied 15 = .ok (.ireturn, 1) := by decide +kernel
theorem dX6_stepsInAll_0 : decode cX6_stepsInAll 0 = .ok (.iconst 0, 1) := by decide +kernel
theorem dX6_stepsInAll_1 : decode cX6_stepsInAll 1 = .ok (.istore_n 1, 1) := by decide +kernel
theorem dX6_stepsInAll_2 : decode cX6_stepsInAll 2 = .ok (.iconst 0, 1) := by decide +kernel
theorem dX6_stepsInAll_3 : decode cX6_stepsInAll 3 = .ok (.istore_n 2, 1) := by decide +kernel
theorem dX6_stepsInAll_4 : decode cX6_stepsInAll 4 = .ok (.iload_n 2, 1) := by decide +kernel
theorem dX6_stepsInAll_5 : decode cX6_stepsInAll 5 = .ok (.iconst 4, 1) := by decide +kernel
theorem dX6_stepsInAll_6 : decode cX6_stepsInAll 6 = .ok (.if_icmp .ge 18, 3) := by decide +kernel
theorem dX6_stepsInAll_9 : decode cX6_stepsInAll 9 = .ok (.iload_n 1, 1) := by decide +kernel
theorem dX6_stepsInAll_10 : decode cX6_stepsInAll 10 = .ok (.aload_n 0, 1) := by decide +kernel
theorem dX6_stepsInAll_11 : decode cX6_stepsInAll 11 = .ok (.getfield 11, 3) := by decide +kernel
theorem dX6_stepsInAll_14 : decode cX6_stepsInAll 14 = .ok (.iload_n 2, 1) := by decide +kernel
theorem dX6_stepsInAll_15 : decode cX6_stepsInAll 15 = .ok (.iaload, 1) := by decide +kernel
theorem dX6_stepsInAll_16 : decode cX6_stepsInAll 16 = .ok (.iadd, 1) := by decide +kernel
theorem dX6_stepsInAll_17 : decode cX6_stepsInAll 17 = .ok (.istore_n 1, 1) := by decide +kernel
theorem dX6_stepsInAll_18 : decode cX6_stepsInAll 18 = .ok (.iinc 2 1, 3) := by decide +kernel
theorem dX6_stepsInAll_21 : decode cX6_stepsInAll 21 = .ok (.goto (-17), 3) := by decide +kernel
theorem dX6_stepsInAll_24 : decode cX6_stepsInAll 24 = .ok (.iload_n 1, 1) := by decide +kernel
theorem dX6_stepsInAll_25 : decode cX6_stepsInAll 25 = .ok (.ireturn, 1) := by decide +kernel
theorem dX6_lengthOf_0 : decode cX6_lengthOf 0 = .ok (.aload_n 0, 1) := by decide +kernel
theorem dX6_lengthOf_1 : decode cX6_lengthOf 1 = .ok (.getfield 11, 3) := by decide +kernel
theorem dX6_lengthOf_4 : decode cX6_lengthOf 4 = .ok (.iload_n 1, 1) := by decide +kernel
theorem dX6_lengthOf_5 : decode cX6_lengthOf 5 = .ok (.iaload, 1) := by decide +kernel
theorem dX6_lengthOf_6 : decode cX6_lengthOf 6 = .ok (.ireturn, 1) := by decide +kernel
theorem dX6_isPlace_0 : decode cX6_isPlace 0 = .ok (.iload_n 1, 1) := by decide +kernel
theorem dX6_isPlace_1 : decode cX6_isPlace 1 = .ok (.ifCond .lt 26, 3) := by decide +kernel
theorem dX6_isPlace_4 : decode cX6_isPlace 4 = .ok (.iload_n 1, 1) := by decide +kernel
theorem dX6_isPlace_5 : decode cX6_isPlace 5 = .ok (.iconst 4, 1) := by decide +kernel
theorem dX6_isPlace_6 : decode cX6_isPlace 6 = .ok (.if_icmp .ge 21, 3) := by decide +kernel
theorem dX6_isPlace_9 : decode cX6_isPlace 9 = .ok (.iload_n 2, 1) := by decide +kernel
theorem dX6_isPlace_10 : decode cX6_isPlace 10 = .ok (.ifCond .lt 17, 3) := by decide +kernel
theorem dX6_isPlace_13 : decode cX6_isPlace 13 = .ok (.iload_n 2, 1) := by decide +kernel
theorem dX6_isPlace_14 : decode cX6_isPlace 14 = .ok (.aload_n 0, 1) := by decide +kernel
theorem dX6_isPlace_15 : decode cX6_isPlace 15 = .ok (.getfield 11, 3) := by decide +kernel
theorem dX6_isPlace_18 : decode cX6_isPlace 18 = .ok (.iload_n 1, 1) := by decide +kernel
theorem dX6_isPlace_19 : decode cX6_isPlace 19 = .ok (.iaload, 1) := by decide +kernel
theorem dX6_isPlace_20 : decode cX6_isPlace 20 = .ok (.if_icmp .ge 7, 3) := by decide +kernel
theorem dX6_isPlace_23 : decode cX6_isPlace 23 = .ok (.iconst 1, 1) := by decide +kernel
theorem dX6_isPlace_24 : decode cX6_isPlace 24 = .ok (.goto 4, 3) := by decide +kernel
theorem dX6_isPlace_27 : decode cX6_isPlace 27 = .ok (.iconst 0, 1) := by decide +kernel
theorem dX6_isPlace_28 : decode cX6_isPlace 28 = .ok (.ireturn, 1) := by decide +kernel
theorem dX6_opAt_0 : decode cX6_opAt 0 = .ok (.aload_n 0, 1) := by decide +kernel
theorem dX6_opAt_1 : decode cX6_opAt 1 = .ok (.iload_n 1, 1) := by decide +kernel
theorem dX6_opAt_2 : decode cX6_opAt 2 = .ok (.iload_n 2, 1) := by decide +kernel
theorem dX6_opAt_3 : decode cX6_opAt 3 = .ok (.invokevirtual 33, 3) := by decide +kernel
theorem dX6_opAt_6 : decode cX6_opAt 6 = .ok (.ifCond .eq 17, 3) := by decide +kernel
theorem dX6_opAt_9 : decode cX6_opAt 9 = .ok (.aload_n 0, 1) := by decide +kernel
theorem dX6_opAt_10 : decode cX6_opAt 10 = .ok (.getfield 15, 3) := by decide +kernel
theorem dX6_opAt_13 : decode cX6_opAt 13 = .ok (.iload_n 1, 1) := by decide +kernel
theorem dX6_opAt_14 : decode cX6_opAt 14 = .ok (.bipush 40, 2) := by decide +kernel
theorem dX6_opAt_16 : decode cX6_opAt 16 = .ok (.imul, 1) := by decide +kernel
theorem dX6_opAt_17 : decode cX6_opAt 17 = .ok (.iload_n 2, 1) := by decide +kernel
theorem dX6_opAt_18 : decode cX6_opAt 18 = .ok (.iadd, 1) := by decide +kernel
theorem dX6_opAt_19 : decode cX6_opAt 19 = .ok (.iaload, 1) := by decide +kernel
theorem dX6_opAt_20 : decode cX6_opAt 20 = .ok (.goto 4, 3) := by decide +kernel
theorem dX6_opAt_23 : decode cX6_opAt 23 = .ok (.iconst 0, 1) := by decide +kernel
theorem dX6_opAt_24 : decode cX6_opAt 24 = .ok (.ireturn, 1) := by decide +kernel
theorem dX6_aAt_0 : decode cX6_aAt 0 = .ok (.aload_n 0, 1) := by decide +kernel
theorem dX6_aAt_1 : decode cX6_aAt 1 = .ok (.iload_n 1, 1) := by decide +kernel
theorem dX6_aAt_2 : decode cX6_aAt 2 = .ok (.iload_n 2, 1) := by decide +kernel
theorem dX6_aAt_3 : decode cX6_aAt 3 = .ok (.invokevirtual 33, 3) := by decide +kernel
theorem dX6_aAt_6 : decode cX6_aAt 6 = .ok (.ifCond .eq 17, 3) := by decide +kernel
theorem dX6_aAt_9 : decode cX6_aAt 9 = .ok (.aload_n 0, 1) := by decide +kernel
theorem dX6_aAt_10 : decode cX6_aAt 10 = .ok (.getfield 18, 3) := by decide +kernel
theorem dX6_aAt_13 : decode cX6_aAt 13 = .ok (.iload_n 1, 1) := by decide +kernel
theorem dX6_aAt_14 : decode cX6_aAt 14 = .ok (.bipush 40, 2) := by decide +kernel
theorem dX6_aAt_16 : decode cX6_aAt 16 = .ok (.imul, 1) := by decide +kernel
theorem dX6_aAt_17 : decode cX6_aAt 17 = .ok (.iload_n 2, 1) := by decide +kernel
theorem dX6_aAt_18 : decode cX6_aAt 18 = .ok (.iadd, 1) := by decide +kernel
theorem dX6_aAt_19 : decode cX6_aAt 19 = .ok (.iaload, 1) := by decide +kernel
theorem dX6_aAt_20 : decode cX6_aAt 20 = .ok (.goto 4, 3) := by decide +kernel
theorem dX6_aAt_23 : decode cX6_aAt 23 = .ok (.iconst 0, 1) := by decide +kernel
theorem dX6_aAt_24 : decode cX6_aAt 24 = .ok (.ireturn, 1) := by decide +kernel
theorem dX6_bAt_0 : decode cX6_bAt 0 = .ok (.aload_n 0, 1) := by decide +kernel
theorem dX6_bAt_1 : decode cX6_bAt 1 = .ok (.iload_n 1, 1) := by decide +kernel
theorem dX6_bAt_2 : decode cX6_bAt 2 = .ok (.iload_n 2, 1) := by decide +kernel
theorem dX6_bAt_3 : decode cX6_bAt 3 = .ok (.invokevirtual 33, 3) := by decide +kernel
theorem dX6_bAt_6 : decode cX6_bAt 6 = .ok (.ifCond .eq 17, 3) := by decide +kernel
theorem dX6_bAt_9 : decode cX6_bAt 9 = .ok (.aload_n 0, 1) := by decide +kernel
theorem dX6_bAt_10 : decode cX6_bAt 10 = .ok (.getfield 21, 3) := by decide +kernel
theorem dX6_bAt_13 : decode cX6_bAt 13 = .ok (.iload_n 1, 1) := by decide +kernel
theorem dX6_bAt_14 : decode cX6_bAt 14 = .ok (.bipush 40, 2) := by decide +kernel
theorem dX6_bAt_16 : decode cX6_bAt 16 = .ok (.imul, 1) := by decide +kernel
theorem dX6_bAt_17 : decode cX6_bAt 17 = .ok (.iload_n 2, 1) := by decide +kernel
theorem dX6_bAt_18 : decode cX6_bAt 18 = .ok (.iadd, 1) := by decide +kernel
theorem dX6_bAt_19 : decode cX6_bAt 19 = .ok (.iaload, 1) := by decide +kernel
theorem dX6_bAt_20 : decode cX6_bAt 20 = .ok (.goto 4, 3) := by decide +kernel
theorem dX6_bAt_23 : decode cX6_bAt 23 = .ok (.iconst 0, 1) := by decide +kernel
theorem dX6_bAt_24 : decode cX6_bAt 24 = .ok (.ireturn, 1) := by decide +kernel
theorem dX6_cAt_0 : decode cX6_cAt 0 = .ok (.aload_n 0, 1) := by decide +kernel
theorem dX6_cAt_1 : decode cX6_cAt 1 = .ok (.iload_n 1, 1) := by decide +kernel
theorem dX6_cAt_2 : decode cX6_cAt 2 = .ok (.iload_n 2, 1) := by decide +kernel
theorem dX6_cAt_3 : decode cX6_cAt 3 = .ok (.invokevirtual 33, 3) := by decide +kernel
theorem dX6_cAt_6 : decode cX6_cAt 6 = .ok (.ifCond .eq 17, 3) := by decide +kernel
theorem dX6_cAt_9 : decode cX6_cAt 9 = .ok (.aload_n 0, 1) := by decide +kernel
theorem dX6_cAt_10 : decode cX6_cAt 10 = .ok (.getfield 24, 3) := by decide +kernel
theorem dX6_cAt_13 : decode cX6_cAt 13 = .ok (.iload_n 1, 1) := by decide +kernel
theorem dX6_cAt_14 : decode cX6_cAt 14 = .ok (.bipush 40, 2) := by decide +kernel
theorem dX6_cAt_16 : decode cX6_cAt 16 = .ok (.imul, 1) := by decide +kernel
theorem dX6_cAt_17 : decode cX6_cAt 17 = .ok (.iload_n 2, 1) := by decide +kernel
theorem dX6_cAt_18 : decode cX6_cAt 18 = .ok (.iadd, 1) := by decide +kernel
theorem dX6_cAt_19 : decode cX6_cAt 19 = .ok (.iaload, 1) := by decide +kernel
theorem dX6_cAt_20 : decode cX6_cAt 20 = .ok (.goto 4, 3) := by decide +kernel
theorem dX6_cAt_23 : decode cX6_cAt 23 = .ok (.iconst 0, 1) := by decide +kernel
theorem dX6_cAt_24 : decode cX6_cAt 24 = .ok (.ireturn, 1) := by decide +kernel
theorem dX6_endAt_0 : decode cX6_endAt 0 = .ok (.aload_n 0, 1) := by decide +kernel
theorem dX6_endAt_1 : decode cX6_endAt 1 = .ok (.iload_n 1, 1) := by decide +kernel
theorem dX6_endAt_2 : decode cX6_endAt 2 = .ok (.iload_n 2, 1) := by decide +kernel
theorem dX6_endAt_3 : decode cX6_endAt 3 = .ok (.invokevirtual 33, 3) := by decide +kernel
theorem dX6_endAt_6 : decode cX6_endAt 6 = .ok (.ifCond .eq 17, 3) := by decide +kernel
theorem dX6_endAt_9 : decode cX6_endAt 9 = .ok (.aload_n 0, 1) := by decide +kernel
theorem dX6_endAt_10 : decode cX6_endAt 10 = .ok (.getfield 27, 3) := by decide +kernel
theorem dX6_endAt_13 : decode cX6_endAt 13 = .ok (.iload_n 1, 1) := by decide +kernel
theorem dX6_endAt_14 : decode cX6_endAt 14 = .ok (.bipush 40, 2) := by decide +kernel
theorem dX6_endAt_16 : decode cX6_endAt 16 = .ok (.imul, 1) := by decide +kernel
theorem dX6_endAt_17 : decode cX6_endAt 17 = .ok (.iload_n 2, 1) := by decide +kernel
theorem dX6_endAt_18 : decode cX6_endAt 18 = .ok (.iadd, 1) := by decide +kernel
theorem dX6_endAt_19 : decode cX6_endAt 19 = .ok (.iaload, 1) := by decide +kernel
theorem dX6_endAt_20 : decode cX6_endAt 20 = .ok (.goto 4, 3) := by decide +kernel
theorem dX6_endAt_23 : decode cX6_endAt 23 = .ok (.iconst 0, 1) := by decide +kernel
theorem dX6_endAt_24 : decode cX6_endAt 24 = .ok (.ireturn, 1) := by decide +kernel
theorem dX6_firstWrong_0 : decode cX6_firstWrong 0 = .ok (.iconst 0, 1) := by decide +kernel
theorem dX6_firstWrong_1 : decode cX6_firstWrong 1 = .ok (.istore_n 2, 1) := by decide +kernel
theorem dX6_firstWrong_2 : decode cX6_firstWrong 2 = .ok (.iconst 0, 1) := by decide +kernel
theorem dX6_firstWrong_3 : decode cX6_firstWrong 3 = .ok (.istore_n 3, 1) := by decide +kernel
theorem dX6_firstWrong_4 : decode cX6_firstWrong 4 = .ok (.iconst 0, 1) := by decide +kernel
theorem dX6_firstWrong_5 : decode cX6_firstWrong 5 = .ok (.istore 4, 2) := by decide +kernel
theorem dX6_firstWrong_7 : decode cX6_firstWrong 7 = .ok (.iload 4, 2) := by decide +kernel
theorem dX6_firstWrong_9 : decode cX6_firstWrong 9 = .ok (.aload_n 0, 1) := by decide +kernel
theorem dX6_firstWrong_10 : decode cX6_firstWrong 10 = .ok (.getfield 11, 3) := by decide +kernel
theorem dX6_firstWrong_13 : decode cX6_firstWrong 13 = .ok (.iload_n 1, 1) := by decide +kernel
theorem dX6_firstWrong_14 : decode cX6_firstWrong 14 = .ok (.iaload, 1) := by decide +kernel
theorem dX6_firstWrong_15 : decode cX6_firstWrong 15 = .ok (.if_icmp .ge 134, 3) := by decide +kernel
theorem dX6_firstWrong_18 : decode cX6_firstWrong 18 = .ok (.aload_n 0, 1) := by decide +kernel
theorem dX6_firstWrong_19 : decode cX6_firstWrong 19 = .ok (.getfield 15, 3) := by decide +kernel
theorem dX6_firstWrong_22 : decode cX6_firstWrong 22 = .ok (.iload_n 1, 1) := by decide +kernel
theorem dX6_firstWrong_23 : decode cX6_firstWrong 23 = .ok (.bipush 40, 2) := by decide +kernel
theorem dX6_firstWrong_25 : decode cX6_firstWrong 25 = .ok (.imul, 1) := by decide +kernel
theorem dX6_firstWrong_26 : decode cX6_firstWrong 26 = .ok (.iload 4, 2) := by decide +kernel
theorem dX6_firstWrong_28 : decode cX6_firstWrong 28 = .ok (.iadd, 1) := by decide +kernel
theorem dX6_firstWrong_29 : decode cX6_firstWrong 29 = .ok (.iaload, 1) := by decide +kernel
theorem dX6_firstWrong_30 : decode cX6_firstWrong 30 = .ok (.istore 5, 2) := by decide +kernel
theorem dX6_firstWrong_32 : decode cX6_firstWrong 32 = .ok (.iload 5, 2) := by decide +kernel
theorem dX6_firstWrong_34 : decode cX6_firstWrong 34 = .ok (.bipush 17, 2) := by decide +kernel
theorem dX6_firstWrong_36 : decode cX6_firstWrong 36 = .ok (.if_icmp .eq 10, 3) := by decide +kernel
theorem dX6_firstWrong_39 : decode cX6_firstWrong 39 = .ok (.iload 5, 2) := by decide +kernel
theorem dX6_firstWrong_41 : decode cX6_firstWrong 41 = .ok (.bipush 18, 2) := by decide +kernel
theorem dX6_firstWrong_43 : decode cX6_firstWrong 43 = .ok (.if_icmp .ne 10, 3) := by decide +kernel
theorem dX6_firstWrong_46 : decode cX6_firstWrong 46 = .ok (.iload_n 3, 1) := by decide +kernel
theorem dX6_firstWrong_47 : decode cX6_firstWrong 47 = .ok (.ifCond .ne 6, 3) := by decide +kernel
theorem dX6_firstWrong_50 : decode cX6_firstWrong 50 = .ok (.iload 4, 2) := by decide +kernel
theorem dX6_firstWrong_52 : decode cX6_firstWrong 52 = .ok (.ireturn, 1) := by decide +kernel
theorem dX6_firstWrong_53 : decode cX6_firstWrong 53 = .ok (.iconst 0, 1) := by decide +kernel
theorem dX6_firstWrong_54 : decode cX6_firstWrong 54 = .ok (.istore_n 3, 1) := by decide +kernel
theorem dX6_firstWrong_55 : decode cX6_firstWrong 55 = .ok (.iload 5, 2) := by decide +kernel
theorem dX6_firstWrong_57 : decode cX6_firstWrong 57 = .ok (.ifCond .ne 68, 3) := by decide +kernel
theorem dX6_firstWrong_60 : decode cX6_firstWrong 60 = .ok (.iload_n 2, 1) := by decide +kernel
theorem dX6_firstWrong_61 : decode cX6_firstWrong 61 = .ok (.ifCond .ne 6, 3) := by decide +kernel
theorem dX6_firstWrong_64 : decode cX6_firstWrong 64 = .ok (.iload 4, 2) := by decide +kernel
theorem dX6_firstWrong_66 : decode cX6_firstWrong 66 = .ok (.ireturn, 1) := by decide +kernel
theorem dX6_firstWrong_67 : decode cX6_firstWrong 67 = .ok (.iinc 2 (-1), 3) := by decide +kernel
theorem dX6_firstWrong_70 : decode cX6_firstWrong 70 = .ok (.iload_n 1, 1) := by decide +kernel
theorem dX6_firstWrong_71 : decode cX6_firstWrong 71 = .ok (.bipush 40, 2) := by decide +kernel
theorem dX6_firstWrong_73 : decode cX6_firstWrong 73 = .ok (.imul, 1) := by decide +kernel
theorem dX6_firstWrong_74 : decode cX6_firstWrong 74 = .ok (.aload_n 0, 1) := by decide +kernel
theorem dX6_firstWrong_75 : decode cX6_firstWrong 75 = .ok (.getfield 30, 3) := by decide +kernel
theorem dX6_firstWrong_78 : decode cX6_firstWrong 78 = .ok (.iload_n 2, 1) := by decide +kernel
theorem dX6_firstWrong_79 : decode cX6_firstWrong 79 = .ok (.iaload, 1) := by decide +kernel
theorem dX6_firstWrong_80 : decode cX6_firstWrong 80 = .ok (.iadd, 1) := by decide +kernel
theorem dX6_firstWrong_81 : decode cX6_firstWrong 81 = .ok (.istore 6, 2) := by decide +kernel
theorem dX6_firstWrong_83 : decode cX6_firstWrong 83 = .ok (.aload_n 0, 1) := by decide +kernel
theorem dX6_firstWrong_84 : decode cX6_firstWrong 84 = .ok (.getfield 27, 3) := by decide +kernel
theorem dX6_firstWrong_87 : decode cX6_firstWrong 87 = .ok (.iload 6, 2) := by decide +kernel
theorem dX6_firstWrong_89 : decode cX6_firstWrong 89 = .ok (.iload 4, 2) := by decide +kernel
theorem dX6_firstWrong_91 : decode cX6_firstWrong 91 = .ok (.iastore, 1) := by decide +kernel
theorem dX6_firstWrong_92 : decode cX6_firstWrong 92 = .ok (.aload_n 0, 1) := by decide +kernel
theorem dX6_firstWrong_93 : decode cX6_firstWrong 93 = .ok (.getfield 15, 3) := by decide +kernel
theorem dX6_firstWrong_96 : decode cX6_firstWrong 96 = .ok (.iload 6, 2) := by decide +kernel
theorem dX6_firstWrong_98 : decode cX6_firstWrong 98 = .ok (.iaload, 1) := by decide +kernel
theorem dX6_firstWrong_99 : decode cX6_firstWrong 99 = .ok (.bipush 16, 2) := by decide +kernel
theorem dX6_firstWrong_101 : decode cX6_firstWrong 101 = .ok (.if_icmp .eq 15, 3) := by decide +kernel
theorem dX6_firstWrong_104 : decode cX6_firstWrong 104 = .ok (.aload_n 0, 1) := by decide +kernel
theorem dX6_firstWrong_105 : decode cX6_firstWrong 105 = .ok (.getfield 15, 3) := by decide +kernel
theorem dX6_firstWrong_108 : decode cX6_firstWrong 108 = .ok (.iload 6, 2) := by decide +kernel
theorem dX6_firstWrong_110 : decode cX6_firstWrong 110 = .ok (.iaload, 1) := by decide +kernel
theorem dX6_firstWrong_111 : decode cX6_firstWrong 111 = .ok (.bipush 17, 2) := by decide +kernel
theorem dX6_firstWrong_113 : decode cX6_firstWrong 113 = .ok (.if_icmp .ne 7, 3) := by decide +kernel
theorem dX6_firstWrong_116 : decode cX6_firstWrong 116 = .ok (.iconst 1, 1) := by decide +kernel
theorem dX6_firstWrong_117 : decode cX6_firstWrong 117 = .ok (.goto 4, 3) := by decide +kernel
theorem dX6_firstWrong_120 : decode cX6_firstWrong 120 = .ok (.iconst 0, 1) := by decide +kernel
theorem dX6_firstWrong_121 : decode cX6_firstWrong 121 = .ok (.istore_n 3, 1) := by decide +kernel
theorem dX6_firstWrong_122 : decode cX6_firstWrong 122 = .ok (.goto 21, 3) := by decide +kernel
theorem dX6_firstWrong_125 : decode cX6_firstWrong 125 = .ok (.iload 5, 2) := by decide +kernel
theorem dX6_firstWrong_127 : decode cX6_firstWrong 127 = .ok (.bipush 11, 2) := by decide +kernel
theorem dX6_firstWrong_129 : decode cX6_firstWrong 129 = .ok (.if_icmp .lt 14, 3) := by decide +kernel
theorem dX6_firstWrong_132 : decode cX6_firstWrong 132 = .ok (.aload_n 0, 1) := by decide +kernel
theorem dX6_firstWrong_133 : decode cX6_firstWrong 133 = .ok (.getfield 30, 3) := by decide +kernel
theorem dX6_firstWrong_136 : decode cX6_firstWrong 136 = .ok (.iload_n 2, 1) := by decide +kernel
theorem dX6_firstWrong_137 : decode cX6_firstWrong 137 = .ok (.iload 4, 2) := by decide +kernel
theorem dX6_firstWrong_139 : decode cX6_firstWrong 139 = .ok (.iastore, 1) := by decide +kernel
theorem dX6_firstWrong_140 : decode cX6_firstWrong 140 = .ok (.iinc 2 1, 3) := by decide +kernel
theorem dX6_firstWrong_143 : decode cX6_firstWrong 143 = .ok (.iinc 4 1, 3) := by decide +kernel
theorem dX6_firstWrong_146 : decode cX6_firstWrong 146 = .ok (.goto (-139), 3) := by decide +kernel
theorem dX6_firstWrong_149 : decode cX6_firstWrong 149 = .ok (.iload_n 2, 1) := by decide +kernel
theorem dX6_firstWrong_150 : decode cX6_firstWrong 150 = .ok (.ifCond .ne 7, 3) := by decide +kernel
theorem dX6_firstWrong_153 : decode cX6_firstWrong 153 = .ok (.iconst (-1), 1) := by decide +kernel
theorem dX6_firstWrong_154 : decode cX6_firstWrong 154 = .ok (.goto 9, 3) := by decide +kernel
theorem dX6_firstWrong_157 : decode cX6_firstWrong 157 = .ok (.aload_n 0, 1) := by decide +kernel
theorem dX6_firstWrong_158 : decode cX6_firstWrong 158 = .ok (.getfield 11, 3) := by decide +kernel
theorem dX6_firstWrong_161 : decode cX6_firstWrong 161 = .ok (.iload_n 1, 1) := by decide +kernel
theorem dX6_firstWrong_162 : decode cX6_firstWrong 162 = .ok (.iaload, 1) := by decide +kernel
theorem dX6_firstWrong_163 : decode cX6_firstWrong 163 = .ok (.ireturn, 1) := by decide +kernel
theorem dX7_init_0 : decode cX7_init 0 = .ok (.aload_n 0, 1) := by decide +kernel
theorem dX7_init_1 : decode cX7_init 1 = .ok (.invokespecial 3, 3) := by decide +kernel
theorem dX7_init_4 : decode cX7_init 4 = .ok (.aload_n 0, 1) := by decide +kernel
theorem dX7_init_5 : decode cX7_init 5 = .ok (.bipush 16, 2) := by decide +kernel
theorem dX7_init_7 : decode cX7_init 7 = .ok (.anewarray 9, 3) := by decide +kernel
theorem dX7_init_10 : decode cX7_init 10 = .ok (.putfield 11, 3) := by decide +kernel
theorem dX7_init_13 : decode cX7_init 13 = .ok (.aload_n 0, 1) := by decide +kernel
theorem dX7_init_14 : decode cX7_init 14 = .ok (.new 17, 3) := by decide +kernel
theorem dX7_init_17 : decode cX7_init 17 = .ok (.dup, 1) := by decide +kernel
theorem dX7_init_18 : decode cX7_init 18 = .ok (.invokespecial 19, 3) := by decide +kernel
theorem dX7_init_21 : decode cX7_init 21 = .ok (.putfield 20, 3) := by decide +kernel
theorem dX7_init_24 : decode cX7_init 24 = .ok (.aload_n 0, 1) := by decide +kernel
theorem dX7_init_25 : decode cX7_init 25 = .ok (.new 24, 3) := by decide +kernel
theorem dX7_init_28 : decode cX7_init 28 = .ok (.dup, 1) := by decide +kernel
theorem dX7_init_29 : decode cX7_init 29 = .ok (.invokespecial 26, 3) := by decide +kernel
theorem dX7_init_32 : decode cX7_init 32 = .ok (.putfield 27, 3) := by decide +kernel
theorem dX7_init_35 : decode cX7_init 35 = .ok (.aload_n 0, 1) := by decide +kernel
theorem dX7_init_36 : decode cX7_init 36 = .ok (.new 31, 3) := by decide +kernel
theorem dX7_init_39 : decode cX7_init 39 = .ok (.dup, 1) := by decide +kernel
theorem dX7_init_40 : decode cX7_init 40 = .ok (.invokespecial 33, 3) := by decide +kernel
theorem dX7_init_43 : decode cX7_init 43 = .ok (.putfield 34, 3) := by decide +kernel
theorem dX7_init_46 : decode cX7_init 46 = .ok (.aload_n 0, 1) := by decide +kernel
theorem dX7_init_47 : decode cX7_init 47 = .ok (.sipush 160, 3) := by decide +kernel
theorem dX7_init_50 : decode cX7_init 50 = .ok (.anewarray 38, 3) := by decide +kernel
theorem dX7_init_53 : decode cX7_init 53 = .ok (.putfield 40, 3) := by decide +kernel
theorem dX7_init_56 : decode cX7_init 56 = .ok (.aload_n 0, 1) := by decide +kernel
theorem dX7_init_57 : decode cX7_init 57 = .ok (.bipush 6, 2) := by decide +kernel
theorem dX7_init_59 : decode cX7_init 59 = .ok (.newarray .int, 2) := by decide +kernel
theorem dX7_init_61 : decode cX7_init 61 = .ok (.putfield 44, 3) := by decide +kernel
theorem dX7_init_64 : decode cX7_init 64 = .ok (.return_, 1) := by decide +kernel
theorem dX7_wholeRun_0 : decode cX7_wholeRun 0 = .ok (.aload_n 0, 1) := by decide +kernel
theorem dX7_wholeRun_1 : decode cX7_wholeRun 1 = .ok (.getfield 34, 3) := by decide +kernel
theorem dX7_wholeRun_4 : decode cX7_wholeRun 4 = .ok (.invokevirtual 48, 3) := by decide +kernel
theorem dX7_wholeRun_7 : decode cX7_wholeRun 7 = .ok (.aload_n 0, 1) := by decide +kernel
theorem dX7_wholeRun_8 : decode cX7_wholeRun 8 = .ok (.iconst 0, 1) := by decide +kernel
theorem dX7_wholeRun_9 : decode cX7_wholeRun 9 = .ok (.putfield 51, 3) := by decide +kernel
theorem dX7_wholeRun_12 : decode cX7_wholeRun 12 = .ok (.aload_n 0, 1) := by decide +kernel
theorem dX7_wholeRun_13 : decode cX7_wholeRun 13 = .ok (.iconst 0, 1) := by decide +kernel
theorem dX7_wholeRun_14 : decode cX7_wholeRun 14 = .ok (.putfield 55, 3) := by decide +kernel
theorem dX7_wholeRun_17 : decode cX7_wholeRun 17 = .ok (.aload_n 0, 1) := by decide +kernel
theorem dX7_wholeRun_18 : decode cX7_wholeRun 18 = .ok (.iconst 0, 1) := by decide +kernel
theorem dX7_wholeRun_19 : decode cX7_wholeRun 19 = .ok (.putfield 58, 3) := by decide +kernel
theorem dX7_wholeRun_22 : decode cX7_wholeRun 22 = .ok (.aload_n 0, 1) := by decide +kernel
theorem dX7_wholeRun_23 : decode cX7_wholeRun 23 = .ok (.iconst 0, 1) := by decide +kernel
theorem dX7_wholeRun_24 : decode cX7_wholeRun 24 = .ok (.putfield 61, 3) := by decide +kernel
theorem dX7_wholeRun_27 : decode cX7_wholeRun 27 = .ok (.aload_n 0, 1) := by decide +kernel
theorem dX7_wholeRun_28 : decode cX7_wholeRun 28 = .ok (.iconst 0, 1) := by decide +kernel
theorem dX7_wholeRun_29 : decode cX7_wholeRun 29 = .ok (.putfield 64, 3) := by decide +kernel
theorem dX7_wholeRun_32 : decode cX7_wholeRun 32 = .ok (.aload_n 0, 1) := by decide +kernel
theorem dX7_wholeRun_33 : decode cX7_wholeRun 33 = .ok (.iconst 0, 1) := by decide +kernel
theorem dX7_wholeRun_34 : decode cX7_wholeRun 34 = .ok (.putfield 67, 3) := by decide +kernel
theorem dX7_wholeRun_37 : decode cX7_wholeRun 37 = .ok (.aload_n 0, 1) := by decide +kernel
theorem dX7_wholeRun_38 : decode cX7_wholeRun 38 = .ok (.iconst 0, 1) := by decide +kernel
theorem dX7_wholeRun_39 : decode cX7_wholeRun 39 = .ok (.putfield 70, 3) := by decide +kernel
theorem dX7_wholeRun_42 : decode cX7_wholeRun 42 = .ok (.iconst 0, 1) := by decide +kernel
theorem dX7_wholeRun_43 : decode cX7_wholeRun 43 = .ok (.istore_n 2, 1) := by decide +kernel
theorem dX7_wholeRun_44 : decode cX7_wholeRun 44 = .ok (.iload_n 2, 1) := by decide +kernel
theorem dX7_wholeRun_45 : decode cX7_wholeRun 45 = .ok (.bipush 6, 2) := by decide +kernel
theorem dX7_wholeRun_47 : decode cX7_wholeRun 47 = .ok (.if_icmp .ge 16, 3) := by decide +kernel
theorem dX7_wholeRun_50 : decode cX7_wholeRun 50 = .ok (.aload_n 0, 1) := by decide +kernel
theorem dX7_wholeRun_51 : decode cX7_wholeRun 51 = .ok (.getfield 44, 3) := by decide +kernel
theorem dX7_wholeRun_54 : decode cX7_wholeRun 54 = .ok (.iload_n 2, 1) := by decide +kernel
theorem dX7_wholeRun_55 : decode cX7_wholeRun 55 = .ok (.iconst 0, 1) := by decide +kernel
theorem dX7_wholeRun_56 : decode cX7_wholeRun 56 = .ok (.iastore, 1) := by decide +kernel
theorem dX7_wholeRun_57 : decode cX7_wholeRun 57 = .ok (.iinc 2 1, 3) := by decide +kernel
theorem dX7_wholeRun_60 : decode cX7_wholeRun 60 = .ok (.goto (-16), 3) := by decide +kernel
theorem dX7_wholeRun_63 : decode cX7_wholeRun 63 = .ok (.aload_n 0, 1) := by decide +kernel
theorem dX7_wholeRun_64 : decode cX7_wholeRun 64 = .ok (.bipush 21, 2) := by decide +kernel
theorem dX7_wholeRun_66 : decode cX7_wholeRun 66 = .ok (.iload_n 1, 1) := by decide +kernel
theorem dX7_wholeRun_67 : decode cX7_wholeRun 67 = .ok (.invokevirtual 73, 3) := by decide +kernel
theorem dX7_wholeRun_70 : decode cX7_wholeRun 70 = .ok (.iconst 0, 1) := by decide +kernel
theorem dX7_wholeRun_71 : decode cX7_wholeRun 71 = .ok (.istore_n 2, 1) := by decide +kernel
theorem dX7_wholeRun_72 : decode cX7_wholeRun 72 = .ok (.iload_n 2, 1) := by decide +kernel
theorem dX7_wholeRun_73 : decode cX7_wholeRun 73 = .ok (.ldc 77, 2) := by decide +kernel
theorem dX7_wholeRun_75 : decode cX7_wholeRun 75 = .ok (.if_icmp .ge 107, 3) := by decide +kernel
theorem dX7_wholeRun_78 : decode cX7_wholeRun 78 = .ok (.aload_n 0, 1) := by decide +kernel
theorem dX7_wholeRun_79 : decode cX7_wholeRun 79 = .ok (.getfield 70, 3) := by decide +kernel
theorem dX7_wholeRun_82 : decode cX7_wholeRun 82 = .ok (.ifCond .le 100, 3) := by decide +kernel
theorem dX7_wholeRun_85 : decode cX7_wholeRun 85 = .ok (.aload_n 0, 1) := by decide +kernel
theorem dX7_wholeRun_86 : decode cX7_wholeRun 86 = .ok (.invokevirtual 78, 3) := by decide +kernel
theorem dX7_wholeRun_89 : decode cX7_wholeRun 89 = .ok (.astore_n 3, 1) := by decide +kernel
theorem dX7_wholeRun_90 : decode cX7_wholeRun 90 = .ok (.aload_n 3, 1) := by decide +kernel
theorem dX7_wholeRun_91 : decode cX7_wholeRun 91 = .ok (.ifnonnull 11, 3) := by decide +kernel
theorem dX7_wholeRun_94 : decode cX7_wholeRun 94 = .ok (.aload_n 0, 1) := by decide +kernel
theorem dX7_wholeRun_95 : decode cX7_wholeRun 95 = .ok (.iconst 0, 1) := by decide +kernel
theorem dX7_wholeRun_96 : decode cX7_wholeRun 96 = .ok (.putfield 70, 3) := by decide +kernel
theorem dX7_wholeRun_99 : decode cX7_wholeRun 99 = .ok (.goto 77, 3) := by decide +kernel
theorem dX7_wholeRun_102 : decode cX7_wholeRun 102 = .ok (.aload_n 0, 1) := by decide +kernel
theorem dX7_wholeRun_103 : decode cX7_wholeRun 103 = .ok (.getfield 44, 3) := by decide +kernel
theorem dX7_wholeRun_106 : decode cX7_wholeRun 106 = .ok (.iconst 0, 1) := by decide +kernel
theorem dX7_wholeRun_107 : decode cX7_wholeRun 107 = .ok (.iaload, 1) := by decide +kernel
theorem dX7_wholeRun_108 : decode cX7_wholeRun 108 = .ok (.ifCond .ne 14, 3) := by decide +kernel
theorem dX7_wholeRun_111 : decode cX7_wholeRun 111 = .ok (.aload_n 3, 1) := by decide +kernel
theorem dX7_wholeRun_112 : decode cX7_wholeRun 112 = .ok (.getfield 82, 3) := by decide +kernel
theorem dX7_wholeRun_115 : decode cX7_wholeRun 115 = .ok (.aload_n 3, 1) := by decide +kernel
theorem dX7_wholeRun_116 : decode cX7_wholeRun 116 = .ok (.getfield 85, 3) := by decide +kernel
theorem dX7_wholeRun_119 : decode cX7_wholeRun 119 = .ok (.if_icmp .lt 11, 3) := by decide +kernel
theorem dX7_wholeRun_122 : decode cX7_wholeRun 122 = .ok (.aload_n 0, 1) := by decide +kernel
theorem dX7_wholeRun_123 : decode cX7_wholeRun 123 = .ok (.aload_n 3, 1) := by decide +kernel
theorem dX7_wholeRun_124 : decode cX7_wholeRun 124 = .ok (.invokevirtual 88, 3) := by decide +kernel
theorem dX7_wholeRun_127 : decode cX7_wholeRun 127 = .ok (.goto 49, 3) := by decide +kernel
theorem dX7_wholeRun_130 : decode cX7_wholeRun 130 = .ok (.aload_n 0, 1) := by decide +kernel
theorem dX7_wholeRun_131 : decode cX7_wholeRun 131 = .ok (.aload_n 3, 1) := by decide +kernel
theorem dX7_wholeRun_132 : decode cX7_wholeRun 132 = .ok (.invokevirtual 92, 3) := by decide +kernel
theorem dX7_wholeRun_135 : decode cX7_wholeRun 135 = .ok (.ifCond .eq 41, 3) := by decide +kernel
theorem dX7_wholeRun_138 : decode cX7_wholeRun 138 = .ok (.aload_n 0, 1) := by decide +kernel
theorem dX7_wholeRun_139 : decode cX7_wholeRun 139 = .ok (.aload_n 3, 1) := by decide +kernel
theorem dX7_wholeRun_140 : decode cX7_wholeRun 140 = .ok (.getfield 96, 3) := by decide +kernel
theorem dX7_wholeRun_143 : decode cX7_wholeRun 143 = .ok (.aload_n 0, 1) := by decide +kernel
theorem dX7_wholeRun_144 : decode cX7_wholeRun 144 = .ok (.getfield 27, 3) := by decide +kernel
theorem dX7_wholeRun_147 : decode cX7_wholeRun 147 = .ok (.aload_n 3, 1) := by decide +kernel
theorem dX7_wholeRun_148 : decode cX7_wholeRun 148 = .ok (.getfield 96, 3) := by decide +kernel
theorem dX7_wholeRun_151 : decode cX7_wholeRun 151 = .ok (.aload_n 0, 1) := by decide +kernel
theorem dX7_wholeRun_152 : decode cX7_wholeRun 152 = .ok (.getfield 99, 3) := by decide +kernel
theorem dX7_wholeRun_155 : decode cX7_wholeRun 155 = .ok (.invokevirtual 102, 3) := by decide +kernel
theorem dX7_wholeRun_158 : decode cX7_wholeRun 158 = .ok (.aload_n 0, 1) := by decide +kernel
theorem dX7_wholeRun_159 : decode cX7_wholeRun 159 = .ok (.getfield 27, 3) := by decide +kernel
theorem dX7_wholeRun_162 : decode cX7_wholeRun 162 = .ok (.aload_n 3, 1) := by decide +kernel
theorem dX7_wholeRun_163 : decode cX7_wholeRun 163 = .ok (.getfield 96, 3) := by decide +kernel
theorem dX7_wholeRun_166 : decode cX7_wholeRun 166 = .ok (.aload_n 0, 1) := by decide +kernel
theorem dX7_wholeRun_167 : decode cX7_wholeRun 167 = .ok (.getfield 99, 3) := by decide +kernel
theorem dX7_wholeRun_170 : decode cX7_wholeRun 170 = .ok (.invokevirtual 106, 3) := by decide +kernel
theorem dX7_wholeRun_173 : decode cX7_wholeRun 173 = .ok (.invokevirtual 109, 3) := by decide +kernel
theorem dX7_wholeRun_176 : decode cX7_wholeRun 176 = .ok (.iinc 2 1, 3) := by decide +kernel
theorem dX7_wholeRun_179 : decode cX7_wholeRun 179 = .ok (.goto (-107), 3) := by decide +kernel
theorem dX7_wholeRun_182 : decode cX7_wholeRun 182 = .ok (.aload_n 0, 1) := by decide +kernel
theorem dX7_wholeRun_183 : decode cX7_wholeRun 183 = .ok (.getfield 44, 3) := by decide +kernel
theorem dX7_wholeRun_186 : decode cX7_wholeRun 186 = .ok (.iconst 0, 1) := by decide +kernel
theorem dX7_wholeRun_187 : decode cX7_wholeRun 187 = .ok (.iaload, 1) := by decide +kernel
theorem dX7_wholeRun_188 : decode cX7_wholeRun 188 = .ok (.iconst 3, 1) := by decide +kernel
theorem dX7_wholeRun_189 : decode cX7_wholeRun 189 = .ok (.if_icmp .ne 6, 3) := by decide +kernel
theorem dX7_wholeRun_192 : decode cX7_wholeRun 192 = .ok (.bipush (-30), 2) := by decide +kernel
theorem dX7_wholeRun_194 : decode cX7_wholeRun 194 = .ok (.ireturn, 1) := by decide +kernel
theorem dX7_wholeRun_195 : decode cX7_wholeRun 195 = .ok (.aload_n 0, 1) := by decide +kernel
theorem dX7_wholeRun_196 : decode cX7_wholeRun 196 = .ok (.getfield 44, 3) := by decide +kernel
theorem dX7_wholeRun_199 : decode cX7_wholeRun 199 = .ok (.iconst 0, 1) := by decide +kernel
theorem dX7_wholeRun_200 : decode cX7_wholeRun 200 = .ok (.iaload, 1) := by decide +kernel
theorem dX7_wholeRun_201 : decode cX7_wholeRun 201 = .ok (.iconst 2, 1) := by decide +kernel
theorem dX7_wholeRun_202 : decode cX7_wholeRun 202 = .ok (.if_icmp .ne 5, 3) := by decide +kernel
theorem dX7_wholeRun_205 : decode cX7_wholeRun 205 = .ok (.iconst 1, 1) := by decide +kernel
theorem dX7_wholeRun_206 : decode cX7_wholeRun 206 = .ok (.ireturn, 1) := by decide +kernel
theorem dX7_wholeRun_207 : decode cX7_wholeRun 207 = .ok (.aload_n 0, 1) := by decide +kernel
theorem dX7_wholeRun_208 : decode cX7_wholeRun 208 = .ok (.getfield 44, 3) := by decide +kernel
theorem dX7_wholeRun_211 : decode cX7_wholeRun 211 = .ok (.iconst 0, 1) := by decide +kernel
theorem dX7_wholeRun_212 : decode cX7_wholeRun 212 = .ok (.iaload, 1) := by decide +kernel
theorem dX7_wholeRun_213 : decode cX7_wholeRun 213 = .ok (.iconst 1, 1) := by decide +kernel
theorem dX7_wholeRun_214 : decode cX7_wholeRun 214 = .ok (.if_icmp .ne 15, 3) := by decide +kernel
theorem dX7_wholeRun_217 : decode cX7_wholeRun 217 = .ok (.bipush (-10), 2) := by decide +kernel
theorem dX7_wholeRun_219 : decode cX7_wholeRun 219 = .ok (.aload_n 0, 1) := by decide +kernel
theorem dX7_wholeRun_220 : decode cX7_wholeRun 220 = .ok (.getfield 44, 3) := by decide +kernel
theorem dX7_wholeRun_223 : decode cX7_wholeRun 223 = .ok (.iconst 1, 1) := by decide +kernel
theorem dX7_wholeRun_224 : decode cX7_wholeRun 224 = .ok (.iaload, 1) := by decide +kernel
theorem dX7_wholeRun_225 : decode cX7_wholeRun 225 = .ok (.isub, 1) := by decide +kernel
theorem dX7_wholeRun_226 : decode cX7_wholeRun 226 = .ok (.goto 4, 3) := by decide +kernel
theorem dX7_wholeRun_229 : decode cX7_wholeRun 229 = .ok (.iconst 0, 1) := by decide +kernel
theorem dX7_wholeRun_230 : decode cX7_wholeRun 230 = .ok (.ireturn, 1) := by decide +kernel
theorem dX7_faultOut_0 : decode cX7_faultOut 0 = .ok (.aload_n 0, 1) := by decide +kernel
theorem dX7_faultOut_1 : decode cX7_faultOut 1 = .ok (.getfield 44, 3) := by decide +kernel
theorem dX7_faultOut_4 : decode cX7_faultOut 4 = .ok (.iconst 0, 1) := by decide +kernel
theorem dX7_faultOut_5 : decode cX7_faultOut 5 = .ok (.iaload, 1) := by decide +kernel
theorem dX7_faultOut_6 : decode cX7_faultOut 6 = .ok (.iconst 1, 1) := by decide +kernel
theorem dX7_faultOut_7 : decode cX7_faultOut 7 = .ok (.if_icmp .ne 12, 3) := by decide +kernel
theorem dX7_faultOut_10 : decode cX7_faultOut 10 = .ok (.aload_n 0, 1) := by decide +kernel
theorem dX7_faultOut_11 : decode cX7_faultOut 11 = .ok (.getfield 44, 3) := by decide +kernel
theorem dX7_faultOut_14 : decode cX7_faultOut 14 = .ok (.iconst 1, 1) := by decide +kernel
theorem dX7_faultOut_15 : decode cX7_faultOut 15 = .ok (.iaload, 1) := by decide +kernel
theorem dX7_faultOut_16 : decode cX7_faultOut 16 = .ok (.goto 4, 3) := by decide +kernel
theorem dX7_faultOut_19 : decode cX7_faultOut 19 = .ok (.iconst 0, 1) := by decide +kernel
theorem dX7_faultOut_20 : decode cX7_faultOut 20 = .ok (.ireturn, 1) := by decide +kernel
theorem dX7_toldOf_0 : decode cX7_toldOf 0 = .ok (.aload_n 0, 1) := by decide +kernel
theorem dX7_toldOf_1 : decode cX7_toldOf 1 = .ok (.getfield 44, 3) := by decide +kernel
theorem dX7_toldOf_4 : decode cX7_toldOf 4 = .ok (.iconst 0, 1) := by decide +kernel
theorem dX7_toldOf_5 : decode cX7_toldOf 5 = .ok (.iaload, 1) := by decide +kernel
theorem dX7_toldOf_6 : decode cX7_toldOf 6 = .ok (.iconst 1, 1) := by decide +kernel
theorem dX7_toldOf_7 : decode cX7_toldOf 7 = .ok (.if_icmp .ne 7, 3) := by decide +kernel
theorem dX7_toldOf_10 : decode cX7_toldOf 10 = .ok (.iconst 1, 1) := by decide +kernel
theorem dX7_toldOf_11 : decode cX7_toldOf 11 = .ok (.goto 4, 3) := by decide +kernel
theorem dX7_toldOf_14 : decode cX7_toldOf 14 = .ok (.iconst 0, 1) := by decide +kernel
theorem dX7_toldOf_15 : decode cX7_toldOf 15 = .ok (.istore_n 2, 1) := by decide +kernel
theorem dX7_toldOf_16 : decode cX7_toldOf 16 = .ok (.iload_n 1, 1) := by decide +kernel
theorem dX7_toldOf_17 : decode cX7_toldOf 17 = .ok (.tableswitch 133 0 7 #[47, 68, 73, 88, 103, 108, 113, 118], 47) := by decide +kernel
theorem dX7_toldOf_64 : decode cX7_toldOf 64 = .ok (.aload_n 0, 1) := by decide +kernel
theorem dX7_toldOf_65 : decode cX7_toldOf 65 = .ok (.getfield 44, 3) := by decide +kernel
theorem dX7_toldOf_68 : decode cX7_toldOf 68 = .ok (.iconst 0, 1) := by decide +kernel
theorem dX7_toldOf_69 : decode cX7_toldOf 69 = .ok (.iaload, 1) := by decide +kernel
theorem dX7_toldOf_70 : decode cX7_toldOf 70 = .ok (.iconst 2, 1) := by decide +kernel
theorem dX7_toldOf_71 : decode cX7_toldOf 71 = .ok (.if_icmp .ne 12, 3) := by decide +kernel
theorem dX7_toldOf_74 : decode cX7_toldOf 74 = .ok (.aload_n 0, 1) := by decide +kernel
theorem dX7_toldOf_75 : decode cX7_toldOf 75 = .ok (.getfield 44, 3) := by decide +kernel
theorem dX7_toldOf_78 : decode cX7_toldOf 78 = .ok (.iconst 5, 1) := by decide +kernel
theorem dX7_toldOf_79 : decode cX7_toldOf 79 = .ok (.iaload, 1) := by decide +kernel
theorem dX7_toldOf_80 : decode cX7_toldOf 80 = .ok (.goto 4, 3) := by decide +kernel
theorem dX7_toldOf_83 : decode cX7_toldOf 83 = .ok (.iconst 0, 1) := by decide +kernel
theorem dX7_toldOf_84 : decode cX7_toldOf 84 = .ok (.ireturn, 1) := by decide +kernel
theorem dX7_toldOf_85 : decode cX7_toldOf 85 = .ok (.aload_n 0, 1) := by decide +kernel
theorem dX7_toldOf_86 : decode cX7_toldOf 86 = .ok (.getfield 55, 3) := by decide +kernel
theorem dX7_toldOf_89 : decode cX7_toldOf 89 = .ok (.ireturn, 1) := by decide +kernel
theorem dX7_toldOf_90 : decode cX7_toldOf 90 = .ok (.iload_n 2, 1) := by decide +kernel
theorem dX7_toldOf_91 : decode cX7_toldOf 91 = .ok (.ifCond .eq 12, 3) := by decide +kernel
theorem dX7_toldOf_94 : decode cX7_toldOf 94 = .ok (.aload_n 0, 1) := by decide +kernel
theorem dX7_toldOf_95 : decode cX7_toldOf 95 = .ok (.getfield 44, 3) := by decide +kernel
theorem dX7_toldOf_98 : decode cX7_toldOf 98 = .ok (.iconst 3, 1) := by decide +kernel
theorem dX7_toldOf_99 : decode cX7_toldOf 99 = .ok (.iaload, 1) := by decide +kernel
theorem dX7_toldOf_100 : decode cX7_toldOf 100 = .ok (.goto 4, 3) := by decide +kernel
theorem dX7_toldOf_103 : decode cX7_toldOf 103 = .ok (.iconst (-1), 1) := by decide +kernel
theorem dX7_toldOf_104 : decode cX7_toldOf 104 = .ok (.ireturn, 1) := by decide +kernel
theorem dX7_toldOf_105 : decode cX7_toldOf 105 = .ok (.iload_n 2, 1) := by decide +kernel
theorem dX7_toldOf_106 : decode cX7_toldOf 106 = .ok (.ifCond .eq 12, 3) := by decide +kernel
theorem dX7_toldOf_109 : decode cX7_toldOf 109 = .ok (.aload_n 0, 1) := by decide +kernel
theorem dX7_toldOf_110 : decode cX7_toldOf 110 = .ok (.getfield 44, 3) := by decide +kernel
theorem dX7_toldOf_113 : decode cX7_toldOf 113 = .ok (.iconst 4, 1) := by decide +kernel
theorem dX7_toldOf_114 : decode cX7_toldOf 114 = .ok (.iaload, 1) := by decide +kernel
theorem dX7_toldOf_115 : decode cX7_toldOf 115 = .ok (.goto 4, 3) := by decide +kernel
theorem dX7_toldOf_118 : decode cX7_toldOf 118 = .ok (.iconst 0, 1) := by decide +kernel
theorem dX7_toldOf_119 : decode cX7_toldOf 119 = .ok (.ireturn, 1) := by decide +kernel
theorem dX7_toldOf_120 : decode cX7_toldOf 120 = .ok (.aload_n 0, 1) := by decide +kernel
theorem dX7_toldOf_121 : decode cX7_toldOf 121 = .ok (.getfield 58, 3) := by decide +kernel
theorem dX7_toldOf_124 : decode cX7_toldOf 124 = .ok (.ireturn, 1) := by decide +kernel
theorem dX7_toldOf_125 : decode cX7_toldOf 125 = .ok (.aload_n 0, 1) := by decide +kernel
theorem dX7_toldOf_126 : decode cX7_toldOf 126 = .ok (.getfield 61, 3) := by decide +kernel
theorem dX7_toldOf_129 : decode cX7_toldOf 129 = .ok (.ireturn, 1) := by decide +kernel
theorem dX7_toldOf_130 : decode cX7_toldOf 130 = .ok (.aload_n 0, 1) := by decide +kernel
theorem dX7_toldOf_131 : decode cX7_toldOf 131 = .ok (.getfield 64, 3) := by decide +kernel
theorem dX7_toldOf_134 : decode cX7_toldOf 134 = .ok (.ireturn, 1) := by decide +kernel
theorem dX7_toldOf_135 : decode cX7_toldOf 135 = .ok (.iload_n 2, 1) := by decide +kernel
theorem dX7_toldOf_136 : decode cX7_toldOf 136 = .ok (.ifCond .eq 12, 3) := by decide +kernel
theorem dX7_toldOf_139 : decode cX7_toldOf 139 = .ok (.aload_n 0, 1) := by decide +kernel
theorem dX7_toldOf_140 : decode cX7_toldOf 140 = .ok (.getfield 44, 3) := by decide +kernel
theorem dX7_toldOf_143 : decode cX7_toldOf 143 = .ok (.iconst 2, 1) := by decide +kernel
theorem dX7_toldOf_144 : decode cX7_toldOf 144 = .ok (.iaload, 1) := by decide +kernel
theorem dX7_toldOf_145 : decode cX7_toldOf 145 = .ok (.goto 4, 3) := by decide +kernel
theorem dX7_toldOf_148 : decode cX7_toldOf 148 = .ok (.iconst 0, 1) := by decide +kernel
theorem dX7_toldOf_149 : decode cX7_toldOf 149 = .ok (.ireturn, 1) := by decide +kernel
theorem dX7_toldOf_150 : decode cX7_toldOf 150 = .ok (.aload_n 0, 1) := by decide +kernel
theorem dX7_toldOf_151 : decode cX7_toldOf 151 = .ok (.getfield 67, 3) := by decide +kernel
theorem dX7_toldOf_154 : decode cX7_toldOf 154 = .ok (.ireturn, 1) := by decide +kernel
theorem dX7_top_0 : decode cX7_top 0 = .ok (.aload_n 0, 1) := by decide +kernel
theorem dX7_top_1 : decode cX7_top 1 = .ok (.getfield 70, 3) := by decide +kernel
theorem dX7_top_4 : decode cX7_top 4 = .ok (.ifCond .le 27, 3) := by decide +kernel
theorem dX7_top_7 : decode cX7_top 7 = .ok (.aload_n 0, 1) := by decide +kernel
theorem dX7_top_8 : decode cX7_top 8 = .ok (.getfield 70, 3) := by decide +kernel
theorem dX7_top_11 : decode cX7_top 11 = .ok (.sipush 160, 3) := by decide +kernel
theorem dX7_top_14 : decode cX7_top 14 = .ok (.if_icmp .gt 17, 3) := by decide +kernel
theorem dX7_top_17 : decode cX7_top 17 = .ok (.aload_n 0, 1) := by decide +kernel
theorem dX7_top_18 : decode cX7_top 18 = .ok (.getfield 40, 3) := by decide +kernel
theorem dX7_top_21 : decode cX7_top 21 = .ok (.aload_n 0, 1) := by decide +kernel
theorem dX7_top_22 : decode cX7_top 22 = .ok (.getfield 70, 3) := by decide +kernel
theorem dX7_top_25 : decode cX7_top 25 = .ok (.iconst 1, 1) := by decide +kernel
theorem dX7_top_26 : decode cX7_top 26 = .ok (.isub, 1) := by decide +kernel
theorem dX7_top_27 : decode cX7_top 27 = .ok (.aaload, 1) := by decide +kernel
theorem dX7_top_28 : decode cX7_top 28 = .ok (.goto 4, 3) := by decide +kernel
theorem dX7_top_31 : decode cX7_top 31 = .ok (.aconst_null, 1) := by decide +kernel
theorem dX7_top_32 : decode cX7_top 32 = .ok (.areturn, 1) := by decide +kernel
theorem dX7_newTop_0 : decode cX7_newTop 0 = .ok (.aload_n 0, 1) := by decide +kernel
theorem dX7_newTop_1 : decode cX7_newTop 1 = .ok (.getfield 70, 3) := by decide +kernel
theorem dX7_newTop_4 : decode cX7_newTop 4 = .ok (.ifCond .lt 13, 3) := by decide +kernel
theorem dX7_newTop_7 : decode cX7_newTop 7 = .ok (.aload_n 0, 1) := by decide +kernel
theorem dX7_newTop_8 : decode cX7_newTop 8 = .ok (.getfield 70, 3) := by decide +kernel
theorem dX7_newTop_11 : decode cX7_newTop 11 = .ok (.sipush 160, 3) := by decide +kernel
theorem dX7_newTop_14 : decode cX7_newTop 14 = .ok (.if_icmp .lt 5, 3) := by decide +kernel
theorem dX7_newTop_17 : decode cX7_newTop 17 = .ok (.aconst_null, 1) := by decide +kernel
theorem dX7_newTop_18 : decode cX7_newTop 18 = .ok (.areturn, 1) := by decide +kernel
theorem dX7_newTop_19 : decode cX7_newTop 19 = .ok (.aload_n 0, 1) := by decide +kernel
theorem dX7_newTop_20 : decode cX7_newTop 20 = .ok (.getfield 40, 3) := by decide +kernel
theorem dX7_newTop_23 : decode cX7_newTop 23 = .ok (.aload_n 0, 1) := by decide +kernel
theorem dX7_newTop_24 : decode cX7_newTop 24 = .ok (.getfield 70, 3) := by decide +kernel
theorem dX7_newTop_27 : decode cX7_newTop 27 = .ok (.aaload, 1) := by decide +kernel
theorem dX7_newTop_28 : decode cX7_newTop 28 = .ok (.astore_n 1, 1) := by decide +kernel
theorem dX7_newTop_29 : decode cX7_newTop 29 = .ok (.aload_n 1, 1) := by decide +kernel
theorem dX7_newTop_30 : decode cX7_newTop 30 = .ok (.ifnonnull 21, 3) := by decide +kernel
theorem dX7_newTop_33 : decode cX7_newTop 33 = .ok (.new 38, 3) := by decide +kernel
theorem dX7_newTop_36 : decode cX7_newTop 36 = .ok (.dup, 1) := by decide +kernel
theorem dX7_newTop_37 : decode cX7_newTop 37 = .ok (.invokespecial 113, 3) := by decide +kernel
theorem dX7_newTop_40 : decode cX7_newTop 40 = .ok (.astore_n 1, 1) := by decide +kernel
theorem dX7_newTop_41 : decode cX7_newTop 41 = .ok (.aload_n 0, 1) := by decide +kernel
theorem dX7_newTop_42 : decode cX7_newTop 42 = .ok (.getfield 40, 3) := by decide +kernel
theorem dX7_newTop_45 : decode cX7_newTop 45 = .ok (.aload_n 0, 1) := by decide +kernel
theorem dX7_newTop_46 : decode cX7_newTop 46 = .ok (.getfield 70, 3) := by decide +kernel
theorem dX7_newTop_49 : decode cX7_newTop 49 = .ok (.aload_n 1, 1) := by decide +kernel
theorem dX7_newTop_50 : decode cX7_newTop 50 = .ok (.aastore, 1) := by decide +kernel
theorem dX7_newTop_51 : decode cX7_newTop 51 = .ok (.aload_n 0, 1) := by decide +kernel
theorem dX7_newTop_52 : decode cX7_newTop 52 = .ok (.dup, 1) := by decide +kernel
theorem dX7_newTop_53 : decode cX7_newTop 53 = .ok (.getfield 70, 3) := by decide +kernel
theorem dX7_newTop_56 : decode cX7_newTop 56 = .ok (.iconst 1, 1) := by decide +kernel
theorem dX7_newTop_57 : decode cX7_newTop 57 = .ok (.iadd, 1) := by decide +kernel
theorem dX7_newTop_58 : decode cX7_newTop 58 = .ok (.putfield 70, 3) := by decide +kernel
theorem dX7_newTop_61 : decode cX7_newTop 61 = .ok (.aload_n 1, 1) := by decide +kernel
theorem dX7_newTop_62 : decode cX7_newTop 62 = .ok (.iconst 0, 1) := by decide +kernel
theorem dX7_newTop_63 : decode cX7_newTop 63 = .ok (.putfield 114, 3) := by decide +kernel
theorem dX7_newTop_66 : decode cX7_newTop 66 = .ok (.aload_n 1, 1) := by decide +kernel
theorem dX7_newTop_67 : decode cX7_newTop 67 = .ok (.iconst 1, 1) := by decide +kernel
theorem dX7_newTop_68 : decode cX7_newTop 68 = .ok (.putfield 117, 3) := by decide +kernel
theorem dX7_newTop_71 : decode cX7_newTop 71 = .ok (.aload_n 1, 1) := by decide +kernel
theorem dX7_newTop_72 : decode cX7_newTop 72 = .ok (.iconst 0, 1) := by decide +kernel
theorem dX7_newTop_73 : decode cX7_newTop 73 = .ok (.putfield 120, 3) := by decide +kernel
theorem dX7_newTop_76 : decode cX7_newTop 76 = .ok (.aload_n 1, 1) := by decide +kernel
theorem dX7_newTop_77 : decode cX7_newTop 77 = .ok (.aload_n 0, 1) := by decide +kernel
theorem dX7_newTop_78 : decode cX7_newTop 78 = .ok (.getfield 34, 3) := by decide +kernel
theorem dX7_newTop_81 : decode cX7_newTop 81 = .ok (.invokevirtual 123, 3) := by decide +kernel
theorem dX7_newTop_84 : decode cX7_newTop 84 = .ok (.putfield 127, 3) := by decide +kernel
theorem dX7_newTop_87 : decode cX7_newTop 87 = .ok (.aload_n 1, 1) := by decide +kernel
theorem dX7_newTop_88 : decode cX7_newTop 88 = .ok (.areturn, 1) := by decide +kernel
theorem dX7_enterPlan_0 : decode cX7_enterPlan 0 = .ok (.aload_n 0, 1) := by decide +kernel
theorem dX7_enterPlan_1 : decode cX7_enterPlan 1 = .ok (.invokevirtual 130, 3) := by decide +kernel
theorem dX7_enterPlan_4 : decode cX7_enterPlan 4 = .ok (.astore_n 3, 1) := by decide +kernel
theorem dX7_enterPlan_5 : decode cX7_enterPlan 5 = .ok (.aload_n 3, 1) := by decide +kernel
theorem dX7_enterPlan_6 : decode cX7_enterPlan 6 = .ok (.ifnonnull 4, 3) := by decide +kernel
theorem dX7_enterPlan_9 : decode cX7_enterPlan 9 = .ok (.return_, 1) := by decide +kernel
theorem dX7_enterPlan_10 : decode cX7_enterPlan 10 = .ok (.aload_n 3, 1) := by decide +kernel
theorem dX7_enterPlan_11 : decode cX7_enterPlan 11 = .ok (.iload_n 1, 1) := by decide +kernel
theorem dX7_enterPlan_12 : decode cX7_enterPlan 12 = .ok (.putfield 133, 3) := by decide +kernel
theorem dX7_enterPlan_15 : decode cX7_enterPlan 15 = .ok (.aload_n 3, 1) := by decide +kernel
theorem dX7_enterPlan_16 : decode cX7_enterPlan 16 = .ok (.iload_n 2, 1) := by decide +kernel
theorem dX7_enterPlan_17 : decode cX7_enterPlan 17 = .ok (.putfield 96, 3) := by decide +kernel
theorem dX7_enterPlan_20 : decode cX7_enterPlan 20 = .ok (.aload_n 3, 1) := by decide +kernel
theorem dX7_enterPlan_21 : decode cX7_enterPlan 21 = .ok (.iconst 0, 1) := by decide +kernel
theorem dX7_enterPlan_22 : decode cX7_enterPlan 22 = .ok (.putfield 136, 3) := by decide +kernel
theorem dX7_enterPlan_25 : decode cX7_enterPlan 25 = .ok (.aload_n 3, 1) := by decide +kernel
theorem dX7_enterPlan_26 : decode cX7_enterPlan 26 = .ok (.iconst 0, 1) := by decide +kernel
theorem dX7_enterPlan_27 : decode cX7_enterPlan 27 = .ok (.putfield 82, 3) := by decide +kernel
theorem dX7_enterPlan_30 : decode cX7_enterPlan 30 = .ok (.aload_n 3, 1) := by decide +kernel
theorem dX7_enterPlan_31 : decode cX7_enterPlan 31 = .ok (.aload_n 0, 1) := by decide +kernel
theorem dX7_enterPlan_32 : decode cX7_enterPlan 32 = .ok (.getfield 27, 3) := by decide +kernel
theorem dX7_enterPlan_35 : decode cX7_enterPlan 35 = .ok (.iload_n 2, 1) := by decide +kernel
theorem dX7_enterPlan_36 : decode cX7_enterPlan 36 = .ok (.invokevirtual 139, 3) := by decide +kernel
theorem dX7_enterPlan_39 : decode cX7_enterPlan 39 = .ok (.putfield 85, 3) := by decide +kernel
theorem dX7_enterPlan_42 : decode cX7_enterPlan 42 = .ok (.return_, 1) := by decide +kernel
theorem dX7_enterBody_0 : decode cX7_enterBody 0 = .ok (.aload_n 0, 1) := by decide +kernel
theorem dX7_enterBody_1 : decode cX7_enterBody 1 = .ok (.invokevirtual 130, 3) := by decide +kernel
theorem dX7_enterBody_4 : decode cX7_enterBody 4 = .ok (.astore 4, 2) := by decide +kernel
theorem dX7_enterBody_6 : decode cX7_enterBody 6 = .ok (.aload 4, 2) := by decide +kernel
theorem dX7_enterBody_8 : decode cX7_enterBody 8 = .ok (.ifnonnull 4, 3) := by decide +kernel
theorem dX7_enterBody_11 : decode cX7_enterBody 11 = .ok (.return_, 1) := by decide +kernel
theorem dX7_enterBody_12 : decode cX7_enterBody 12 = .ok (.aload 4, 2) := by decide +kernel
theorem dX7_enterBody_14 : decode cX7_enterBody 14 = .ok (.iload_n 1, 1) := by decide +kernel
theorem dX7_enterBody_15 : decode cX7_enterBody 15 = .ok (.putfield 133, 3) := by decide +kernel
theorem dX7_enterBody_18 : decode cX7_enterBody 18 = .ok (.aload 4, 2) := by decide +kernel
theorem dX7_enterBody_20 : decode cX7_enterBody 20 = .ok (.iload_n 2, 1) := by decide +kernel
theorem dX7_enterBody_21 : decode cX7_enterBody 21 = .ok (.putfield 96, 3) := by decide +kernel
theorem dX7_enterBody_24 : decode cX7_enterBody 24 = .ok (.aload 4, 2) := by decide +kernel
theorem dX7_enterBody_26 : decode cX7_enterBody 26 = .ok (.iload_n 3, 1) := by decide +kernel
theorem dX7_enterBody_27 : decode cX7_enterBody 27 = .ok (.putfield 136, 3) := by decide +kernel
theorem dX7_enterBody_30 : decode cX7_enterBody 30 = .ok (.aload 4, 2) := by decide +kernel
theorem dX7_enterBody_32 : decode cX7_enterBody 32 = .ok (.iload_n 3, 1) := by decide +kernel
theorem dX7_enterBody_33 : decode cX7_enterBody 33 = .ok (.iconst 1, 1) := by decide +kernel
theorem dX7_enterBody_34 : decode cX7_enterBody 34 = .ok (.iadd, 1) := by decide +kernel
theorem dX7_enterBody_35 : decode cX7_enterBody 35 = .ok (.putfield 82, 3) := by decide +kernel
theorem dX7_enterBody_38 : decode cX7_enterBody 38 = .ok (.aload 4, 2) := by decide +kernel
theorem dX7_enterBody_40 : decode cX7_enterBody 40 = .ok (.aload_n 0, 1) := by decide +kernel
theorem dX7_enterBody_41 : decode cX7_enterBody 41 = .ok (.getfield 27, 3) := by decide +kernel
theorem dX7_enterBody_44 : decode cX7_enterBody 44 = .ok (.iload_n 2, 1) := by decide +kernel
theorem dX7_enterBody_45 : decode cX7_enterBody 45 = .ok (.iload_n 3, 1) := by decide +kernel
theorem dX7_enterBody_46 : decode cX7_enterBody 46 = .ok (.invokevirtual 143, 3) := by decide +kernel
theorem dX7_enterBody_49 : decode cX7_enterBody 49 = .ok (.putfield 85, 3) := by decide +kernel
theorem dX7_enterBody_52 : decode cX7_enterBody 52 = .ok (.aload 4, 2) := by decide +kernel
theorem dX7_enterBody_54 : decode cX7_enterBody 54 = .ok (.aload_n 0, 1) := by decide +kernel
theorem dX7_enterBody_55 : decode cX7_enterBody 55 = .ok (.getfield 27, 3) := by decide +kernel
theorem dX7_enterBody_58 : decode cX7_enterBody 58 = .ok (.iload_n 2, 1) := by decide +kernel
theorem dX7_enterBody_59 : decode cX7_enterBody 59 = .ok (.iload_n 3, 1) := by decide +kernel
theorem dX7_enterBody_60 : decode cX7_enterBody 60 = .ok (.invokevirtual 106, 3) := by decide +kernel
theorem dX7_enterBody_63 : decode cX7_enterBody 63 = .ok (.putfield 146, 3) := by decide +kernel
theorem dX7_enterBody_66 : decode cX7_enterBody 66 = .ok (.aload 4, 2) := by decide +kernel
theorem dX7_enterBody_68 : decode cX7_enterBody 68 = .ok (.aload_n 0, 1) := by decide +kernel
theorem dX7_enterBody_69 : decode cX7_enterBody 69 = .ok (.getfield 27, 3) := by decide +kernel
theorem dX7_enterBody_72 : decode cX7_enterBody 72 = .ok (.iload_n 2, 1) := by decide +kernel
theorem dX7_enterBody_73 : decode cX7_enterBody 73 = .ok (.iload_n 3, 1) := by decide +kernel
theorem dX7_enterBody_74 : decode cX7_enterBody 74 = .ok (.invokevirtual 149, 3) := by decide +kernel
theorem dX7_enterBody_77 : decode cX7_enterBody 77 = .ok (.putfield 152, 3) := by decide +kernel
theorem dX7_enterBody_80 : decode cX7_enterBody 80 = .ok (.aload 4, 2) := by decide +kernel
theorem dX7_enterBody_82 : decode cX7_enterBody 82 = .ok (.aload_n 0, 1) := by decide +kernel
theorem dX7_enterBody_83 : decode cX7_enterBody 83 = .ok (.getfield 27, 3) := by decide +kernel
theorem dX7_enterBody_86 : decode cX7_enterBody 86 = .ok (.iload_n 2, 1) := by decide +kernel
theorem dX7_enterBody_87 : decode cX7_enterBody 87 = .ok (.iload_n 3, 1) := by decide +kernel
theorem dX7_enterBody_88 : decode cX7_enterBody 88 = .ok (.invokevirtual 155, 3) := by decide +kernel
theorem dX7_enterBody_91 : decode cX7_enterBody 91 = .ok (.putfield 158, 3) := by decide +kernel
theorem dX7_enterBody_94 : decode cX7_enterBody 94 = .ok (.return_, 1) := by decide +kernel
theorem dX7_counted_0 : decode cX7_counted 0 = .ok (.aload_n 0, 1) := by decide +kernel
theorem dX7_counted_1 : decode cX7_counted 1 = .ok (.getfield 55, 3) := by decide +kernel
theorem dX7_counted_4 : decode cX7_counted 4 = .ok (.sipush 300, 3) := by decide +kernel
theorem dX7_counted_7 : decode cX7_counted 7 = .ok (.if_icmp .lt 12, 3) := by decide +kernel
theorem dX7_counted_10 : decode cX7_counted 10 = .ok (.aload_n 0, 1) := by decide +kernel
theorem dX7_counted_11 : decode cX7_counted 11 = .ok (.getfield 44, 3) := by decide +kernel
theorem dX7_counted_14 : decode cX7_counted 14 = .ok (.iconst 0, 1) := by decide +kernel
theorem dX7_counted_15 : decode cX7_counted 15 = .ok (.iconst 3, 1) := by decide +kernel
theorem dX7_counted_16 : decode cX7_counted 16 = .ok (.iastore, 1) := by decide +kernel
theorem dX7_counted_17 : decode cX7_counted 17 = .ok (.iconst 0, 1) := by decide +kernel
theorem dX7_counted_18 : decode cX7_counted 18 = .ok (.ireturn, 1) := by decide +kernel
theorem dX7_counted_19 : decode cX7_counted 19 = .ok (.aload_n 0, 1) := by decide +kernel
theorem dX7_counted_20 : decode cX7_counted 20 = .ok (.dup, 1) := by decide +kernel
theorem dX7_counted_21 : decode cX7_counted 21 = .ok (.getfield 55, 3) := by decide +kernel
theorem dX7_counted_24 : decode cX7_counted 24 = .ok (.iconst 1, 1) := by decide +kernel
theorem dX7_counted_25 : decode cX7_counted 25 = .ok (.iadd, 1) := by decide +kernel
theorem dX7_counted_26 : decode cX7_counted 26 = .ok (.putfield 55, 3) := by decide +kernel
theorem dX7_counted_29 : decode cX7_counted 29 = .ok (.iconst 1, 1) := by decide +kernel
theorem dX7_counted_30 : decode cX7_counted 30 = .ok (.ireturn, 1) := by decide +kernel
theorem dX7_arise_0 : decode cX7_arise 0 = .ok (.aload_n 0, 1) := by decide +kernel
theorem dX7_arise_1 : decode cX7_arise 1 = .ok (.dup, 1) := by decide +kernel
theorem dX7_arise_2 : decode cX7_arise 2 = .ok (.getfield 67, 3) := by decide +kernel
theorem dX7_arise_5 : decode cX7_arise 5 = .ok (.iconst 1, 1) := by decide +kernel
theorem dX7_arise_6 : decode cX7_arise 6 = .ok (.iadd, 1) := by decide +kernel
theorem dX7_arise_7 : decode cX7_arise 7 = .ok (.putfield 67, 3) := by decide +kernel
theorem dX7_arise_10 : decode cX7_arise 10 = .ok (.aload_n 0, 1) := by decide +kernel
theorem dX7_arise_11 : decode cX7_arise 11 = .ok (.getfield 44, 3) := by decide +kernel
theorem dX7_arise_14 : decode cX7_arise 14 = .ok (.iconst 0, 1) := by decide +kernel
theorem dX7_arise_15 : decode cX7_arise 15 = .ok (.iconst 1, 1) := by decide +kernel
theorem dX7_arise_16 : decode cX7_arise 16 = .ok (.iastore, 1) := by decide +kernel
theorem dX7_arise_17 : decode cX7_arise 17 = .ok (.aload_n 0, 1) := by decide +kernel
theorem dX7_arise_18 : decode cX7_arise 18 = .ok (.getfield 44, 3) := by decide +kernel
theorem dX7_arise_21 : decode cX7_arise 21 = .ok (.iconst 1, 1) := by decide +kernel
theorem dX7_arise_22 : decode cX7_arise 22 = .ok (.iload_n 1, 1) := by decide +kernel
theorem dX7_arise_23 : decode cX7_arise 23 = .ok (.iastore, 1) := by decide +kernel
theorem dX7_arise_24 : decode cX7_arise 24 = .ok (.aload_n 0, 1) := by decide +kernel
theorem dX7_arise_25 : decode cX7_arise 25 = .ok (.getfield 44, 3) := by decide +kernel
theorem dX7_arise_28 : decode cX7_arise 28 = .ok (.iconst 2, 1) := by decide +kernel
theorem dX7_arise_29 : decode cX7_arise 29 = .ok (.iload_n 2, 1) := by decide +kernel
theorem dX7_arise_30 : decode cX7_arise 30 = .ok (.iastore, 1) := by decide +kernel
theorem dX7_arise_31 : decode cX7_arise 31 = .ok (.aload_n 0, 1) := by decide +kernel
theorem dX7_arise_32 : decode cX7_arise 32 = .ok (.getfield 44, 3) := by decide +kernel
theorem dX7_arise_35 : decode cX7_arise 35 = .ok (.iconst 3, 1) := by decide +kernel
theorem dX7_arise_36 : decode cX7_arise 36 = .ok (.aload_n 0, 1) := by decide +kernel
theorem dX7_arise_37 : decode cX7_arise 37 = .ok (.getfield 99, 3) := by decide +kernel
theorem dX7_arise_40 : decode cX7_arise 40 = .ok (.iastore, 1) := by decide +kernel
theorem dX7_arise_41 : decode cX7_arise 41 = .ok (.aload_n 0, 1) := by decide +kernel
theorem dX7_arise_42 : decode cX7_arise 42 = .ok (.getfield 44, 3) := by decide +kernel
theorem dX7_arise_45 : decode cX7_arise 45 = .ok (.iconst 4, 1) := by decide +kernel
theorem dX7_arise_46 : decode cX7_arise 46 = .ok (.iconst 0, 1) := by decide +kernel
theorem dX7_arise_47 : decode cX7_arise 47 = .ok (.iastore, 1) := by decide +kernel
theorem dX7_arise_48 : decode cX7_arise 48 = .ok (.return_, 1) := by decide +kernel
theorem dX7_stepBegins_0 : decode cX7_stepBegins 0 = .ok (.aload_n 0, 1) := by decide +kernel
theorem dX7_stepBegins_1 : decode cX7_stepBegins 1 = .ok (.aload_n 1, 1) := by decide +kernel
theorem dX7_stepBegins_2 : decode cX7_stepBegins 2 = .ok (.getfield 82, 3) := by decide +kernel
theorem dX7_stepBegins_5 : decode cX7_stepBegins 5 = .ok (.putfield 99, 3) := by decide +kernel
theorem dX7_stepBegins_8 : decode cX7_stepBegins 8 = .ok (.aload_n 0, 1) := by decide +kernel
theorem dX7_stepBegins_9 : decode cX7_stepBegins 9 = .ok (.getfield 27, 3) := by decide +kernel
theorem dX7_stepBegins_12 : decode cX7_stepBegins 12 = .ok (.aload_n 1, 1) := by decide +kernel
theorem dX7_stepBegins_13 : decode cX7_stepBegins 13 = .ok (.getfield 96, 3) := by decide +kernel
theorem dX7_stepBegins_16 : decode cX7_stepBegins 16 = .ok (.aload_n 0, 1) := by decide +kernel
theorem dX7_stepBegins_17 : decode cX7_stepBegins 17 = .ok (.getfield 99, 3) := by decide +kernel
theorem dX7_stepBegins_20 : decode cX7_stepBegins 20 = .ok (.invokevirtual 102, 3) := by decide +kernel
theorem dX7_stepBegins_23 : decode cX7_stepBegins 23 = .ok (.istore_n 2, 1) := by decide +kernel
theorem dX7_stepBegins_24 : decode cX7_stepBegins 24 = .ok (.aload_n 1, 1) := by decide +kernel
theorem dX7_stepBegins_25 : decode cX7_stepBegins 25 = .ok (.iload_n 2, 1) := by decide +kernel
theorem dX7_stepBegins_26 : decode cX7_stepBegins 26 = .ok (.bipush 11, 2) := by decide +kernel
theorem dX7_stepBegins_28 : decode cX7_stepBegins 28 = .ok (.if_icmp .lt 23, 3) := by decide +kernel
theorem dX7_stepBegins_31 : decode cX7_stepBegins 31 = .ok (.aload_n 0, 1) := by decide +kernel
theorem dX7_stepBegins_32 : decode cX7_stepBegins 32 = .ok (.getfield 27, 3) := by decide +kernel
theorem dX7_stepBegins_35 : decode cX7_stepBegins 35 = .ok (.aload_n 1, 1) := by decide +kernel
theorem dX7_stepBegins_36 : decode cX7_stepBegins 36 = .ok (.getfield 96, 3) := by decide +kernel
theorem dX7_stepBegins_39 : decode cX7_stepBegins 39 = .ok (.aload_n 0, 1) := by decide +kernel
theorem dX7_stepBegins_40 : decode cX7_stepBegins 40 = .ok (.getfield 99, 3) := by decide +kernel
theorem dX7_stepBegins_43 : decode cX7_stepBegins 43 = .ok (.invokevirtual 143, 3) := by decide +kernel
theorem dX7_stepBegins_46 : decode cX7_stepBegins 46 = .ok (.iconst 1, 1) := by decide +kernel
theorem dX7_stepBegins_47 : decode cX7_stepBegins 47 = .ok (.iadd, 1) := by decide +kernel
theorem dX7_stepBegins_48 : decode cX7_stepBegins 48 = .ok (.goto 9, 3) := by decide +kernel
theorem dX7_stepBegins_51 : decode cX7_stepBegins 51 = .ok (.aload_n 0, 1) := by decide +kernel
theorem dX7_stepBegins_52 : decode cX7_stepBegins 52 = .ok (.getfield 99, 3) := by decide +kernel
theorem dX7_stepBegins_55 : decode cX7_stepBegins 55 = .ok (.iconst 1, 1) := by decide +kernel
theorem dX7_stepBegins_56 : decode cX7_stepBegins 56 = .ok (.iadd, 1) := by decide +kernel
theorem dX7_stepBegins_57 : decode cX7_stepBegins 57 = .ok (.putfield 82, 3) := by decide +kernel
theorem dX7_stepBegins_60 : decode cX7_stepBegins 60 = .ok (.iload_n 2, 1) := by decide +kernel
theorem dX7_stepBegins_61 : decode cX7_stepBegins 61 = .ok (.bipush 17, 2) := by decide +kernel
theorem dX7_stepBegins_63 : decode cX7_stepBegins 63 = .ok (.if_icmp .eq 24, 3) := by decide +kernel
theorem dX7_stepBegins_66 : decode cX7_stepBegins 66 = .ok (.iload_n 2, 1) := by decide +kernel
theorem dX7_stepBegins_67 : decode cX7_stepBegins 67 = .ok (.bipush 18, 2) := by decide +kernel
theorem dX7_stepBegins_69 : decode cX7_stepBegins 69 = .ok (.if_icmp .eq 18, 3) := by decide +kernel
theorem dX7_stepBegins_72 : decode cX7_stepBegins 72 = .ok (.iload_n 2, 1) := by decide +kernel
theorem dX7_stepBegins_73 : decode cX7_stepBegins 73 = .ok (.ifCond .eq 14, 3) := by decide +kernel
theorem dX7_stepBegins_76 : decode cX7_stepBegins 76 = .ok (.aload_n 0, 1) := by decide +kernel
theorem dX7_stepBegins_77 : decode cX7_stepBegins 77 = .ok (.invokevirtual 161, 3) := by decide +kernel
theorem dX7_stepBegins_80 : decode cX7_stepBegins 80 = .ok (.ifCond .eq 7, 3) := by decide +kernel
theorem dX7_stepBegins_83 : decode cX7_stepBegins 83 = .ok (.iconst 1, 1) := by decide +kernel
theorem dX7_stepBegins_84 : decode cX7_stepBegins 84 = .ok (.goto 4, 3) := by decide +kernel
theorem dX7_stepBegins_87 : decode cX7_stepBegins 87 = .ok (.iconst 0, 1) := by decide +kernel
theorem dX7_stepBegins_88 : decode cX7_stepBegins 88 = .ok (.ireturn, 1) := by decide +kernel
theorem dX7_firstNumberFits_0 : decode cX7_firstNumberFits 0 = .ok (.iload_n 0, 1) := by decide +kernel
theorem dX7_firstNumberFits_1 : decode cX7_firstNumberFits 1 = .ok (.tableswitch 115 1 20 #[95, 95, 100, 100, 100, 100, 115, 115, 105, 110, 105, 95, 105, 115, 115, 115, 115, 115, 95, 95], 95) := by decide +kernel
theorem dX7_firstNumberFits_96 : decode cX7_firstNumberFits 96 = .ok (.iload_n 1, 1) := by decide +kernel
theorem dX7_firstNumberFits_97 : decode cX7_firstNumberFits 97 = .ok (.invokestatic 165, 3) := by decide +kernel
theorem dX7_firstNumberFits_100 : decode cX7_firstNumberFits 100 = .ok (.ireturn, 1) := by decide +kernel
theorem dX7_firstNumberFits_101 : decode cX7_firstNumberFits 101 = .ok (.iload_n 1, 1) := by decide +kernel
theorem dX7_firstNumberFits_102 : decode cX7_firstNumberFits 102 = .ok (.invokestatic 169, 3) := by decide +kernel
theorem dX7_firstNumberFits_105 : decode cX7_firstNumberFits 105 = .ok (.ireturn, 1) := by decide +kernel
theorem dX7_firstNumberFits_106 : decode cX7_firstNumberFits 106 = .ok (.iload_n 1, 1) := by decide +kernel
theorem dX7_firstNumberFits_107 : decode cX7_firstNumberFits 107 = .ok (.invokestatic 172, 3) := by decide +kernel
theorem dX7_firstNumberFits_110 : decode cX7_firstNumberFits 110 = .ok (.ireturn, 1) := by decide +kernel
theorem dX7_firstNumberFits_111 : decode cX7_firstNumberFits 111 = .ok (.iload_n 1, 1) := by decide +kernel
theorem dX7_firstNumberFits_112 : decode cX7_firstNumberFits 112 = .ok (.invokestatic 175, 3) := by decide +kernel
theorem dX7_firstNumberFits_115 : decode cX7_firstNumberFits 115 = .ok (.ireturn, 1) := by decide +kernel
theorem dX7_firstNumberFits_116 : decode cX7_firstNumberFits 116 = .ok (.iconst 1, 1) := by decide +kernel
theorem dX7_firstNumberFits_117 : decode cX7_firstNumberFits 117 = .ok (.ireturn, 1) := by decide +kernel
theorem dX7_perform_0 : decode cX7_perform 0 = .ok (.iload_n 2, 1) := by decide +kernel
theorem dX7_perform_1 : decode cX7_perform 1 = .ok (.iload_n 3, 1) := by decide +kernel
theorem dX7_perform_2 : decode cX7_perform 2 = .ok (.invokestatic 178, 3) := by decide +kernel
theorem dX7_perform_5 : decode cX7_perform 5 = .ok (.ifCond .ne 10, 3) := by decide +kernel
theorem dX7_perform_8 : decode cX7_perform 8 = .ok (.aload_n 0, 1) := by decide +kernel
theorem dX7_perform_9 : decode cX7_perform 9 = .ok (.iconst 2, 1) := by decide +kernel
theorem dX7_perform_10 : decode cX7_perform 10 = .ok (.iconst 0, 1) := by decide +kernel
theorem dX7_perform_11 : decode cX7_perform 11 = .ok (.invokevirtual 182, 3) := by decide +kernel
theorem dX7_perform_14 : decode cX7_perform 14 = .ok (.return_, 1) := by decide +kernel
theorem dX7_perform_15 : decode cX7_perform 15 = .ok (.aload_n 0, 1) := by decide +kernel
theorem dX7_perform_16 : decode cX7_perform 16 = .ok (.getfield 27, 3) := by decide +kernel
theorem dX7_perform_19 : decode cX7_perform 19 = .ok (.iload_n 1, 1) := by decide +kernel
theorem dX7_perform_20 : decode cX7_perform 20 = .ok (.aload_n 0, 1) := by decide +kernel
theorem dX7_perform_21 : decode cX7_perform 21 = .ok (.getfield 99, 3) := by decide +kernel
theorem dX7_perform_24 : decode cX7_perform 24 = .ok (.invokevirtual 149, 3) := by decide +kernel
theorem dX7_perform_27 : decode cX7_perform 27 = .ok (.istore 4, 2) := by decide +kernel
theorem dX7_perform_29 : decode cX7_perform 29 = .ok (.aload_n 0, 1) := by decide +kernel
theorem dX7_perform_30 : decode cX7_perform 30 = .ok (.getfield 27, 3) := by decide +kernel
theorem dX7_perform_33 : decode cX7_perform 33 = .ok (.iload_n 1, 1) := by decide +kernel
theorem dX7_perform_34 : decode cX7_perform 34 = .ok (.aload_n 0, 1) := by decide +kernel
theorem dX7_perform_35 : decode cX7_perform 35 = .ok (.getfield 99, 3) := by decide +kernel
theorem dX7_perform_38 : decode cX7_perform 38 = .ok (.invokevirtual 155, 3) := by decide +kernel
theorem dX7_perform_41 : decode cX7_perform 41 = .ok (.istore 5, 2) := by decide +kernel
theorem dX7_perform_43 : decode cX7_perform 43 = .ok (.iload_n 2, 1) := by decide +kernel
theorem dX7_perform_44 : decode cX7_perform 44 = .ok (.tableswitch 193 1 10 #[56, 80, 90, 102, 114, 124, 136, 146, 163, 185], 56) := by decide +kernel
theorem dX7_perform_100 : decode cX7_perform 100 = .ok (.aload_n 0, 1) := by decide +kernel
theorem dX7_perform_101 : decode cX7_perform 101 = .ok (.getfield 34, 3) := by decide +kernel
theorem dX7_perform_104 : decode cX7_perform 104 = .ok (.iload_n 3, 1) := by decide +kernel
theorem dX7_perform_105 : decode cX7_perform 105 = .ok (.aload_n 0, 1) := by decide +kernel
theorem dX7_perform_106 : decode cX7_perform 106 = .ok (.getfield 34, 3) := by decide +kernel
theorem dX7_perform_109 : decode cX7_perform 109 = .ok (.getfield 185, 3) := by decide +kernel
theorem dX7_perform_112 : decode cX7_perform 112 = .ok (.iload_n 3, 1) := by decide +kernel
theorem dX7_perform_113 : decode cX7_perform 113 = .ok (.laload, 1) := by decide +kernel
theorem dX7_perform_114 : decode cX7_perform 114 = .ok (.iload 4, 2) := by decide +kernel
theorem dX7_perform_116 : decode cX7_perform 116 = .ok (.i2l, 1) := by decide +kernel
theorem dX7_perform_117 : decode cX7_perform 117 = .ok (.ladd, 1) := by decide +kernel
theorem dX7_perform_118 : decode cX7_perform 118 = .ok (.invokevirtual 189, 3) := by decide +kernel
theorem dX7_perform_121 : decode cX7_perform 121 = .ok (.goto 125, 3) := by decide +kernel
theorem dX7_perform_124 : decode cX7_perform 124 = .ok (.aload_n 0, 1) := by decide +kernel
theorem dX7_perform_125 : decode cX7_perform 125 = .ok (.iload_n 3, 1) := by decide +kernel
theorem dX7_perform_126 : decode cX7_perform 126 = .ok (.iload 4, 2) := by decide +kernel
theorem dX7_perform_128 : decode cX7_perform 128 = .ok (.invokevirtual 193, 3) := by decide +kernel
theorem dX7_perform_131 : decode cX7_perform 131 = .ok (.goto 115, 3) := by decide +kernel
theorem dX7_perform_134 : decode cX7_perform 134 = .ok (.aload_n 0, 1) := by decide +kernel
theorem dX7_perform_135 : decode cX7_perform 135 = .ok (.iload_n 3, 1) := by decide +kernel
theorem dX7_perform_136 : decode cX7_perform 136 = .ok (.iload 4, 2) := by decide +kernel
theorem dX7_perform_138 : decode cX7_perform 138 = .ok (.iload 5, 2) := by decide +kernel
theorem dX7_perform_140 : decode cX7_perform 140 = .ok (.invokevirtual 196, 3) := by decide +kernel
theorem dX7_perform_143 : decode cX7_perform 143 = .ok (.goto 103, 3) := by decide +kernel
theorem dX7_perform_146 : decode cX7_perform 146 = .ok (.aload_n 0, 1) := by decide +kernel
theorem dX7_perform_147 : decode cX7_perform 147 = .ok (.iload_n 3, 1) := by decide +kernel
theorem dX7_perform_148 : decode cX7_perform 148 = .ok (.iload 4, 2) := by decide +kernel
theorem dX7_perform_150 : decode cX7_perform 150 = .ok (.iload 5, 2) := by decide +kernel
theorem dX7_perform_152 : decode cX7_perform 152 = .ok (.invokevirtual 199, 3) := by decide +kernel
theorem dX7_perform_155 : decode cX7_perform 155 = .ok (.goto 91, 3) := by decide +kernel
theorem dX7_perform_158 : decode cX7_perform 158 = .ok (.aload_n 0, 1) := by decide +kernel
theorem dX7_perform_159 : decode cX7_perform 159 = .ok (.iload_n 3, 1) := by decide +kernel
theorem dX7_perform_160 : decode cX7_perform 160 = .ok (.iload 4, 2) := by decide +kernel
theorem dX7_perform_162 : decode cX7_perform 162 = .ok (.invokevirtual 202, 3) := by decide +kernel
theorem dX7_perform_165 : decode cX7_perform 165 = .ok (.goto 81, 3) := by decide +kernel
theorem dX7_perform_168 : decode cX7_perform 168 = .ok (.aload_n 0, 1) := by decide +kernel
theorem dX7_perform_169 : decode cX7_perform 169 = .ok (.iload_n 3, 1) := by decide +kernel
theorem dX7_perform_170 : decode cX7_perform 170 = .ok (.iload 4, 2) := by decide +kernel
theorem dX7_perform_172 : decode cX7_perform 172 = .ok (.iload 5, 2) := by decide +kernel
theorem dX7_perform_174 : decode cX7_perform 174 = .ok (.invokevirtual 205, 3) := by decide +kernel
theorem dX7_perform_177 : decode cX7_perform 177 = .ok (.goto 69, 3) := by decide +kernel
theorem dX7_perform_180 : decode cX7_perform 180 = .ok (.aload_n 0, 1) := by decide +kernel
theorem dX7_perform_181 : decode cX7_perform 181 = .ok (.bipush 8, 2) := by decide +kernel
theorem dX7_perform_183 : decode cX7_perform 183 = .ok (.iload_n 3, 1) := by decide +kernel
theorem dX7_perform_184 : decode cX7_perform 184 = .ok (.invokevirtual 182, 3) := by decide +kernel
theorem dX7_perform_187 : decode cX7_perform 187 = .ok (.goto 59, 3) := by decide +kernel
theorem dX7_perform_190 : decode cX7_perform 190 = .ok (.aload_n 0, 1) := by decide +kernel
theorem dX7_perform_191 : decode cX7_perform 191 = .ok (.getfield 44, 3) := by decide +kernel
theorem dX7_perform_194 : decode cX7_perform 194 = .ok (.iconst 0, 1) := by decide +kernel
theorem dX7_perform_195 : decode cX7_perform 195 = .ok (.iconst 2, 1) := by decide +kernel
theorem dX7_perform_196 : decode cX7_perform 196 = .ok (.iastore, 1) := by decide +kernel
theorem dX7_perform_197 : decode cX7_perform 197 = .ok (.aload_n 0, 1) := by decide +kernel
theorem dX7_perform_198 : decode cX7_perform 198 = .ok (.getfield 44, 3) := by decide +kernel
theorem dX7_perform_201 : decode cX7_perform 201 = .ok (.iconst 5, 1) := by decide +kernel
theorem dX7_perform_202 : decode cX7_perform 202 = .ok (.iload_n 3, 1) := by decide +kernel
theorem dX7_perform_203 : decode cX7_perform 203 = .ok (.iastore, 1) := by decide +kernel
theorem dX7_perform_204 : decode cX7_perform 204 = .ok (.goto 42, 3) := by decide +kernel
theorem dX7_perform_207 : decode cX7_perform 207 = .ok (.aload_n 0, 1) := by decide +kernel
theorem dX7_perform_208 : decode cX7_perform 208 = .ok (.getfield 34, 3) := by decide +kernel
theorem dX7_perform_211 : decode cX7_perform 211 = .ok (.getfield 208, 3) := by decide +kernel
theorem dX7_perform_214 : decode cX7_perform 214 = .ok (.iload_n 3, 1) := by decide +kernel
theorem dX7_perform_215 : decode cX7_perform 215 = .ok (.iaload, 1) := by decide +kernel
theorem dX7_perform_216 : decode cX7_perform 216 = .ok (.ifCond .ne 30, 3) := by decide +kernel
theorem dX7_perform_219 : decode cX7_perform 219 = .ok (.aload_n 0, 1) := by decide +kernel
theorem dX7_perform_220 : decode cX7_perform 220 = .ok (.bipush 7, 2) := by decide +kernel
theorem dX7_perform_222 : decode cX7_perform 222 = .ok (.iconst 0, 1) := by decide +kernel
theorem dX7_perform_223 : decode cX7_perform 223 = .ok (.invokevirtual 182, 3) := by decide +kernel
theorem dX7_perform_226 : decode cX7_perform 226 = .ok (.goto 20, 3) := by decide +kernel
theorem dX7_perform_229 : decode cX7_perform 229 = .ok (.aload_n 0, 1) := by decide +kernel
theorem dX7_perform_230 : decode cX7_perform 230 = .ok (.iload_n 3, 1) := by decide +kernel
theorem dX7_perform_231 : decode cX7_perform 231 = .ok (.invokevirtual 211, 3) := by decide +kernel
theorem dX7_perform_234 : decode cX7_perform 234 = .ok (.goto 12, 3) := by decide +kernel
theorem dX7_perform_237 : decode cX7_perform 237 = .ok (.aload_n 0, 1) := by decide +kernel
theorem dX7_perform_238 : decode cX7_perform 238 = .ok (.iload_n 1, 1) := by decide +kernel
theorem dX7_perform_239 : decode cX7_perform 239 = .ok (.iload_n 2, 1) := by decide +kernel
theorem dX7_perform_240 : decode cX7_perform 240 = .ok (.iload_n 3, 1) := by decide +kernel
theorem dX7_perform_241 : decode cX7_perform 241 = .ok (.iload 4, 2) := by decide +kernel
theorem dX7_perform_243 : decode cX7_perform 243 = .ok (.invokevirtual 215, 3) := by decide +kernel
theorem dX7_perform_246 : decode cX7_perform 246 = .ok (.return_, 1) := by decide +kernel
theorem dX7_divideStock_0 : decode cX7_divideStock 0 = .ok (.iload_n 2, 1) := by decide +kernel
theorem dX7_divideStock_1 : decode cX7_divideStock 1 = .ok (.ifCond .ne 13, 3) := by decide +kernel
theorem dX7_divideStock_4 : decode cX7_divideStock 4 = .ok (.aload_n 0, 1) := by decide +kernel
theorem dX7_divideStock_5 : decode cX7_divideStock 5 = .ok (.bipush 6, 2) := by decide +kernel
theorem dX7_divideStock_7 : decode cX7_divideStock 7 = .ok (.iconst 0, 1) := by decide +kernel
theorem dX7_divideStock_8 : decode cX7_divideStock 8 = .ok (.invokevirtual 182, 3) := by decide +kernel
theorem dX7_divideStock_11 : decode cX7_divideStock 11 = .ok (.goto 23, 3) := by decide +kernel
theorem dX7_divideStock_14 : decode cX7_divideStock 14 = .ok (.aload_n 0, 1) := by decide +kernel
theorem dX7_divideStock_15 : decode cX7_divideStock 15 = .ok (.getfield 34, 3) := by decide +kernel
theorem dX7_divideStock_18 : decode cX7_divideStock 18 = .ok (.iload_n 1, 1) := by decide +kernel
theorem dX7_divideStock_19 : decode cX7_divideStock 19 = .ok (.aload_n 0, 1) := by decide +kernel
theorem dX7_divideStock_20 : decode cX7_divideStock 20 = .ok (.getfield 34, 3) := by decide +kernel
theorem dX7_divideStock_23 : decode cX7_divideStock 23 = .ok (.getfield 185, 3) := by decide +kernel
theorem dX7_divideStock_26 : decode cX7_divideStock 26 = .ok (.iload_n 1, 1) := by decide +kernel
theorem dX7_divideStock_27 : decode cX7_divideStock 27 = .ok (.laload, 1) := by decide +kernel
theorem dX7_divideStock_28 : decode cX7_divideStock 28 = .ok (.iload_n 2, 1) := by decide +kernel
theorem dX7_divideStock_29 : decode cX7_divideStock 29 = .ok (.i2l, 1) := by decide +kernel
theorem dX7_divideStock_30 : decode cX7_divideStock 30 = .ok (.ldiv, 1) := by decide +kernel
theorem dX7_divideStock_31 : decode cX7_divideStock 31 = .ok (.invokevirtual 189, 3) := by decide +kernel
theorem dX7_divideStock_34 : decode cX7_divideStock 34 = .ok (.return_, 1) := by decide +kernel
theorem dX7_layCell_0 : decode cX7_layCell 0 = .ok (.aload_n 0, 1) := by decide +kernel
theorem dX7_layCell_1 : decode cX7_layCell 1 = .ok (.getfield 11, 3) := by decide +kernel
theorem dX7_layCell_4 : decode cX7_layCell 4 = .ok (.iload_n 1, 1) := by decide +kernel
theorem dX7_layCell_5 : decode cX7_layCell 5 = .ok (.aaload, 1) := by decide +kernel
theorem dX7_layCell_6 : decode cX7_layCell 6 = .ok (.iconst 4, 1) := by decide +kernel
theorem dX7_layCell_7 : decode cX7_layCell 7 = .ok (.iload_n 2, 1) := by decide +kernel
theorem dX7_layCell_8 : decode cX7_layCell 8 = .ok (.invokestatic 219, 3) := by decide +kernel
theorem dX7_layCell_11 : decode cX7_layCell 11 = .ok (.istore 4, 2) := by decide +kernel
theorem dX7_layCell_13 : decode cX7_layCell 13 = .ok (.iload 4, 2) := by decide +kernel
theorem dX7_layCell_15 : decode cX7_layCell 15 = .ok (.ifCond .eq 13, 3) := by decide +kernel
theorem dX7_layCell_18 : decode cX7_layCell 18 = .ok (.aload_n 0, 1) := by decide +kernel
theorem dX7_layCell_19 : decode cX7_layCell 19 = .ok (.iload 4, 2) := by decide +kernel
theorem dX7_layCell_21 : decode cX7_layCell 21 = .ok (.iconst 0, 1) := by decide +kernel
theorem dX7_layCell_22 : decode cX7_layCell 22 = .ok (.invokevirtual 182, 3) := by decide +kernel
theorem dX7_layCell_25 : decode cX7_layCell 25 = .ok (.goto 19, 3) := by decide +kernel
theorem dX7_layCell_28 : decode cX7_layCell 28 = .ok (.aload_n 0, 1) := by decide +kernel
theorem dX7_layCell_29 : decode cX7_layCell 29 = .ok (.getfield 34, 3) := by decide +kernel
theorem dX7_layCell_32 : decode cX7_layCell 32 = .ok (.aload_n 0, 1) := by decide +kernel
theorem dX7_layCell_33 : decode cX7_layCell 33 = .ok (.getfield 11, 3) := by decide +kernel
theorem dX7_layCell_36 : decode cX7_layCell 36 = .ok (.iload_n 1, 1) := by decide +kernel
theorem dX7_layCell_37 : decode cX7_layCell 37 = .ok (.aaload, 1) := by decide +kernel
theorem dX7_layCell_38 : decode cX7_layCell 38 = .ok (.iload_n 2, 1) := by decide +kernel
theorem dX7_layCell_39 : decode cX7_layCell 39 = .ok (.iload_n 3, 1) := by decide +kernel
theorem dX7_layCell_40 : decode cX7_layCell 40 = .ok (.i2l, 1) := by decide +kernel
theorem dX7_layCell_41 : decode cX7_layCell 41 = .ok (.invokevirtual 223, 3) := by decide +kernel
theorem dX7_layCell_44 : decode cX7_layCell 44 = .ok (.return_, 1) := by decide +kernel
theorem dX7_readCell_0 : decode cX7_readCell 0 = .ok (.aload_n 0, 1) := by decide +kernel
theorem dX7_readCell_1 : decode cX7_readCell 1 = .ok (.getfield 11, 3) := by decide +kernel
theorem dX7_readCell_4 : decode cX7_readCell 4 = .ok (.iload_n 1, 1) := by decide +kernel
theorem dX7_readCell_5 : decode cX7_readCell 5 = .ok (.aaload, 1) := by decide +kernel
theorem dX7_readCell_6 : decode cX7_readCell 6 = .ok (.astore 4, 2) := by decide +kernel
theorem dX7_readCell_8 : decode cX7_readCell 8 = .ok (.iload_n 3, 1) := by decide +kernel
theorem dX7_readCell_9 : decode cX7_readCell 9 = .ok (.invokestatic 165, 3) := by decide +kernel
theorem dX7_readCell_12 : decode cX7_readCell 12 = .ok (.ifCond .eq 13, 3) := by decide +kernel
theorem dX7_readCell_15 : decode cX7_readCell 15 = .ok (.aload 4, 2) := by decide +kernel
theorem dX7_readCell_17 : decode cX7_readCell 17 = .ok (.iconst 4, 1) := by decide +kernel
theorem dX7_readCell_18 : decode cX7_readCell 18 = .ok (.iload_n 2, 1) := by decide +kernel
theorem dX7_readCell_19 : decode cX7_readCell 19 = .ok (.invokestatic 219, 3) := by decide +kernel
theorem dX7_readCell_22 : decode cX7_readCell 22 = .ok (.goto 4, 3) := by decide +kernel
theorem dX7_readCell_25 : decode cX7_readCell 25 = .ok (.iconst 2, 1) := by decide +kernel
theorem dX7_readCell_26 : decode cX7_readCell 26 = .ok (.istore 5, 2) := by decide +kernel
theorem dX7_readCell_28 : decode cX7_readCell 28 = .ok (.iload 5, 2) := by decide +kernel
theorem dX7_readCell_30 : decode cX7_readCell 30 = .ok (.ifCond .ne 8, 3) := by decide +kernel
theorem dX7_readCell_33 : decode cX7_readCell 33 = .ok (.aload 4, 2) := by decide +kernel
theorem dX7_readCell_35 : decode cX7_readCell 35 = .ok (.ifnonnull 13, 3) := by decide +kernel
theorem dX7_readCell_38 : decode cX7_readCell 38 = .ok (.aload_n 0, 1) := by decide +kernel
theorem dX7_readCell_39 : decode cX7_readCell 39 = .ok (.iload 5, 2) := by decide +kernel
theorem dX7_readCell_41 : decode cX7_readCell 41 = .ok (.iconst 0, 1) := by decide +kernel
theorem dX7_readCell_42 : decode cX7_readCell 42 = .ok (.invokevirtual 182, 3) := by decide +kernel
theorem dX7_readCell_45 : decode cX7_readCell 45 = .ok (.goto 18, 3) := by decide +kernel
theorem dX7_readCell_48 : decode cX7_readCell 48 = .ok (.aload_n 0, 1) := by decide +kernel
theorem dX7_readCell_49 : decode cX7_readCell 49 = .ok (.getfield 34, 3) := by decide +kernel
theorem dX7_readCell_52 : decode cX7_readCell 52 = .ok (.iload_n 3, 1) := by decide +kernel
theorem dX7_readCell_53 : decode cX7_readCell 53 = .ok (.aload 4, 2) := by decide +kernel
theorem dX7_readCell_55 : decode cX7_readCell 55 = .ok (.getfield 227, 3) := by decide +kernel
theorem dX7_readCell_58 : decode cX7_readCell 58 = .ok (.iload_n 2, 1) := by decide +kernel
theorem dX7_readCell_59 : decode cX7_readCell 59 = .ok (.laload, 1) := by decide +kernel
theorem dX7_readCell_60 : decode cX7_readCell 60 = .ok (.invokevirtual 189, 3) := by decide +kernel
theorem dX7_readCell_63 : decode cX7_readCell 63 = .ok (.return_, 1) := by decide +kernel
theorem dX7_writeCard_0 : decode cX7_writeCard 0 = .ok (.aload_n 0, 1) := by decide +kernel
theorem dX7_writeCard_1 : decode cX7_writeCard 1 = .ok (.getfield 11, 3) := by decide +kernel
theorem dX7_writeCard_4 : decode cX7_writeCard 4 = .ok (.iload_n 1, 1) := by decide +kernel
theorem dX7_writeCard_5 : decode cX7_writeCard 5 = .ok (.aaload, 1) := by decide +kernel
theorem dX7_writeCard_6 : decode cX7_writeCard 6 = .ok (.bipush 17, 2) := by decide +kernel
theorem dX7_writeCard_8 : decode cX7_writeCard 8 = .ok (.invokestatic 230, 3) := by decide +kernel
theorem dX7_writeCard_11 : decode cX7_writeCard 11 = .ok (.istore_n 3, 1) := by decide +kernel
theorem dX7_writeCard_12 : decode cX7_writeCard 12 = .ok (.iload_n 3, 1) := by decide +kernel
theorem dX7_writeCard_13 : decode cX7_writeCard 13 = .ok (.ifCond .eq 12, 3) := by decide +kernel
theorem dX7_writeCard_16 : decode cX7_writeCard 16 = .ok (.aload_n 0, 1) := by decide +kernel
theorem dX7_writeCard_17 : decode cX7_writeCard 17 = .ok (.iload_n 3, 1) := by decide +kernel
theorem dX7_writeCard_18 : decode cX7_writeCard 18 = .ok (.iconst 0, 1) := by decide +kernel
theorem dX7_writeCard_19 : decode cX7_writeCard 19 = .ok (.invokevirtual 182, 3) := by decide +kernel
theorem dX7_writeCard_22 : decode cX7_writeCard 22 = .ok (.goto 19, 3) := by decide +kernel
theorem dX7_writeCard_25 : decode cX7_writeCard 25 = .ok (.aload_n 0, 1) := by decide +kernel
theorem dX7_writeCard_26 : decode cX7_writeCard 26 = .ok (.getfield 34, 3) := by decide +kernel
theorem dX7_writeCard_29 : decode cX7_writeCard 29 = .ok (.aload_n 0, 1) := by decide +kernel
theorem dX7_writeCard_30 : decode cX7_writeCard 30 = .ok (.getfield 11, 3) := by decide +kernel
theorem dX7_writeCard_33 : decode cX7_writeCard 33 = .ok (.iload_n 1, 1) := by decide +kernel
theorem dX7_writeCard_34 : decode cX7_writeCard 34 = .ok (.aaload, 1) := by decide +kernel
theorem dX7_writeCard_35 : decode cX7_writeCard 35 = .ok (.iconst 4, 1) := by decide +kernel
theorem dX7_writeCard_36 : decode cX7_writeCard 36 = .ok (.iload_n 2, 1) := by decide +kernel
theorem dX7_writeCard_37 : decode cX7_writeCard 37 = .ok (.i2l, 1) := by decide +kernel
theorem dX7_writeCard_38 : decode cX7_writeCard 38 = .ok (.invokevirtual 223, 3) := by decide +kernel
theorem dX7_writeCard_41 : decode cX7_writeCard 41 = .ok (.return_, 1) := by decide +kernel
theorem dX7_askPlant_0 : decode cX7_askPlant 0 = .ok (.iload_n 2, 1) := by decide +kernel
theorem dX7_askPlant_1 : decode cX7_askPlant 1 = .ok (.ifCond .lt 15, 3) := by decide +kernel
theorem dX7_askPlant_4 : decode cX7_askPlant 4 = .ok (.iload_n 2, 1) := by decide +kernel
theorem dX7_askPlant_5 : decode cX7_askPlant 5 = .ok (.iconst 3, 1) := by decide +kernel
theorem dX7_askPlant_6 : decode cX7_askPlant 6 = .ok (.if_icmp .gt 10, 3) := by decide +kernel
theorem dX7_askPlant_9 : decode cX7_askPlant 9 = .ok (.iload_n 3, 1) := by decide +kernel
theorem dX7_askPlant_10 : decode cX7_askPlant 10 = .ok (.invokestatic 165, 3) := by decide +kernel
theorem dX7_askPlant_13 : decode cX7_askPlant 13 = .ok (.ifCond .ne 10, 3) := by decide +kernel
theorem dX7_askPlant_16 : decode cX7_askPlant 16 = .ok (.aload_n 0, 1) := by decide +kernel
theorem dX7_askPlant_17 : decode cX7_askPlant 17 = .ok (.iconst 2, 1) := by decide +kernel
theorem dX7_askPlant_18 : decode cX7_askPlant 18 = .ok (.iconst 0, 1) := by decide +kernel
theorem dX7_askPlant_19 : decode cX7_askPlant 19 = .ok (.invokevirtual 182, 3) := by decide +kernel
theorem dX7_askPlant_22 : decode cX7_askPlant 22 = .ok (.return_, 1) := by decide +kernel
theorem dX7_askPlant_23 : decode cX7_askPlant 23 = .ok (.aload_n 0, 1) := by decide +kernel
theorem dX7_askPlant_24 : decode cX7_askPlant 24 = .ok (.getfield 20, 3) := by decide +kernel
theorem dX7_askPlant_27 : decode cX7_askPlant 27 = .ok (.invokevirtual 234, 3) := by decide +kernel
theorem dX7_askPlant_30 : decode cX7_askPlant 30 = .ok (.aload_n 0, 1) := by decide +kernel
theorem dX7_askPlant_31 : decode cX7_askPlant 31 = .ok (.getfield 20, 3) := by decide +kernel
theorem dX7_askPlant_34 : decode cX7_askPlant 34 = .ok (.aload_n 0, 1) := by decide +kernel
theorem dX7_askPlant_35 : decode cX7_askPlant 35 = .ok (.getfield 11, 3) := by decide +kernel
theorem dX7_askPlant_38 : decode cX7_askPlant 38 = .ok (.iload_n 1, 1) := by decide +kernel
theorem dX7_askPlant_39 : decode cX7_askPlant 39 = .ok (.aaload, 1) := by decide +kernel
theorem dX7_askPlant_40 : decode cX7_askPlant 40 = .ok (.iload_n 2, 1) := by decide +kernel
theorem dX7_askPlant_41 : decode cX7_askPlant 41 = .ok (.invokevirtual 237, 3) := by decide +kernel
theorem dX7_askPlant_44 : decode cX7_askPlant 44 = .ok (.istore 4, 2) := by decide +kernel
theorem dX7_askPlant_46 : decode cX7_askPlant 46 = .ok (.aload_n 0, 1) := by decide +kernel
theorem dX7_askPlant_47 : decode cX7_askPlant 47 = .ok (.getfield 20, 3) := by decide +kernel
theorem dX7_askPlant_50 : decode cX7_askPlant 50 = .ok (.getfield 240, 3) := by decide +kernel
theorem dX7_askPlant_53 : decode cX7_askPlant 53 = .ok (.ifCond .eq 18, 3) := by decide +kernel
theorem dX7_askPlant_56 : decode cX7_askPlant 56 = .ok (.aload_n 0, 1) := by decide +kernel
theorem dX7_askPlant_57 : decode cX7_askPlant 57 = .ok (.aload_n 0, 1) := by decide +kernel
theorem dX7_askPlant_58 : decode cX7_askPlant 58 = .ok (.getfield 20, 3) := by decide +kernel
theorem dX7_askPlant_61 : decode cX7_askPlant 61 = .ok (.getfield 240, 3) := by decide +kernel
theorem dX7_askPlant_64 : decode cX7_askPlant 64 = .ok (.iconst 0, 1) := by decide +kernel
theorem dX7_askPlant_65 : decode cX7_askPlant 65 = .ok (.invokevirtual 182, 3) := by decide +kernel
theorem dX7_askPlant_68 : decode cX7_askPlant 68 = .ok (.goto 14, 3) := by decide +kernel
theorem dX7_askPlant_71 : decode cX7_askPlant 71 = .ok (.aload_n 0, 1) := by decide +kernel
theorem dX7_askPlant_72 : decode cX7_askPlant 72 = .ok (.getfield 34, 3) := by decide +kernel
theorem dX7_askPlant_75 : decode cX7_askPlant 75 = .ok (.iload_n 3, 1) := by decide +kernel
theorem dX7_askPlant_76 : decode cX7_askPlant 76 = .ok (.iload 4, 2) := by decide +kernel
theorem dX7_askPlant_78 : decode cX7_askPlant 78 = .ok (.i2l, 1) := by decide +kernel
theorem dX7_askPlant_79 : decode cX7_askPlant 79 = .ok (.invokevirtual 189, 3) := by decide +kernel
theorem dX7_askPlant_82 : decode cX7_askPlant 82 = .ok (.return_, 1) := by decide +kernel
theorem dX7_doPlan_0 : decode cX7_doPlan 0 = .ok (.aload_n 0, 1) := by decide +kernel
theorem dX7_doPlan_1 : decode cX7_doPlan 1 = .ok (.getfield 27, 3) := by decide +kernel
theorem dX7_doPlan_4 : decode cX7_doPlan 4 = .ok (.iload_n 1, 1) := by decide +kernel
theorem dX7_doPlan_5 : decode cX7_doPlan 5 = .ok (.invokevirtual 243, 3) := by decide +kernel
theorem dX7_doPlan_8 : decode cX7_doPlan 8 = .ok (.iconst (-1), 1) := by decide +kernel
theorem dX7_doPlan_9 : decode cX7_doPlan 9 = .ok (.if_icmp .eq 14, 3) := by decide +kernel
theorem dX7_doPlan_12 : decode cX7_doPlan 12 = .ok (.aload_n 0, 1) := by decide +kernel
theorem dX7_doPlan_13 : decode cX7_doPlan 13 = .ok (.bipush 8, 2) := by decide +kernel
theorem dX7_doPlan_15 : decode cX7_doPlan 15 = .ok (.bipush 98, 2) := by decide +kernel
theorem dX7_doPlan_17 : decode cX7_doPlan 17 = .ok (.invokevirtual 182, 3) := by decide +kernel
theorem dX7_doPlan_20 : decode cX7_doPlan 20 = .ok (.goto 40, 3) := by decide +kernel
theorem dX7_doPlan_23 : decode cX7_doPlan 23 = .ok (.aload_n 0, 1) := by decide +kernel
theorem dX7_doPlan_24 : decode cX7_doPlan 24 = .ok (.getfield 51, 3) := by decide +kernel
theorem dX7_doPlan_27 : decode cX7_doPlan 27 = .ok (.bipush 6, 2) := by decide +kernel
theorem dX7_doPlan_29 : decode cX7_doPlan 29 = .ok (.if_icmp .lt 14, 3) := by decide +kernel
theorem dX7_doPlan_32 : decode cX7_doPlan 32 = .ok (.aload_n 0, 1) := by decide +kernel
theorem dX7_doPlan_33 : decode cX7_doPlan 33 = .ok (.bipush 8, 2) := by decide +kernel
theorem dX7_doPlan_35 : decode cX7_doPlan 35 = .ok (.bipush 99, 2) := by decide +kernel
theorem dX7_doPlan_37 : decode cX7_doPlan 37 = .ok (.invokevirtual 182, 3) := by decide +kernel
theorem dX7_doPlan_40 : decode cX7_doPlan 40 = .ok (.goto 20, 3) := by decide +kernel
theorem dX7_doPlan_43 : decode cX7_doPlan 43 = .ok (.aload_n 0, 1) := by decide +kernel
theorem dX7_doPlan_44 : decode cX7_doPlan 44 = .ok (.dup, 1) := by decide +kernel
theorem dX7_doPlan_45 : decode cX7_doPlan 45 = .ok (.getfield 51, 3) := by decide +kernel
theorem dX7_doPlan_48 : decode cX7_doPlan 48 = .ok (.iconst 1, 1) := by decide +kernel
theorem dX7_doPlan_49 : decode cX7_doPlan 49 = .ok (.iadd, 1) := by decide +kernel
theorem dX7_doPlan_50 : decode cX7_doPlan 50 = .ok (.putfield 51, 3) := by decide +kernel
theorem dX7_doPlan_53 : decode cX7_doPlan 53 = .ok (.aload_n 0, 1) := by decide +kernel
theorem dX7_doPlan_54 : decode cX7_doPlan 54 = .ok (.bipush 10, 2) := by decide +kernel
theorem dX7_doPlan_56 : decode cX7_doPlan 56 = .ok (.iload_n 1, 1) := by decide +kernel
theorem dX7_doPlan_57 : decode cX7_doPlan 57 = .ok (.invokevirtual 73, 3) := by decide +kernel
theorem dX7_doPlan_60 : decode cX7_doPlan 60 = .ok (.return_, 1) := by decide +kernel
theorem dX7_beginBody_0 : decode cX7_beginBody 0 = .ok (.iload_n 2, 1) := by decide +kernel
theorem dX7_beginBody_1 : decode cX7_beginBody 1 = .ok (.bipush 12, 2) := by decide +kernel
theorem dX7_beginBody_3 : decode cX7_beginBody 3 = .ok (.if_icmp .ne 33, 3) := by decide +kernel
theorem dX7_beginBody_6 : decode cX7_beginBody 6 = .ok (.iload 4, 2) := by decide +kernel
theorem dX7_beginBody_8 : decode cX7_beginBody 8 = .ok (.ifCond .lt 19, 3) := by decide +kernel
theorem dX7_beginBody_11 : decode cX7_beginBody 11 = .ok (.aload_n 0, 1) := by decide +kernel
theorem dX7_beginBody_12 : decode cX7_beginBody 12 = .ok (.getfield 34, 3) := by decide +kernel
theorem dX7_beginBody_15 : decode cX7_beginBody 15 = .ok (.getfield 185, 3) := by decide +kernel
theorem dX7_beginBody_18 : decode cX7_beginBody 18 = .ok (.iload_n 3, 1) := by decide +kernel
theorem dX7_beginBody_19 : decode cX7_beginBody 19 = .ok (.laload, 1) := by decide +kernel
theorem dX7_beginBody_20 : decode cX7_beginBody 20 = .ok (.iload 4, 2) := by decide +kernel
theorem dX7_beginBody_22 : decode cX7_beginBody 22 = .ok (.i2l, 1) := by decide +kernel
theorem dX7_beginBody_23 : decode cX7_beginBody 23 = .ok (.lcmp, 1) := by decide +kernel
theorem dX7_beginBody_24 : decode cX7_beginBody 24 = .ok (.ifCond .ge 12, 3) := by decide +kernel
theorem dX7_beginBody_27 : decode cX7_beginBody 27 = .ok (.aload_n 0, 1) := by decide +kernel
theorem dX7_beginBody_28 : decode cX7_beginBody 28 = .ok (.bipush 8, 2) := by decide +kernel
theorem dX7_beginBody_30 : decode cX7_beginBody 30 = .ok (.bipush 97, 2) := by decide +kernel
theorem dX7_beginBody_32 : decode cX7_beginBody 32 = .ok (.invokevirtual 182, 3) := by decide +kernel
theorem dX7_beginBody_35 : decode cX7_beginBody 35 = .ok (.return_, 1) := by decide +kernel
theorem dX7_beginBody_36 : decode cX7_beginBody 36 = .ok (.iload_n 2, 1) := by decide +kernel
theorem dX7_beginBody_37 : decode cX7_beginBody 37 = .ok (.bipush 15, 2) := by decide +kernel
theorem dX7_beginBody_39 : decode cX7_beginBody 39 = .ok (.if_icmp .ne 23, 3) := by decide +kernel
theorem dX7_beginBody_42 : decode cX7_beginBody 42 = .ok (.iload_n 3, 1) := by decide +kernel
theorem dX7_beginBody_43 : decode cX7_beginBody 43 = .ok (.iconst 1, 1) := by decide +kernel
theorem dX7_beginBody_44 : decode cX7_beginBody 44 = .ok (.if_icmp .lt 9, 3) := by decide +kernel
theorem dX7_beginBody_47 : decode cX7_beginBody 47 = .ok (.iload_n 3, 1) := by decide +kernel
theorem dX7_beginBody_48 : decode cX7_beginBody 48 = .ok (.bipush 9, 2) := by decide +kernel
theorem dX7_beginBody_50 : decode cX7_beginBody 50 = .ok (.if_icmp .le 12, 3) := by decide +kernel
theorem dX7_beginBody_53 : decode cX7_beginBody 53 = .ok (.aload_n 0, 1) := by decide +kernel
theorem dX7_beginBody_54 : decode cX7_beginBody 54 = .ok (.bipush 8, 2) := by decide +kernel
theorem dX7_beginBody_56 : decode cX7_beginBody 56 = .ok (.bipush 96, 2) := by decide +kernel
theorem dX7_beginBody_58 : decode cX7_beginBody 58 = .ok (.invokevirtual 182, 3) := by decide +kernel
theorem dX7_beginBody_61 : decode cX7_beginBody 61 = .ok (.return_, 1) := by decide +kernel
theorem dX7_beginBody_62 : decode cX7_beginBody 62 = .ok (.iload_n 2, 1) := by decide +kernel
theorem dX7_beginBody_63 : decode cX7_beginBody 63 = .ok (.bipush 19, 2) := by decide +kernel
theorem dX7_beginBody_65 : decode cX7_beginBody 65 = .ok (.if_icmp .eq 9, 3) := by decide +kernel
theorem dX7_beginBody_68 : decode cX7_beginBody 68 = .ok (.iload_n 2, 1) := by decide +kernel
theorem dX7_beginBody_69 : decode cX7_beginBody 69 = .ok (.bipush 20, 2) := by decide +kernel
theorem dX7_beginBody_71 : decode cX7_beginBody 71 = .ok (.if_icmp .ne 18, 3) := by decide +kernel
theorem dX7_beginBody_74 : decode cX7_beginBody 74 = .ok (.aload_n 0, 1) := by decide +kernel
theorem dX7_beginBody_75 : decode cX7_beginBody 75 = .ok (.getfield 34, 3) := by decide +kernel
theorem dX7_beginBody_78 : decode cX7_beginBody 78 = .ok (.getfield 185, 3) := by decide +kernel
theorem dX7_beginBody_81 : decode cX7_beginBody 81 = .ok (.iload_n 3, 1) := by decide +kernel
theorem dX7_beginBody_82 : decode cX7_beginBody 82 = .ok (.laload, 1) := by decide +kernel
theorem dX7_beginBody_83 : decode cX7_beginBody 83 = .ok (.lconst 0, 1) := by decide +kernel
theorem dX7_beginBody_84 : decode cX7_beginBody 84 = .ok (.lcmp, 1) := by decide +kernel
theorem dX7_beginBody_85 : decode cX7_beginBody 85 = .ok (.ifCond .gt 4, 3) := by decide +kernel
theorem dX7_beginBody_88 : decode cX7_beginBody 88 = .ok (.return_, 1) := by decide +kernel
theorem dX7_beginBody_89 : decode cX7_beginBody 89 = .ok (.aload_n 0, 1) := by decide +kernel
theorem dX7_beginBody_90 : decode cX7_beginBody 90 = .ok (.iload_n 2, 1) := by decide +kernel
theorem dX7_beginBody_91 : decode cX7_beginBody 91 = .ok (.iload_n 1, 1) := by decide +kernel
theorem dX7_beginBody_92 : decode cX7_beginBody 92 = .ok (.aload_n 0, 1) := by decide +kernel
theorem dX7_beginBody_93 : decode cX7_beginBody 93 = .ok (.getfield 99, 3) := by decide +kernel
theorem dX7_beginBody_96 : decode cX7_beginBody 96 = .ok (.invokevirtual 246, 3) := by decide +kernel
theorem dX7_beginBody_99 : decode cX7_beginBody 99 = .ok (.iload_n 2, 1) := by decide +kernel
theorem dX7_beginBody_100 : decode cX7_beginBody 100 = .ok (.bipush 11, 2) := by decide +kernel
theorem dX7_beginBody_102 : decode cX7_beginBody 102 = .ok (.if_icmp .ne 37, 3) := by decide +kernel
theorem dX7_beginBody_105 : decode cX7_beginBody 105 = .ok (.aload_n 0, 1) := by decide +kernel
theorem dX7_beginBody_106 : decode cX7_beginBody 106 = .ok (.getfield 34, 3) := by decide +kernel
theorem dX7_beginBody_109 : decode cX7_beginBody 109 = .ok (.getfield 208, 3) := by decide +kernel
theorem dX7_beginBody_112 : decode cX7_beginBody 112 = .ok (.iload_n 3, 1) := by decide +kernel
theorem dX7_beginBody_113 : decode cX7_beginBody 113 = .ok (.dup2, 1) := by decide +kernel
theorem dX7_beginBody_114 : decode cX7_beginBody 114 = .ok (.iaload, 1) := by decide +kernel
theorem dX7_beginBody_115 : decode cX7_beginBody 115 = .ok (.iconst 1, 1) := by decide +kernel
theorem dX7_beginBody_116 : decode cX7_beginBody 116 = .ok (.iadd, 1) := by decide +kernel
theorem dX7_beginBody_117 : decode cX7_beginBody 117 = .ok (.iastore, 1) := by decide +kernel
theorem dX7_beginBody_118 : decode cX7_beginBody 118 = .ok (.aload_n 0, 1) := by decide +kernel
theorem dX7_beginBody_119 : decode cX7_beginBody 119 = .ok (.aload_n 0, 1) := by decide +kernel
theorem dX7_beginBody_120 : decode cX7_beginBody 120 = .ok (.getfield 64, 3) := by decide +kernel
theorem dX7_beginBody_123 : decode cX7_beginBody 123 = .ok (.aload_n 0, 1) := by decide +kernel
theorem dX7_beginBody_124 : decode cX7_beginBody 124 = .ok (.getfield 34, 3) := by decide +kernel
theorem dX7_beginBody_127 : decode cX7_beginBody 127 = .ok (.invokevirtual 249, 3) := by decide +kernel
theorem dX7_beginBody_130 : decode cX7_beginBody 130 = .ok (.invokestatic 252, 3) := by decide +kernel
theorem dX7_beginBody_133 : decode cX7_beginBody 133 = .ok (.putfield 64, 3) := by decide +kernel
theorem dX7_beginBody_136 : decode cX7_beginBody 136 = .ok (.goto 50, 3) := by decide +kernel
theorem dX7_beginBody_139 : decode cX7_beginBody 139 = .ok (.iload_n 2, 1) := by decide +kernel
theorem dX7_beginBody_140 : decode cX7_beginBody 140 = .ok (.bipush 12, 2) := by decide +kernel
theorem dX7_beginBody_142 : decode cX7_beginBody 142 = .ok (.if_icmp .ne 27, 3) := by decide +kernel
theorem dX7_beginBody_145 : decode cX7_beginBody 145 = .ok (.aload_n 0, 1) := by decide +kernel
theorem dX7_beginBody_146 : decode cX7_beginBody 146 = .ok (.getfield 34, 3) := by decide +kernel
theorem dX7_beginBody_149 : decode cX7_beginBody 149 = .ok (.iload_n 3, 1) := by decide +kernel
theorem dX7_beginBody_150 : decode cX7_beginBody 150 = .ok (.aload_n 0, 1) := by decide +kernel
theorem dX7_beginBody_151 : decode cX7_beginBody 151 = .ok (.getfield 34, 3) := by decide +kernel
theorem dX7_beginBody_154 : decode cX7_beginBody 154 = .ok (.getfield 185, 3) := by decide +kernel
theorem dX7_beginBody_157 : decode cX7_beginBody 157 = .ok (.iload_n 3, 1) := by decide +kernel
theorem dX7_beginBody_158 : decode cX7_beginBody 158 = .ok (.laload, 1) := by decide +kernel
theorem dX7_beginBody_159 : decode cX7_beginBody 159 = .ok (.iload 4, 2) := by decide +kernel
theorem dX7_beginBody_161 : decode cX7_beginBody 161 = .ok (.i2l, 1) := by decide +kernel
theorem dX7_beginBody_162 : decode cX7_beginBody 162 = .ok (.lsub, 1) := by decide +kernel
theorem dX7_beginBody_163 : decode cX7_beginBody 163 = .ok (.invokevirtual 189, 3) := by decide +kernel
theorem dX7_beginBody_166 : decode cX7_beginBody 166 = .ok (.goto 20, 3) := by decide +kernel
theorem dX7_beginBody_169 : decode cX7_beginBody 169 = .ok (.iload_n 2, 1) := by decide +kernel
theorem dX7_beginBody_170 : decode cX7_beginBody 170 = .ok (.bipush 13, 2) := by decide +kernel
theorem dX7_beginBody_172 : decode cX7_beginBody 172 = .ok (.if_icmp .ne 14, 3) := by decide +kernel
theorem dX7_beginBody_175 : decode cX7_beginBody 175 = .ok (.aload_n 0, 1) := by decide +kernel
theorem dX7_beginBody_176 : decode cX7_beginBody 176 = .ok (.getfield 34, 3) := by decide +kernel
theorem dX7_beginBody_179 : decode cX7_beginBody 179 = .ok (.getfield 257, 3) := by decide +kernel
theorem dX7_beginBody_182 : decode cX7_beginBody 182 = .ok (.iload_n 3, 1) := by decide +kernel
theorem dX7_beginBody_183 : decode cX7_beginBody 183 = .ok (.iload 4, 2) := by decide +kernel
theorem dX7_beginBody_185 : decode cX7_beginBody 185 = .ok (.iastore, 1) := by decide +kernel
theorem dX7_beginBody_186 : decode cX7_beginBody 186 = .ok (.return_, 1) := by decide +kernel
theorem dX7_leave_0 : decode cX7_leave 0 = .ok (.aload_n 1, 1) := by decide +kernel
theorem dX7_leave_1 : decode cX7_leave 1 = .ok (.getfield 146, 3) := by decide +kernel
theorem dX7_leave_4 : decode cX7_leave 4 = .ok (.istore_n 2, 1) := by decide +kernel
theorem dX7_leave_5 : decode cX7_leave 5 = .ok (.aload_n 1, 1) := by decide +kernel
theorem dX7_leave_6 : decode cX7_leave 6 = .ok (.getfield 133, 3) := by decide +kernel
theorem dX7_leave_9 : decode cX7_leave 9 = .ok (.tableswitch 160 10 21 #[71, 84, 100, 126, 63, 142, 151, 160, 160, 160, 160, 63], 63) := by decide +kernel
theorem dX7_leave_72 : decode cX7_leave 72 = .ok (.aload_n 0, 1) := by decide +kernel
theorem dX7_leave_73 : decode cX7_leave 73 = .ok (.aload_n 1, 1) := by decide +kernel
theorem dX7_leave_74 : decode cX7_leave 74 = .ok (.invokevirtual 260, 3) := by decide +kernel
theorem dX7_leave_77 : decode cX7_leave 77 = .ok (.goto 92, 3) := by decide +kernel
theorem dX7_leave_80 : decode cX7_leave 80 = .ok (.aload_n 0, 1) := by decide +kernel
theorem dX7_leave_81 : decode cX7_leave 81 = .ok (.dup, 1) := by decide +kernel
theorem dX7_leave_82 : decode cX7_leave 82 = .ok (.getfield 51, 3) := by decide +kernel
theorem dX7_leave_85 : decode cX7_leave 85 = .ok (.iconst 1, 1) := by decide +kernel
theorem dX7_leave_86 : decode cX7_leave 86 = .ok (.isub, 1) := by decide +kernel
theorem dX7_leave_87 : decode cX7_leave 87 = .ok (.putfield 51, 3) := by decide +kernel
theorem dX7_leave_90 : decode cX7_leave 90 = .ok (.goto 79, 3) := by decide +kernel
theorem dX7_leave_93 : decode cX7_leave 93 = .ok (.aload_n 0, 1) := by decide +kernel
theorem dX7_leave_94 : decode cX7_leave 94 = .ok (.getfield 34, 3) := by decide +kernel
theorem dX7_leave_97 : decode cX7_leave 97 = .ok (.getfield 208, 3) := by decide +kernel
theorem dX7_leave_100 : decode cX7_leave 100 = .ok (.iload_n 2, 1) := by decide +kernel
theorem dX7_leave_101 : decode cX7_leave 101 = .ok (.dup2, 1) := by decide +kernel
theorem dX7_leave_102 : decode cX7_leave 102 = .ok (.iaload, 1) := by decide +kernel
theorem dX7_leave_103 : decode cX7_leave 103 = .ok (.iconst 1, 1) := by decide +kernel
theorem dX7_leave_104 : decode cX7_leave 104 = .ok (.isub, 1) := by decide +kernel
theorem dX7_leave_105 : decode cX7_leave 105 = .ok (.iastore, 1) := by decide +kernel
theorem dX7_leave_106 : decode cX7_leave 106 = .ok (.goto 63, 3) := by decide +kernel
theorem dX7_leave_109 : decode cX7_leave 109 = .ok (.aload_n 0, 1) := by decide +kernel
theorem dX7_leave_110 : decode cX7_leave 110 = .ok (.getfield 34, 3) := by decide +kernel
theorem dX7_leave_113 : decode cX7_leave 113 = .ok (.iload_n 2, 1) := by decide +kernel
theorem dX7_leave_114 : decode cX7_leave 114 = .ok (.aload_n 0, 1) := by decide +kernel
theorem dX7_leave_115 : decode cX7_leave 115 = .ok (.getfield 34, 3) := by decide +kernel
theorem dX7_leave_118 : decode cX7_leave 118 = .ok (.getfield 185, 3) := by decide +kernel
theorem dX7_leave_121 : decode cX7_leave 121 = .ok (.iload_n 2, 1) := by decide +kernel
theorem dX7_leave_122 : decode cX7_leave 122 = .ok (.laload, 1) := by decide +kernel
theorem dX7_leave_123 : decode cX7_leave 123 = .ok (.aload_n 1, 1) := by decide +kernel
theorem dX7_leave_124 : decode cX7_leave 124 = .ok (.getfield 152, 3) := by decide +kernel
theorem dX7_leave_127 : decode cX7_leave 127 = .ok (.i2l, 1) := by decide +kernel
theorem dX7_leave_128 : decode cX7_leave 128 = .ok (.ladd, 1) := by decide +kernel
theorem dX7_leave_129 : decode cX7_leave 129 = .ok (.invokevirtual 189, 3) := by decide +kernel
theorem dX7_leave_132 : decode cX7_leave 132 = .ok (.goto 37, 3) := by decide +kernel
theorem dX7_leave_135 : decode cX7_leave 135 = .ok (.aload_n 0, 1) := by decide +kernel
theorem dX7_leave_136 : decode cX7_leave 136 = .ok (.getfield 34, 3) := by decide +kernel
theorem dX7_leave_139 : decode cX7_leave 139 = .ok (.getfield 257, 3) := by decide +kernel
theorem dX7_leave_142 : decode cX7_leave 142 = .ok (.iload_n 2, 1) := by decide +kernel
theorem dX7_leave_143 : decode cX7_leave 143 = .ok (.aload_n 1, 1) := by decide +kernel
theorem dX7_leave_144 : decode cX7_leave 144 = .ok (.getfield 158, 3) := by decide +kernel
theorem dX7_leave_147 : decode cX7_leave 147 = .ok (.iastore, 1) := by decide +kernel
theorem dX7_leave_148 : decode cX7_leave 148 = .ok (.goto 21, 3) := by decide +kernel
theorem dX7_leave_151 : decode cX7_leave 151 = .ok (.aload_n 0, 1) := by decide +kernel
theorem dX7_leave_152 : decode cX7_leave 152 = .ok (.aload_n 1, 1) := by decide +kernel
theorem dX7_leave_153 : decode cX7_leave 153 = .ok (.invokevirtual 263, 3) := by decide +kernel
theorem dX7_leave_156 : decode cX7_leave 156 = .ok (.ifCond .eq 13, 3) := by decide +kernel
theorem dX7_leave_159 : decode cX7_leave 159 = .ok (.return_, 1) := by decide +kernel
theorem dX7_leave_160 : decode cX7_leave 160 = .ok (.aload_n 0, 1) := by decide +kernel
theorem dX7_leave_161 : decode cX7_leave 161 = .ok (.aload_n 1, 1) := by decide +kernel
theorem dX7_leave_162 : decode cX7_leave 162 = .ok (.invokevirtual 266, 3) := by decide +kernel
theorem dX7_leave_165 : decode cX7_leave 165 = .ok (.ifCond .eq 4, 3) := by decide +kernel
theorem dX7_leave_168 : decode cX7_leave 168 = .ok (.return_, 1) := by decide +kernel
theorem dX7_leave_169 : decode cX7_leave 169 = .ok (.aload_n 0, 1) := by decide +kernel
theorem dX7_leave_170 : decode cX7_leave 170 = .ok (.dup, 1) := by decide +kernel
theorem dX7_leave_171 : decode cX7_leave 171 = .ok (.getfield 70, 3) := by decide +kernel
theorem dX7_leave_174 : decode cX7_leave 174 = .ok (.iconst 1, 1) := by decide +kernel
theorem dX7_leave_175 : decode cX7_leave 175 = .ok (.isub, 1) := by decide +kernel
theorem dX7_leave_176 : decode cX7_leave 176 = .ok (.putfield 70, 3) := by decide +kernel
theorem dX7_leave_179 : decode cX7_leave 179 = .ok (.aload_n 1, 1) := by decide +kernel
theorem dX7_leave_180 : decode cX7_leave 180 = .ok (.getfield 133, 3) := by decide +kernel
theorem dX7_leave_183 : decode cX7_leave 183 = .ok (.bipush 20, 2) := by decide +kernel
theorem dX7_leave_185 : decode cX7_leave 185 = .ok (.if_icmp .ne 20, 3) := by decide +kernel
theorem dX7_leave_188 : decode cX7_leave 188 = .ok (.aload_n 0, 1) := by decide +kernel
theorem dX7_leave_189 : decode cX7_leave 189 = .ok (.getfield 44, 3) := by decide +kernel
theorem dX7_leave_192 : decode cX7_leave 192 = .ok (.iconst 0, 1) := by decide +kernel
theorem dX7_leave_193 : decode cX7_leave 193 = .ok (.iaload, 1) := by decide +kernel
theorem dX7_leave_194 : decode cX7_leave 194 = .ok (.ifCond .ne 11, 3) := by decide +kernel
theorem dX7_leave_197 : decode cX7_leave 197 = .ok (.aload_n 0, 1) := by decide +kernel
theorem dX7_leave_198 : decode cX7_leave 198 = .ok (.aload_n 1, 1) := by decide +kernel
theorem dX7_leave_199 : decode cX7_leave 199 = .ok (.getfield 136, 3) := by decide +kernel
theorem dX7_leave_202 : decode cX7_leave 202 = .ok (.invokevirtual 269, 3) := by decide +kernel
theorem dX7_leave_205 : decode cX7_leave 205 = .ok (.return_, 1) := by decide +kernel
theorem dX7_undoFaulted_0 : decode cX7_undoFaulted 0 = .ok (.aload_n 0, 1) := by decide +kernel
theorem dX7_undoFaulted_1 : decode cX7_undoFaulted 1 = .ok (.getfield 44, 3) := by decide +kernel
theorem dX7_undoFaulted_4 : decode cX7_undoFaulted 4 = .ok (.iconst 0, 1) := by decide +kernel
theorem dX7_undoFaulted_5 : decode cX7_undoFaulted 5 = .ok (.iaload, 1) := by decide +kernel
theorem dX7_undoFaulted_6 : decode cX7_undoFaulted 6 = .ok (.iconst 1, 1) := by decide +kernel
theorem dX7_undoFaulted_7 : decode cX7_undoFaulted 7 = .ok (.if_icmp .ne 14, 3) := by decide +kernel
theorem dX7_undoFaulted_10 : decode cX7_undoFaulted 10 = .ok (.aload_n 0, 1) := by decide +kernel
theorem dX7_undoFaulted_11 : decode cX7_undoFaulted 11 = .ok (.getfield 34, 3) := by decide +kernel
theorem dX7_undoFaulted_14 : decode cX7_undoFaulted 14 = .ok (.aload_n 1, 1) := by decide +kernel
theorem dX7_undoFaulted_15 : decode cX7_undoFaulted 15 = .ok (.getfield 127, 3) := by decide +kernel
theorem dX7_undoFaulted_18 : decode cX7_undoFaulted 18 = .ok (.invokevirtual 272, 3) := by decide +kernel
theorem dX7_undoFaulted_21 : decode cX7_undoFaulted 21 = .ok (.return_, 1) := by decide +kernel
theorem dX7_lookAgain_0 : decode cX7_lookAgain 0 = .ok (.aload_n 0, 1) := by decide +kernel
theorem dX7_lookAgain_1 : decode cX7_lookAgain 1 = .ok (.invokevirtual 78, 3) := by decide +kernel
theorem dX7_lookAgain_4 : decode cX7_lookAgain 4 = .ok (.astore_n 2, 1) := by decide +kernel
theorem dX7_lookAgain_5 : decode cX7_lookAgain 5 = .ok (.aload_n 2, 1) := by decide +kernel
theorem dX7_lookAgain_6 : decode cX7_lookAgain 6 = .ok (.ifnull 8, 3) := by decide +kernel
theorem dX7_lookAgain_9 : decode cX7_lookAgain 9 = .ok (.aload_n 2, 1) := by decide +kernel
theorem dX7_lookAgain_10 : decode cX7_lookAgain 10 = .ok (.iload_n 1, 1) := by decide +kernel
theorem dX7_lookAgain_11 : decode cX7_lookAgain 11 = .ok (.putfield 82, 3) := by decide +kernel
theorem dX7_lookAgain_14 : decode cX7_lookAgain 14 = .ok (.return_, 1) := by decide +kernel
theorem dX7_goesAgain_0 : decode cX7_goesAgain 0 = .ok (.aload_n 0, 1) := by decide +kernel
theorem dX7_goesAgain_1 : decode cX7_goesAgain 1 = .ok (.aload_n 1, 1) := by decide +kernel
theorem dX7_goesAgain_2 : decode cX7_goesAgain 2 = .ok (.invokevirtual 260, 3) := by decide +kernel
theorem dX7_goesAgain_5 : decode cX7_goesAgain 5 = .ok (.aload_n 0, 1) := by decide +kernel
theorem dX7_goesAgain_6 : decode cX7_goesAgain 6 = .ok (.getfield 44, 3) := by decide +kernel
theorem dX7_goesAgain_9 : decode cX7_goesAgain 9 = .ok (.iconst 0, 1) := by decide +kernel
theorem dX7_goesAgain_10 : decode cX7_goesAgain 10 = .ok (.iaload, 1) := by decide +kernel
theorem dX7_goesAgain_11 : decode cX7_goesAgain 11 = .ok (.iconst 1, 1) := by decide +kernel
theorem dX7_goesAgain_12 : decode cX7_goesAgain 12 = .ok (.if_icmp .ne 21, 3) := by decide +kernel
theorem dX7_goesAgain_15 : decode cX7_goesAgain 15 = .ok (.aload_n 1, 1) := by decide +kernel
theorem dX7_goesAgain_16 : decode cX7_goesAgain 16 = .ok (.getfield 117, 3) := by decide +kernel
theorem dX7_goesAgain_19 : decode cX7_goesAgain 19 = .ok (.aload_n 1, 1) := by decide +kernel
theorem dX7_goesAgain_20 : decode cX7_goesAgain 20 = .ok (.getfield 146, 3) := by decide +kernel
theorem dX7_goesAgain_23 : decode cX7_goesAgain 23 = .ok (.if_icmp .ge 10, 3) := by decide +kernel
theorem dX7_goesAgain_26 : decode cX7_goesAgain 26 = .ok (.aload_n 0, 1) := by decide +kernel
theorem dX7_goesAgain_27 : decode cX7_goesAgain 27 = .ok (.invokevirtual 161, 3) := by decide +kernel
theorem dX7_goesAgain_30 : decode cX7_goesAgain 30 = .ok (.ifCond .ne 5, 3) := by decide +kernel
theorem dX7_goesAgain_33 : decode cX7_goesAgain 33 = .ok (.iconst 0, 1) := by decide +kernel
theorem dX7_goesAgain_34 : decode cX7_goesAgain 34 = .ok (.ireturn, 1) := by decide +kernel
theorem dX7_goesAgain_35 : decode cX7_goesAgain 35 = .ok (.aload_n 1, 1) := by decide +kernel
theorem dX7_goesAgain_36 : decode cX7_goesAgain 36 = .ok (.dup, 1) := by decide +kernel
theorem dX7_goesAgain_37 : decode cX7_goesAgain 37 = .ok (.getfield 117, 3) := by decide +kernel
theorem dX7_goesAgain_40 : decode cX7_goesAgain 40 = .ok (.iconst 1, 1) := by decide +kernel
theorem dX7_goesAgain_41 : decode cX7_goesAgain 41 = .ok (.iadd, 1) := by decide +kernel
theorem dX7_goesAgain_42 : decode cX7_goesAgain 42 = .ok (.putfield 117, 3) := by decide +kernel
theorem dX7_goesAgain_45 : decode cX7_goesAgain 45 = .ok (.aload_n 1, 1) := by decide +kernel
theorem dX7_goesAgain_46 : decode cX7_goesAgain 46 = .ok (.aload_n 1, 1) := by decide +kernel
theorem dX7_goesAgain_47 : decode cX7_goesAgain 47 = .ok (.getfield 136, 3) := by decide +kernel
theorem dX7_goesAgain_50 : decode cX7_goesAgain 50 = .ok (.iconst 1, 1) := by decide +kernel
theorem dX7_goesAgain_51 : decode cX7_goesAgain 51 = .ok (.iadd, 1) := by decide +kernel
theorem dX7_goesAgain_52 : decode cX7_goesAgain 52 = .ok (.putfield 82, 3) := by decide +kernel
theorem dX7_goesAgain_55 : decode cX7_goesAgain 55 = .ok (.aload_n 0, 1) := by decide +kernel
theorem dX7_goesAgain_56 : decode cX7_goesAgain 56 = .ok (.getfield 44, 3) := by decide +kernel
theorem dX7_goesAgain_59 : decode cX7_goesAgain 59 = .ok (.iconst 0, 1) := by decide +kernel
theorem dX7_goesAgain_60 : decode cX7_goesAgain 60 = .ok (.iconst 0, 1) := by decide +kernel
theorem dX7_goesAgain_61 : decode cX7_goesAgain 61 = .ok (.iastore, 1) := by decide +kernel
theorem dX7_goesAgain_62 : decode cX7_goesAgain 62 = .ok (.iconst 1, 1) := by decide +kernel
theorem dX7_goesAgain_63 : decode cX7_goesAgain 63 = .ok (.ireturn, 1) := by decide +kernel
theorem dX7_goesOnTrying_0 : decode cX7_goesOnTrying 0 = .ok (.aload_n 0, 1) := by decide +kernel
theorem dX7_goesOnTrying_1 : decode cX7_goesOnTrying 1 = .ok (.getfield 44, 3) := by decide +kernel
theorem dX7_goesOnTrying_4 : decode cX7_goesOnTrying 4 = .ok (.iconst 0, 1) := by decide +kernel
theorem dX7_goesOnTrying_5 : decode cX7_goesOnTrying 5 = .ok (.iaload, 1) := by decide +kernel
theorem dX7_goesOnTrying_6 : decode cX7_goesOnTrying 6 = .ok (.iconst 3, 1) := by decide +kernel
theorem dX7_goesOnTrying_7 : decode cX7_goesOnTrying 7 = .ok (.if_icmp .ne 5, 3) := by decide +kernel
theorem dX7_goesOnTrying_10 : decode cX7_goesOnTrying 10 = .ok (.iconst 0, 1) := by decide +kernel
theorem dX7_goesOnTrying_11 : decode cX7_goesOnTrying 11 = .ok (.ireturn, 1) := by decide +kernel
theorem dX7_goesOnTrying_12 : decode cX7_goesOnTrying 12 = .ok (.aload_n 1, 1) := by decide +kernel
theorem dX7_goesOnTrying_13 : decode cX7_goesOnTrying 13 = .ok (.getfield 114, 3) := by decide +kernel
theorem dX7_goesOnTrying_16 : decode cX7_goesOnTrying 16 = .ok (.iconst 2, 1) := by decide +kernel
theorem dX7_goesOnTrying_17 : decode cX7_goesOnTrying 17 = .ok (.if_icmp .ne 10, 3) := by decide +kernel
theorem dX7_goesOnTrying_20 : decode cX7_goesOnTrying 20 = .ok (.aload_n 0, 1) := by decide +kernel
theorem dX7_goesOnTrying_21 : decode cX7_goesOnTrying 21 = .ok (.aload_n 1, 1) := by decide +kernel
theorem dX7_goesOnTrying_22 : decode cX7_goesOnTrying 22 = .ok (.invokevirtual 275, 3) := by decide +kernel
theorem dX7_goesOnTrying_25 : decode cX7_goesOnTrying 25 = .ok (.iconst 0, 1) := by decide +kernel
theorem dX7_goesOnTrying_26 : decode cX7_goesOnTrying 26 = .ok (.ireturn, 1) := by decide +kernel
theorem dX7_goesOnTrying_27 : decode cX7_goesOnTrying 27 = .ok (.aload_n 1, 1) := by decide +kernel
theorem dX7_goesOnTrying_28 : decode cX7_goesOnTrying 28 = .ok (.getfield 114, 3) := by decide +kernel
theorem dX7_goesOnTrying_31 : decode cX7_goesOnTrying 31 = .ok (.ifCond .ne 23, 3) := by decide +kernel
theorem dX7_goesOnTrying_34 : decode cX7_goesOnTrying 34 = .ok (.aload_n 0, 1) := by decide +kernel
theorem dX7_goesOnTrying_35 : decode cX7_goesOnTrying 35 = .ok (.getfield 44, 3) := by decide +kernel
theorem dX7_goesOnTrying_38 : decode cX7_goesOnTrying 38 = .ok (.iconst 0, 1) := by decide +kernel
theorem dX7_goesOnTrying_39 : decode cX7_goesOnTrying 39 = .ok (.iaload, 1) := by decide +kernel
theorem dX7_goesOnTrying_40 : decode cX7_goesOnTrying 40 = .ok (.iconst 1, 1) := by decide +kernel
theorem dX7_goesOnTrying_41 : decode cX7_goesOnTrying 41 = .ok (.if_icmp .ne 13, 3) := by decide +kernel
theorem dX7_goesOnTrying_44 : decode cX7_goesOnTrying 44 = .ok (.aload_n 0, 1) := by decide +kernel
theorem dX7_goesOnTrying_45 : decode cX7_goesOnTrying 45 = .ok (.aload_n 1, 1) := by decide +kernel
theorem dX7_goesOnTrying_46 : decode cX7_goesOnTrying 46 = .ok (.invokevirtual 278, 3) := by decide +kernel
theorem dX7_goesOnTrying_49 : decode cX7_goesOnTrying 49 = .ok (.ifCond .eq 5, 3) := by decide +kernel
theorem dX7_goesOnTrying_52 : decode cX7_goesOnTrying 52 = .ok (.iconst 1, 1) := by decide +kernel
theorem dX7_goesOnTrying_53 : decode cX7_goesOnTrying 53 = .ok (.ireturn, 1) := by decide +kernel
theorem dX7_goesOnTrying_54 : decode cX7_goesOnTrying 54 = .ok (.aload_n 1, 1) := by decide +kernel
theorem dX7_goesOnTrying_55 : decode cX7_goesOnTrying 55 = .ok (.getfield 114, 3) := by decide +kernel
theorem dX7_goesOnTrying_58 : decode cX7_goesOnTrying 58 = .ok (.iconst 1, 1) := by decide +kernel
theorem dX7_goesOnTrying_59 : decode cX7_goesOnTrying 59 = .ok (.if_icmp .ne 23, 3) := by decide +kernel
theorem dX7_goesOnTrying_62 : decode cX7_goesOnTrying 62 = .ok (.aload_n 0, 1) := by decide +kernel
theorem dX7_goesOnTrying_63 : decode cX7_goesOnTrying 63 = .ok (.getfield 44, 3) := by decide +kernel
theorem dX7_goesOnTrying_66 : decode cX7_goesOnTrying 66 = .ok (.iconst 0, 1) := by decide +kernel
theorem dX7_goesOnTrying_67 : decode cX7_goesOnTrying 67 = .ok (.iaload, 1) := by decide +kernel
theorem dX7_goesOnTrying_68 : decode cX7_goesOnTrying 68 = .ok (.iconst 1, 1) := by decide +kernel
theorem dX7_goesOnTrying_69 : decode cX7_goesOnTrying 69 = .ok (.if_icmp .ne 13, 3) := by decide +kernel
theorem dX7_goesOnTrying_72 : decode cX7_goesOnTrying 72 = .ok (.aload_n 0, 1) := by decide +kernel
theorem dX7_goesOnTrying_73 : decode cX7_goesOnTrying 73 = .ok (.getfield 44, 3) := by decide +kernel
theorem dX7_goesOnTrying_76 : decode cX7_goesOnTrying 76 = .ok (.iconst 4, 1) := by decide +kernel
theorem dX7_goesOnTrying_77 : decode cX7_goesOnTrying 77 = .ok (.aload_n 1, 1) := by decide +kernel
theorem dX7_goesOnTrying_78 : decode cX7_goesOnTrying 78 = .ok (.getfield 120, 3) := by decide +kernel
theorem dX7_goesOnTrying_81 : decode cX7_goesOnTrying 81 = .ok (.iastore, 1) := by decide +kernel
theorem dX7_goesOnTrying_82 : decode cX7_goesOnTrying 82 = .ok (.aload_n 0, 1) := by decide +kernel
theorem dX7_goesOnTrying_83 : decode cX7_goesOnTrying 83 = .ok (.aload_n 1, 1) := by decide +kernel
theorem dX7_goesOnTrying_84 : decode cX7_goesOnTrying 84 = .ok (.invokevirtual 281, 3) := by decide +kernel
theorem dX7_goesOnTrying_87 : decode cX7_goesOnTrying 87 = .ok (.ireturn, 1) := by decide +kernel
theorem dX7_meets_0 : decode cX7_meets 0 = .ok (.aload_n 0, 1) := by decide +kernel
theorem dX7_meets_1 : decode cX7_meets 1 = .ok (.getfield 27, 3) := by decide +kernel
theorem dX7_meets_4 : decode cX7_meets 4 = .ok (.aload_n 1, 1) := by decide +kernel
theorem dX7_meets_5 : decode cX7_meets 5 = .ok (.getfield 96, 3) := by decide +kernel
theorem dX7_meets_8 : decode cX7_meets 8 = .ok (.aload_n 1, 1) := by decide +kernel
theorem dX7_meets_9 : decode cX7_meets 9 = .ok (.getfield 136, 3) := by decide +kernel
theorem dX7_meets_12 : decode cX7_meets 12 = .ok (.invokevirtual 143, 3) := by decide +kernel
theorem dX7_meets_15 : decode cX7_meets 15 = .ok (.iconst 1, 1) := by decide +kernel
theorem dX7_meets_16 : decode cX7_meets 16 = .ok (.iadd, 1) := by decide +kernel
theorem dX7_meets_17 : decode cX7_meets 17 = .ok (.istore_n 2, 1) := by decide +kernel
theorem dX7_meets_18 : decode cX7_meets 18 = .ok (.iconst 0, 1) := by decide +kernel
theorem dX7_meets_19 : decode cX7_meets 19 = .ok (.istore_n 3, 1) := by decide +kernel
theorem dX7_meets_20 : decode cX7_meets 20 = .ok (.iload_n 3, 1) := by decide +kernel
theorem dX7_meets_21 : decode cX7_meets 21 = .ok (.bipush 40, 2) := by decide +kernel
theorem dX7_meets_23 : decode cX7_meets 23 = .ok (.if_icmp .ge 100, 3) := by decide +kernel
theorem dX7_meets_26 : decode cX7_meets 26 = .ok (.aload_n 0, 1) := by decide +kernel
theorem dX7_meets_27 : decode cX7_meets 27 = .ok (.getfield 27, 3) := by decide +kernel
theorem dX7_meets_30 : decode cX7_meets 30 = .ok (.aload_n 1, 1) := by decide +kernel
theorem dX7_meets_31 : decode cX7_meets 31 = .ok (.getfield 96, 3) := by decide +kernel
theorem dX7_meets_34 : decode cX7_meets 34 = .ok (.iload_n 2, 1) := by decide +kernel
theorem dX7_meets_35 : decode cX7_meets 35 = .ok (.invokevirtual 102, 3) := by decide +kernel
theorem dX7_meets_38 : decode cX7_meets 38 = .ok (.bipush 17, 2) := by decide +kernel
theorem dX7_meets_40 : decode cX7_meets 40 = .ok (.if_icmp .ne 83, 3) := by decide +kernel
theorem dX7_meets_43 : decode cX7_meets 43 = .ok (.aload_n 0, 1) := by decide +kernel
theorem dX7_meets_44 : decode cX7_meets 44 = .ok (.getfield 27, 3) := by decide +kernel
theorem dX7_meets_47 : decode cX7_meets 47 = .ok (.aload_n 1, 1) := by decide +kernel
theorem dX7_meets_48 : decode cX7_meets 48 = .ok (.getfield 96, 3) := by decide +kernel
theorem dX7_meets_51 : decode cX7_meets 51 = .ok (.iload_n 2, 1) := by decide +kernel
theorem dX7_meets_52 : decode cX7_meets 52 = .ok (.invokevirtual 106, 3) := by decide +kernel
theorem dX7_meets_55 : decode cX7_meets 55 = .ok (.istore 4, 2) := by decide +kernel
theorem dX7_meets_57 : decode cX7_meets 57 = .ok (.iload 4, 2) := by decide +kernel
theorem dX7_meets_59 : decode cX7_meets 59 = .ok (.ifCond .eq 14, 3) := by decide +kernel
theorem dX7_meets_62 : decode cX7_meets 62 = .ok (.iload 4, 2) := by decide +kernel
theorem dX7_meets_64 : decode cX7_meets 64 = .ok (.aload_n 0, 1) := by decide +kernel
theorem dX7_meets_65 : decode cX7_meets 65 = .ok (.getfield 44, 3) := by decide +kernel
theorem dX7_meets_68 : decode cX7_meets 68 = .ok (.iconst 1, 1) := by decide +kernel
theorem dX7_meets_69 : decode cX7_meets 69 = .ok (.iaload, 1) := by decide +kernel
theorem dX7_meets_70 : decode cX7_meets 70 = .ok (.if_icmp .ne 32, 3) := by decide +kernel
theorem dX7_meets_73 : decode cX7_meets 73 = .ok (.aload_n 0, 1) := by decide +kernel
theorem dX7_meets_74 : decode cX7_meets 74 = .ok (.dup, 1) := by decide +kernel
theorem dX7_meets_75 : decode cX7_meets 75 = .ok (.getfield 58, 3) := by decide +kernel
theorem dX7_meets_78 : decode cX7_meets 78 = .ok (.iconst 1, 1) := by decide +kernel
theorem dX7_meets_79 : decode cX7_meets 79 = .ok (.iadd, 1) := by decide +kernel
theorem dX7_meets_80 : decode cX7_meets 80 = .ok (.putfield 58, 3) := by decide +kernel
theorem dX7_meets_83 : decode cX7_meets 83 = .ok (.aload_n 1, 1) := by decide +kernel
theorem dX7_meets_84 : decode cX7_meets 84 = .ok (.aload_n 0, 1) := by decide +kernel
theorem dX7_meets_85 : decode cX7_meets 85 = .ok (.getfield 44, 3) := by decide +kernel
theorem dX7_meets_88 : decode cX7_meets 88 = .ok (.iconst 1, 1) := by decide +kernel
theorem dX7_meets_89 : decode cX7_meets 89 = .ok (.iaload, 1) := by decide +kernel
theorem dX7_meets_90 : decode cX7_meets 90 = .ok (.putfield 120, 3) := by decide +kernel
theorem dX7_meets_93 : decode cX7_meets 93 = .ok (.aload_n 0, 1) := by decide +kernel
theorem dX7_meets_94 : decode cX7_meets 94 = .ok (.aload_n 1, 1) := by decide +kernel
theorem dX7_meets_95 : decode cX7_meets 95 = .ok (.iload_n 2, 1) := by decide +kernel
theorem dX7_meets_96 : decode cX7_meets 96 = .ok (.iconst 1, 1) := by decide +kernel
theorem dX7_meets_97 : decode cX7_meets 97 = .ok (.invokevirtual 284, 3) := by decide +kernel
theorem dX7_meets_100 : decode cX7_meets 100 = .ok (.iconst 1, 1) := by decide +kernel
theorem dX7_meets_101 : decode cX7_meets 101 = .ok (.ireturn, 1) := by decide +kernel
theorem dX7_meets_102 : decode cX7_meets 102 = .ok (.aload_n 0, 1) := by decide +kernel
theorem dX7_meets_103 : decode cX7_meets 103 = .ok (.getfield 27, 3) := by decide +kernel
theorem dX7_meets_106 : decode cX7_meets 106 = .ok (.aload_n 1, 1) := by decide +kernel
theorem dX7_meets_107 : decode cX7_meets 107 = .ok (.getfield 96, 3) := by decide +kernel
theorem dX7_meets_110 : decode cX7_meets 110 = .ok (.iload_n 2, 1) := by decide +kernel
theorem dX7_meets_111 : decode cX7_meets 111 = .ok (.invokevirtual 143, 3) := by decide +kernel
theorem dX7_meets_114 : decode cX7_meets 114 = .ok (.iconst 1, 1) := by decide +kernel
theorem dX7_meets_115 : decode cX7_meets 115 = .ok (.iadd, 1) := by decide +kernel
theorem dX7_meets_116 : decode cX7_meets 116 = .ok (.istore_n 2, 1) := by decide +kernel
theorem dX7_meets_117 : decode cX7_meets 117 = .ok (.iinc 3 1, 3) := by decide +kernel
theorem dX7_meets_120 : decode cX7_meets 120 = .ok (.goto (-100), 3) := by decide +kernel
theorem dX7_meets_123 : decode cX7_meets 123 = .ok (.iconst 0, 1) := by decide +kernel
theorem dX7_meets_124 : decode cX7_meets 124 = .ok (.ireturn, 1) := by decide +kernel
theorem dX7_enterPart_0 : decode cX7_enterPart 0 = .ok (.aload_n 1, 1) := by decide +kernel
theorem dX7_enterPart_1 : decode cX7_enterPart 1 = .ok (.iload_n 3, 1) := by decide +kernel
theorem dX7_enterPart_2 : decode cX7_enterPart 2 = .ok (.putfield 114, 3) := by decide +kernel
theorem dX7_enterPart_5 : decode cX7_enterPart 5 = .ok (.aload_n 1, 1) := by decide +kernel
theorem dX7_enterPart_6 : decode cX7_enterPart 6 = .ok (.iload_n 2, 1) := by decide +kernel
theorem dX7_enterPart_7 : decode cX7_enterPart 7 = .ok (.iconst 1, 1) := by decide +kernel
theorem dX7_enterPart_8 : decode cX7_enterPart 8 = .ok (.iadd, 1) := by decide +kernel
theorem dX7_enterPart_9 : decode cX7_enterPart 9 = .ok (.putfield 82, 3) := by decide +kernel
theorem dX7_enterPart_12 : decode cX7_enterPart 12 = .ok (.aload_n 1, 1) := by decide +kernel
theorem dX7_enterPart_13 : decode cX7_enterPart 13 = .ok (.aload_n 0, 1) := by decide +kernel
theorem dX7_enterPart_14 : decode cX7_enterPart 14 = .ok (.getfield 27, 3) := by decide +kernel
theorem dX7_enterPart_17 : decode cX7_enterPart 17 = .ok (.aload_n 1, 1) := by decide +kernel
theorem dX7_enterPart_18 : decode cX7_enterPart 18 = .ok (.getfield 96, 3) := by decide +kernel
theorem dX7_enterPart_21 : decode cX7_enterPart 21 = .ok (.iload_n 2, 1) := by decide +kernel
theorem dX7_enterPart_22 : decode cX7_enterPart 22 = .ok (.invokevirtual 143, 3) := by decide +kernel
theorem dX7_enterPart_25 : decode cX7_enterPart 25 = .ok (.putfield 85, 3) := by decide +kernel
theorem dX7_enterPart_28 : decode cX7_enterPart 28 = .ok (.aload_n 0, 1) := by decide +kernel
theorem dX7_enterPart_29 : decode cX7_enterPart 29 = .ok (.getfield 44, 3) := by decide +kernel
theorem dX7_enterPart_32 : decode cX7_enterPart 32 = .ok (.iconst 0, 1) := by decide +kernel
theorem dX7_enterPart_33 : decode cX7_enterPart 33 = .ok (.iconst 0, 1) := by decide +kernel
theorem dX7_enterPart_34 : decode cX7_enterPart 34 = .ok (.iastore, 1) := by decide +kernel
theorem dX7_enterPart_35 : decode cX7_enterPart 35 = .ok (.return_, 1) := by decide +kernel
theorem dX7_entersLast_0 : decode cX7_entersLast 0 = .ok (.aload_n 0, 1) := by decide +kernel
theorem dX7_entersLast_1 : decode cX7_entersLast 1 = .ok (.getfield 27, 3) := by decide +kernel
theorem dX7_entersLast_4 : decode cX7_entersLast 4 = .ok (.aload_n 1, 1) := by decide +kernel
theorem dX7_entersLast_5 : decode cX7_entersLast 5 = .ok (.getfield 96, 3) := by decide +kernel
theorem dX7_entersLast_8 : decode cX7_entersLast 8 = .ok (.aload_n 1, 1) := by decide +kernel
theorem dX7_entersLast_9 : decode cX7_entersLast 9 = .ok (.getfield 136, 3) := by decide +kernel
theorem dX7_entersLast_12 : decode cX7_entersLast 12 = .ok (.invokevirtual 143, 3) := by decide +kernel
theorem dX7_entersLast_15 : decode cX7_entersLast 15 = .ok (.iconst 1, 1) := by decide +kernel
theorem dX7_entersLast_16 : decode cX7_entersLast 16 = .ok (.iadd, 1) := by decide +kernel
theorem dX7_entersLast_17 : decode cX7_entersLast 17 = .ok (.istore_n 2, 1) := by decide +kernel
theorem dX7_entersLast_18 : decode cX7_entersLast 18 = .ok (.iconst 0, 1) := by decide +kernel
theorem dX7_entersLast_19 : decode cX7_entersLast 19 = .ok (.istore_n 3, 1) := by decide +kernel
theorem dX7_entersLast_20 : decode cX7_entersLast 20 = .ok (.iload_n 3, 1) := by decide +kernel
theorem dX7_entersLast_21 : decode cX7_entersLast 21 = .ok (.bipush 40, 2) := by decide +kernel
theorem dX7_entersLast_23 : decode cX7_entersLast 23 = .ok (.if_icmp .ge 41, 3) := by decide +kernel
theorem dX7_entersLast_26 : decode cX7_entersLast 26 = .ok (.aload_n 0, 1) := by decide +kernel
theorem dX7_entersLast_27 : decode cX7_entersLast 27 = .ok (.getfield 27, 3) := by decide +kernel
theorem dX7_entersLast_30 : decode cX7_entersLast 30 = .ok (.aload_n 1, 1) := by decide +kernel
theorem dX7_entersLast_31 : decode cX7_entersLast 31 = .ok (.getfield 96, 3) := by decide +kernel
theorem dX7_entersLast_34 : decode cX7_entersLast 34 = .ok (.iload_n 2, 1) := by decide +kernel
theorem dX7_entersLast_35 : decode cX7_entersLast 35 = .ok (.invokevirtual 102, 3) := by decide +kernel
theorem dX7_entersLast_38 : decode cX7_entersLast 38 = .ok (.bipush 17, 2) := by decide +kernel
theorem dX7_entersLast_40 : decode cX7_entersLast 40 = .ok (.if_icmp .ne 24, 3) := by decide +kernel
theorem dX7_entersLast_43 : decode cX7_entersLast 43 = .ok (.aload_n 0, 1) := by decide +kernel
theorem dX7_entersLast_44 : decode cX7_entersLast 44 = .ok (.getfield 27, 3) := by decide +kernel
theorem dX7_entersLast_47 : decode cX7_entersLast 47 = .ok (.aload_n 1, 1) := by decide +kernel
theorem dX7_entersLast_48 : decode cX7_entersLast 48 = .ok (.getfield 96, 3) := by decide +kernel
theorem dX7_entersLast_51 : decode cX7_entersLast 51 = .ok (.iload_n 2, 1) := by decide +kernel
theorem dX7_entersLast_52 : decode cX7_entersLast 52 = .ok (.invokevirtual 143, 3) := by decide +kernel
theorem dX7_entersLast_55 : decode cX7_entersLast 55 = .ok (.iconst 1, 1) := by decide +kernel
theorem dX7_entersLast_56 : decode cX7_entersLast 56 = .ok (.iadd, 1) := by decide +kernel
theorem dX7_entersLast_57 : decode cX7_entersLast 57 = .ok (.istore_n 2, 1) := by decide +kernel
theorem dX7_entersLast_58 : decode cX7_entersLast 58 = .ok (.iinc 3 1, 3) := by decide +kernel
theorem dX7_entersLast_61 : decode cX7_entersLast 61 = .ok (.goto (-41), 3) := by decide +kernel
theorem dX7_entersLast_64 : decode cX7_entersLast 64 = .ok (.aload_n 0, 1) := by decide +kernel
theorem dX7_entersLast_65 : decode cX7_entersLast 65 = .ok (.getfield 27, 3) := by decide +kernel
theorem dX7_entersLast_68 : decode cX7_entersLast 68 = .ok (.aload_n 1, 1) := by decide +kernel
theorem dX7_entersLast_69 : decode cX7_entersLast 69 = .ok (.getfield 96, 3) := by decide +kernel
theorem dX7_entersLast_72 : decode cX7_entersLast 72 = .ok (.iload_n 2, 1) := by decide +kernel
theorem dX7_entersLast_73 : decode cX7_entersLast 73 = .ok (.invokevirtual 102, 3) := by decide +kernel
theorem dX7_entersLast_76 : decode cX7_entersLast 76 = .ok (.bipush 18, 2) := by decide +kernel
theorem dX7_entersLast_78 : decode cX7_entersLast 78 = .ok (.if_icmp .eq 5, 3) := by decide +kernel
theorem dX7_entersLast_81 : decode cX7_entersLast 81 = .ok (.iconst 0, 1) := by decide +kernel
theorem dX7_entersLast_82 : decode cX7_entersLast 82 = .ok (.ireturn, 1) := by decide +kernel
theorem dX7_entersLast_83 : decode cX7_entersLast 83 = .ok (.aload_n 0, 1) := by decide +kernel
theorem dX7_entersLast_84 : decode cX7_entersLast 84 = .ok (.dup, 1) := by decide +kernel
theorem dX7_entersLast_85 : decode cX7_entersLast 85 = .ok (.getfield 61, 3) := by decide +kernel
theorem dX7_entersLast_88 : decode cX7_entersLast 88 = .ok (.iconst 1, 1) := by decide +kernel
theorem dX7_entersLast_89 : decode cX7_entersLast 89 = .ok (.iadd, 1) := by decide +kernel
theorem dX7_entersLast_90 : decode cX7_entersLast 90 = .ok (.putfield 61, 3) := by decide +kernel
theorem dX7_entersLast_93 : decode cX7_entersLast 93 = .ok (.iconst 0, 1) := by decide +kernel
theorem dX7_entersLast_94 : decode cX7_entersLast 94 = .ok (.istore_n 3, 1) := by decide +kernel
theorem dX7_entersLast_95 : decode cX7_entersLast 95 = .ok (.iload_n 3, 1) := by decide +kernel
theorem dX7_entersLast_96 : decode cX7_entersLast 96 = .ok (.bipush 6, 2) := by decide +kernel
theorem dX7_entersLast_98 : decode cX7_entersLast 98 = .ok (.if_icmp .ge 21, 3) := by decide +kernel
theorem dX7_entersLast_101 : decode cX7_entersLast 101 = .ok (.aload_n 1, 1) := by decide +kernel
theorem dX7_entersLast_102 : decode cX7_entersLast 102 = .ok (.getfield 288, 3) := by decide +kernel
theorem dX7_entersLast_105 : decode cX7_entersLast 105 = .ok (.iload_n 3, 1) := by decide +kernel
theorem dX7_entersLast_106 : decode cX7_entersLast 106 = .ok (.aload_n 0, 1) := by decide +kernel
theorem dX7_entersLast_107 : decode cX7_entersLast 107 = .ok (.getfield 44, 3) := by decide +kernel
theorem dX7_entersLast_110 : decode cX7_entersLast 110 = .ok (.iload_n 3, 1) := by decide +kernel
theorem dX7_entersLast_111 : decode cX7_entersLast 111 = .ok (.iaload, 1) := by decide +kernel
theorem dX7_entersLast_112 : decode cX7_entersLast 112 = .ok (.iastore, 1) := by decide +kernel
theorem dX7_entersLast_113 : decode cX7_entersLast 113 = .ok (.iinc 3 1, 3) := by decide +kernel
theorem dX7_entersLast_116 : decode cX7_entersLast 116 = .ok (.goto (-21), 3) := by decide +kernel
theorem dX7_entersLast_119 : decode cX7_entersLast 119 = .ok (.aload_n 0, 1) := by decide +kernel
theorem dX7_entersLast_120 : decode cX7_entersLast 120 = .ok (.aload_n 1, 1) := by decide +kernel
theorem dX7_entersLast_121 : decode cX7_entersLast 121 = .ok (.iload_n 2, 1) := by decide +kernel
theorem dX7_entersLast_122 : decode cX7_entersLast 122 = .ok (.iconst 2, 1) := by decide +kernel
theorem dX7_entersLast_123 : decode cX7_entersLast 123 = .ok (.invokevirtual 284, 3) := by decide +kernel
theorem dX7_entersLast_126 : decode cX7_entersLast 126 = .ok (.iconst 1, 1) := by decide +kernel
theorem dX7_entersLast_127 : decode cX7_entersLast 127 = .ok (.ireturn, 1) := by decide +kernel
theorem dX7_settleLast_0 : decode cX7_settleLast 0 = .ok (.aload_n 0, 1) := by decide +kernel
theorem dX7_settleLast_1 : decode cX7_settleLast 1 = .ok (.getfield 44, 3) := by decide +kernel
theorem dX7_settleLast_4 : decode cX7_settleLast 4 = .ok (.iconst 0, 1) := by decide +kernel
theorem dX7_settleLast_5 : decode cX7_settleLast 5 = .ok (.iaload, 1) := by decide +kernel
theorem dX7_settleLast_6 : decode cX7_settleLast 6 = .ok (.ifCond .ne 32, 3) := by decide +kernel
theorem dX7_settleLast_9 : decode cX7_settleLast 9 = .ok (.iconst 0, 1) := by decide +kernel
theorem dX7_settleLast_10 : decode cX7_settleLast 10 = .ok (.istore_n 2, 1) := by decide +kernel
theorem dX7_settleLast_11 : decode cX7_settleLast 11 = .ok (.iload_n 2, 1) := by decide +kernel
theorem dX7_settleLast_12 : decode cX7_settleLast 12 = .ok (.bipush 6, 2) := by decide +kernel
theorem dX7_settleLast_14 : decode cX7_settleLast 14 = .ok (.if_icmp .ge 21, 3) := by decide +kernel
theorem dX7_settleLast_17 : decode cX7_settleLast 17 = .ok (.aload_n 0, 1) := by decide +kernel
theorem dX7_settleLast_18 : decode cX7_settleLast 18 = .ok (.getfield 44, 3) := by decide +kernel
theorem dX7_settleLast_21 : decode cX7_settleLast 21 = .ok (.iload_n 2, 1) := by decide +kernel
theorem dX7_settleLast_22 : decode cX7_settleLast 22 = .ok (.aload_n 1, 1) := by decide +kernel
theorem dX7_settleLast_23 : decode cX7_settleLast 23 = .ok (.getfield 288, 3) := by decide +kernel
theorem dX7_settleLast_26 : decode cX7_settleLast 26 = .ok (.iload_n 2, 1) := by decide +kernel
theorem dX7_settleLast_27 : decode cX7_settleLast 27 = .ok (.iaload, 1) := by decide +kernel
theorem dX7_settleLast_28 : decode cX7_settleLast 28 = .ok (.iastore, 1) := by decide +kernel
theorem dX7_settleLast_29 : decode cX7_settleLast 29 = .ok (.iinc 2 1, 3) := by decide +kernel
theorem dX7_settleLast_32 : decode cX7_settleLast 32 = .ok (.goto (-21), 3) := by decide +kernel
theorem dX7_settleLast_35 : decode cX7_settleLast 35 = .ok (.goto 35, 3) := by decide +kernel
theorem dX7_settleLast_38 : decode cX7_settleLast 38 = .ok (.aload_n 0, 1) := by decide +kernel
theorem dX7_settleLast_39 : decode cX7_settleLast 39 = .ok (.getfield 44, 3) := by decide +kernel
theorem dX7_settleLast_42 : decode cX7_settleLast 42 = .ok (.iconst 0, 1) := by decide +kernel
theorem dX7_settleLast_43 : decode cX7_settleLast 43 = .ok (.iaload, 1) := by decide +kernel
theorem dX7_settleLast_44 : decode cX7_settleLast 44 = .ok (.iconst 1, 1) := by decide +kernel
theorem dX7_settleLast_45 : decode cX7_settleLast 45 = .ok (.if_icmp .ne 25, 3) := by decide +kernel
theorem dX7_settleLast_48 : decode cX7_settleLast 48 = .ok (.aload_n 1, 1) := by decide +kernel
theorem dX7_settleLast_49 : decode cX7_settleLast 49 = .ok (.getfield 288, 3) := by decide +kernel
theorem dX7_settleLast_52 : decode cX7_settleLast 52 = .ok (.iconst 0, 1) := by decide +kernel
theorem dX7_settleLast_53 : decode cX7_settleLast 53 = .ok (.iaload, 1) := by decide +kernel
theorem dX7_settleLast_54 : decode cX7_settleLast 54 = .ok (.iconst 1, 1) := by decide +kernel
theorem dX7_settleLast_55 : decode cX7_settleLast 55 = .ok (.if_icmp .ne 15, 3) := by decide +kernel
theorem dX7_settleLast_58 : decode cX7_settleLast 58 = .ok (.aload_n 0, 1) := by decide +kernel
theorem dX7_settleLast_59 : decode cX7_settleLast 59 = .ok (.getfield 44, 3) := by decide +kernel
theorem dX7_settleLast_62 : decode cX7_settleLast 62 = .ok (.iconst 4, 1) := by decide +kernel
theorem dX7_settleLast_63 : decode cX7_settleLast 63 = .ok (.aload_n 1, 1) := by decide +kernel
theorem dX7_settleLast_64 : decode cX7_settleLast 64 = .ok (.getfield 288, 3) := by decide +kernel
theorem dX7_settleLast_67 : decode cX7_settleLast 67 = .ok (.iconst 1, 1) := by decide +kernel
theorem dX7_settleLast_68 : decode cX7_settleLast 68 = .ok (.iaload, 1) := by decide +kernel
theorem dX7_settleLast_69 : decode cX7_settleLast 69 = .ok (.iastore, 1) := by decide +kernel
theorem dX7_settleLast_70 : decode cX7_settleLast 70 = .ok (.return_, 1) := by decide +kernel
theorem dX8_init_0 : decode cX8_init 0 = .ok (.aload_n 0, 1) := by decide +kernel
theorem dX8_init_1 : decode cX8_init 1 = .ok (.invokespecial 1, 3) := by decide +kernel
theorem dX8_init_4 : decode cX8_init 4 = .ok (.aload_n 0, 1) := by decide +kernel
theorem dX8_init_5 : decode cX8_init 5 = .ok (.bipush 6, 2) := by decide +kernel
theorem dX8_init_7 : decode cX8_init 7 = .ok (.newarray .long, 2) := by decide +kernel
theorem dX8_init_9 : decode cX8_init 9 = .ok (.putfield 9, 3) := by decide +kernel
theorem dX8_init_12 : decode cX8_init 12 = .ok (.aload_n 0, 1) := by decide +kernel
theorem dX8_init_13 : decode cX8_init 13 = .ok (.iconst 3, 1) := by decide +kernel
theorem dX8_init_14 : decode cX8_init 14 = .ok (.newarray .int, 2) := by decide +kernel
theorem dX8_init_16 : decode cX8_init 16 = .ok (.putfield 13, 3) := by decide +kernel
theorem dX8_init_19 : decode cX8_init 19 = .ok (.aload_n 0, 1) := by decide +kernel
theorem dX8_init_20 : decode cX8_init 20 = .ok (.iconst 3, 1) := by decide +kernel
theorem dX8_init_21 : decode cX8_init 21 = .ok (.newarray .int, 2) := by decide +kernel
theorem dX8_init_23 : decode cX8_init 23 = .ok (.putfield 17, 3) := by decide +kernel
theorem dX8_init_26 : decode cX8_init 26 = .ok (.aload_n 0, 1) := by decide +kernel
theorem dX8_init_27 : decode cX8_init 27 = .ok (.sipush 640, 3) := by decide +kernel
theorem dX8_init_30 : decode cX8_init 30 = .ok (.anewarray 20, 3) := by decide +kernel
theorem dX8_init_33 : decode cX8_init 33 = .ok (.putfield 22, 3) := by decide +kernel
theorem dX8_init_36 : decode cX8_init 36 = .ok (.aload_n 0, 1) := by decide +kernel
theorem dX8_init_37 : decode cX8_init 37 = .ok (.sipush 640, 3) := by decide +kernel
theorem dX8_init_40 : decode cX8_init 40 = .ok (.newarray .int, 2) := by decide +kernel
theorem dX8_init_42 : decode cX8_init 42 = .ok (.putfield 26, 3) := by decide +kernel
theorem dX8_init_45 : decode cX8_init 45 = .ok (.aload_n 0, 1) := by decide +kernel
theorem dX8_init_46 : decode cX8_init 46 = .ok (.sipush 640, 3) := by decide +kernel
theorem dX8_init_49 : decode cX8_init 49 = .ok (.newarray .long, 2) := by decide +kernel
theorem dX8_init_51 : decode cX8_init 51 = .ok (.putfield 29, 3) := by decide +kernel
theorem dX8_init_54 : decode cX8_init 54 = .ok (.return_, 1) := by decide +kernel
theorem dX8_forgetChanges_0 : decode cX8_forgetChanges 0 = .ok (.aload_n 0, 1) := by decide +kernel
theorem dX8_forgetChanges_1 : decode cX8_forgetChanges 1 = .ok (.iconst 0, 1) := by decide +kernel
theorem dX8_forgetChanges_2 : decode cX8_forgetChanges 2 = .ok (.putfield 32, 3) := by decide +kernel
theorem dX8_forgetChanges_5 : decode cX8_forgetChanges 5 = .ok (.return_, 1) := by decide +kernel
theorem dX8_changesSoFar_0 : decode cX8_changesSoFar 0 = .ok (.aload_n 0, 1) := by decide +kernel
theorem dX8_changesSoFar_1 : decode cX8_changesSoFar 1 = .ok (.getfield 32, 3) := by decide +kernel
theorem dX8_changesSoFar_4 : decode cX8_changesSoFar 4 = .ok (.ireturn, 1) := by decide +kernel
theorem dX8_changeStock_0 : decode cX8_changeStock 0 = .ok (.iload_n 1, 1) := by decide +kernel
theorem dX8_changeStock_1 : decode cX8_changeStock 1 = .ok (.ifCond .lt 9, 3) := by decide +kernel
theorem dX8_changeStock_4 : decode cX8_changeStock 4 = .ok (.iload_n 1, 1) := by decide +kernel
theorem dX8_changeStock_5 : decode cX8_changeStock 5 = .ok (.bipush 6, 2) := by decide +kernel
theorem dX8_changeStock_7 : decode cX8_changeStock 7 = .ok (.if_icmp .lt 4, 3) := by decide +kernel
theorem dX8_changeStock_10 : decode cX8_changeStock 10 = .ok (.return_, 1) := by decide +kernel
theorem dX8_changeStock_11 : decode cX8_changeStock 11 = .ok (.aload_n 0, 1) := by decide +kernel
theorem dX8_changeStock_12 : decode cX8_changeStock 12 = .ok (.aconst_null, 1) := by decide +kernel
theorem dX8_changeStock_13 : decode cX8_changeStock 13 = .ok (.iload_n 1, 1) := by decide +kernel
theorem dX8_changeStock_14 : decode cX8_changeStock 14 = .ok (.aload_n 0, 1) := by decide +kernel
theorem dX8_changeStock_15 : decode cX8_changeStock 15 = .ok (.getfield 9, 3) := by decide +kernel
theorem dX8_changeStock_18 : decode cX8_changeStock 18 = .ok (.iload_n 1, 1) := by decide +kernel
theorem dX8_changeStock_19 : decode cX8_changeStock 19 = .ok (.laload, 1) := by decide +kernel
theorem dX8_changeStock_20 : decode cX8_changeStock 20 = .ok (.invokevirtual 36, 3) := by decide +kernel
theorem dX8_changeStock_23 : decode cX8_changeStock 23 = .ok (.aload_n 0, 1) := by decide +kernel
theorem dX8_changeStock_24 : decode cX8_changeStock 24 = .ok (.getfield 9, 3) := by decide +kernel
theorem dX8_changeStock_27 : decode cX8_changeStock 27 = .ok (.iload_n 1, 1) := by decide +kernel
theorem dX8_changeStock_28 : decode cX8_changeStock 28 = .ok (.lload_n 2, 1) := by decide +kernel
theorem dX8_changeStock_29 : decode cX8_changeStock 29 = .ok (.lastore, 1) := by decide +kernel
theorem dX8_changeStock_30 : decode cX8_changeStock 30 = .ok (.return_, 1) := by decide +kernel
theorem dX8_changeCell_0 : decode cX8_changeCell 0 = .ok (.aload_n 1, 1) := by decide +kernel
theorem dX8_changeCell_1 : decode cX8_changeCell 1 = .ok (.ifnull 16, 3) := by decide +kernel
theorem dX8_changeCell_4 : decode cX8_changeCell 4 = .ok (.iload_n 2, 1) := by decide +kernel
theorem dX8_changeCell_5 : decode cX8_changeCell 5 = .ok (.ifCond .lt 12, 3) := by decide +kernel
theorem dX8_changeCell_8 : decode cX8_changeCell 8 = .ok (.iload_n 2, 1) := by decide +kernel
theorem dX8_changeCell_9 : decode cX8_changeCell 9 = .ok (.aload_n 1, 1) := by decide +kernel
theorem dX8_changeCell_10 : decode cX8_changeCell 10 = .ok (.getfield 40, 3) := by decide +kernel
theorem dX8_changeCell_13 : decode cX8_changeCell 13 = .ok (.arraylength, 1) := by decide +kernel
theorem dX8_changeCell_14 : decode cX8_changeCell 14 = .ok (.if_icmp .lt 4, 3) := by decide +kernel
theorem dX8_changeCell_17 : decode cX8_changeCell 17 = .ok (.return_, 1) := by decide +kernel
theorem dX8_changeCell_18 : decode cX8_changeCell 18 = .ok (.aload_n 0, 1) := by decide +kernel
theorem dX8_changeCell_19 : decode cX8_changeCell 19 = .ok (.aload_n 1, 1) := by decide +kernel
theorem dX8_changeCell_20 : decode cX8_changeCell 20 = .ok (.iload_n 2, 1) := by decide +kernel
theorem dX8_changeCell_21 : decode cX8_changeCell 21 = .ok (.aload_n 1, 1) := by decide +kernel
theorem dX8_changeCell_22 : decode cX8_changeCell 22 = .ok (.getfield 40, 3) := by decide +kernel
theorem dX8_changeCell_25 : decode cX8_changeCell 25 = .ok (.iload_n 2, 1) := by decide +kernel
theorem dX8_changeCell_26 : decode cX8_changeCell 26 = .ok (.laload, 1) := by decide +kernel
theorem dX8_changeCell_27 : decode cX8_changeCell 27 = .ok (.invokevirtual 36, 3) := by decide +kernel
theorem dX8_changeCell_30 : decode cX8_changeCell 30 = .ok (.aload_n 1, 1) := by decide +kernel
theorem dX8_changeCell_31 : decode cX8_changeCell 31 = .ok (.getfield 40, 3) := by decide +kernel
theorem dX8_changeCell_34 : decode cX8_changeCell 34 = .ok (.iload_n 2, 1) := by decide +kernel
theorem dX8_changeCell_35 : decode cX8_changeCell 35 = .ok (.lload_n 3, 1) := by decide +kernel
theorem dX8_changeCell_36 : decode cX8_changeCell 36 = .ok (.lastore, 1) := by decide +kernel
theorem dX8_changeCell_37 : decode cX8_changeCell 37 = .ok (.return_, 1) := by decide +kernel
theorem dX8_noteChange_0 : decode cX8_noteChange 0 = .ok (.aload_n 0, 1) := by decide +kernel
theorem dX8_noteChange_1 : decode cX8_noteChange 1 = .ok (.getfield 32, 3) := by decide +kernel
theorem dX8_noteChange_4 : decode cX8_noteChange 4 = .ok (.sipush 640, 3) := by decide +kernel
theorem dX8_noteChange_7 : decode cX8_noteChange 7 = .ok (.if_icmp .ge 43, 3) := by decide +kernel
theorem dX8_noteChange_10 : decode cX8_noteChange 10 = .ok (.aload_n 0, 1) := by decide +kernel
theorem dX8_noteChange_11 : decode cX8_noteChange 11 = .ok (.getfield 22, 3) := by decide +kernel
theorem dX8_noteChange_14 : decode cX8_noteChange 14 = .ok (.aload_n 0, 1) := by decide +kernel
theorem dX8_noteChange_15 : decode cX8_noteChange 15 = .ok (.getfield 32, 3) := by decide +kernel
theorem dX8_noteChange_18 : decode cX8_noteChange 18 = .ok (.aload_n 1, 1) := by decide +kernel
theorem dX8_noteChange_19 : decode cX8_noteChange 19 = .ok (.aastore, 1) := by decide +kernel
theorem dX8_noteChange_20 : decode cX8_noteChange 20 = .ok (.aload_n 0, 1) := by decide +kernel
theorem dX8_noteChange_21 : decode cX8_noteChange 21 = .ok (.getfield 26, 3) := by decide +kernel
theorem dX8_noteChange_24 : decode cX8_noteChange 24 = .ok (.aload_n 0, 1) := by decide +kernel
theorem dX8_noteChange_25 : decode cX8_noteChange 25 = .ok (.getfield 32, 3) := by decide +kernel
theorem dX8_noteChange_28 : decode cX8_noteChange 28 = .ok (.iload_n 2, 1) := by decide +kernel
theorem dX8_noteChange_29 : decode cX8_noteChange 29 = .ok (.iastore, 1) := by decide +kernel
theorem dX8_noteChange_30 : decode cX8_noteChange 30 = .ok (.aload_n 0, 1) := by decide +kernel
theorem dX8_noteChange_31 : decode cX8_noteChange 31 = .ok (.getfield 29, 3) := by decide +kernel
theorem dX8_noteChange_34 : decode cX8_noteChange 34 = .ok (.aload_n 0, 1) := by decide +kernel
theorem dX8_noteChange_35 : decode cX8_noteChange 35 = .ok (.getfield 32, 3) := by decide +kernel
theorem dX8_noteChange_38 : decode cX8_noteChange 38 = .ok (.lload_n 3, 1) := by decide +kernel
theorem dX8_noteChange_39 : decode cX8_noteChange 39 = .ok (.lastore, 1) := by decide +kernel
theorem dX8_noteChange_40 : decode cX8_noteChange 40 = .ok (.aload_n 0, 1) := by decide +kernel
theorem dX8_noteChange_41 : decode cX8_noteChange 41 = .ok (.dup, 1) := by decide +kernel
theorem dX8_noteChange_42 : decode cX8_noteChange 42 = .ok (.getfield 32, 3) := by decide +kernel
theorem dX8_noteChange_45 : decode cX8_noteChange 45 = .ok (.iconst 1, 1) := by decide +kernel
theorem dX8_noteChange_46 : decode cX8_noteChange 46 = .ok (.iadd, 1) := by decide +kernel
theorem dX8_noteChange_47 : decode cX8_noteChange 47 = .ok (.putfield 32, 3) := by decide +kernel
theorem dX8_noteChange_50 : decode cX8_noteChange 50 = .ok (.return_, 1) := by decide +kernel
theorem dX8_undoTo_0 : decode cX8_undoTo 0 = .ok (.aload_n 0, 1) := by decide +kernel
theorem dX8_undoTo_1 : decode cX8_undoTo 1 = .ok (.getfield 32, 3) := by decide +kernel
theorem dX8_undoTo_4 : decode cX8_undoTo 4 = .ok (.iconst 1, 1) := by decide +kernel
theorem dX8_undoTo_5 : decode cX8_undoTo 5 = .ok (.isub, 1) := by decide +kernel
theorem dX8_undoTo_6 : decode cX8_undoTo 6 = .ok (.istore_n 2, 1) := by decide +kernel
theorem dX8_undoTo_7 : decode cX8_undoTo 7 = .ok (.iload_n 2, 1) := by decide +kernel
theorem dX8_undoTo_8 : decode cX8_undoTo 8 = .ok (.iload_n 1, 1) := by decide +kernel
theorem dX8_undoTo_9 : decode cX8_undoTo 9 = .ok (.if_icmp .lt 78, 3) := by decide +kernel
theorem dX8_undoTo_12 : decode cX8_undoTo 12 = .ok (.iload_n 2, 1) := by decide +kernel
theorem dX8_undoTo_13 : decode cX8_undoTo 13 = .ok (.ifCond .lt 74, 3) := by decide +kernel
theorem dX8_undoTo_16 : decode cX8_undoTo 16 = .ok (.aload_n 0, 1) := by decide +kernel
theorem dX8_undoTo_17 : decode cX8_undoTo 17 = .ok (.getfield 22, 3) := by decide +kernel
theorem dX8_undoTo_20 : decode cX8_undoTo 20 = .ok (.iload_n 2, 1) := by decide +kernel
theorem dX8_undoTo_21 : decode cX8_undoTo 21 = .ok (.aaload, 1) := by decide +kernel
theorem dX8_undoTo_22 : decode cX8_undoTo 22 = .ok (.astore_n 3, 1) := by decide +kernel
theorem dX8_undoTo_23 : decode cX8_undoTo 23 = .ok (.aload_n 0, 1) := by decide +kernel
theorem dX8_undoTo_24 : decode cX8_undoTo 24 = .ok (.getfield 26, 3) := by decide +kernel
theorem dX8_undoTo_27 : decode cX8_undoTo 27 = .ok (.iload_n 2, 1) := by decide +kernel
theorem dX8_undoTo_28 : decode cX8_undoTo 28 = .ok (.iaload, 1) := by decide +kernel
theorem dX8_undoTo_29 : decode cX8_undoTo 29 = .ok (.istore 4, 2) := by decide +kernel
theorem dX8_undoTo_31 : decode cX8_undoTo 31 = .ok (.aload_n 3, 1) := by decide +kernel
theorem dX8_undoTo_32 : decode cX8_undoTo 32 = .ok (.ifnonnull 26, 3) := by decide +kernel
theorem dX8_undoTo_35 : decode cX8_undoTo 35 = .ok (.iload 4, 2) := by decide +kernel
theorem dX8_undoTo_37 : decode cX8_undoTo 37 = .ok (.bipush 6, 2) := by decide +kernel
theorem dX8_undoTo_39 : decode cX8_undoTo 39 = .ok (.if_icmp .ge 42, 3) := by decide +kernel
theorem dX8_undoTo_42 : decode cX8_undoTo 42 = .ok (.aload_n 0, 1) := by decide +kernel
theorem dX8_undoTo_43 : decode cX8_undoTo 43 = .ok (.getfield 9, 3) := by decide +kernel
theorem dX8_undoTo_46 : decode cX8_undoTo 46 = .ok (.iload 4, 2) := by decide +kernel
theorem dX8_undoTo_48 : decode cX8_undoTo 48 = .ok (.aload_n 0, 1) := by decide +kernel
theorem dX8_undoTo_49 : decode cX8_undoTo 49 = .ok (.getfield 29, 3) := by decide +kernel
theorem dX8_undoTo_52 : decode cX8_undoTo 52 = .ok (.iload_n 2, 1) := by decide +kernel
theorem dX8_undoTo_53 : decode cX8_undoTo 53 = .ok (.laload, 1) := by decide +kernel
theorem dX8_undoTo_54 : decode cX8_undoTo 54 = .ok (.lastore, 1) := by decide +kernel
theorem dX8_undoTo_55 : decode cX8_undoTo 55 = .ok (.goto 26, 3) := by decide +kernel
theorem dX8_undoTo_58 : decode cX8_undoTo 58 = .ok (.iload 4, 2) := by decide +kernel
theorem dX8_undoTo_60 : decode cX8_undoTo 60 = .ok (.aload_n 3, 1) := by decide +kernel
theorem dX8_undoTo_61 : decode cX8_undoTo 61 = .ok (.getfield 40, 3) := by decide +kernel
theorem dX8_undoTo_64 : decode cX8_undoTo 64 = .ok (.arraylength, 1) := by decide +kernel
theorem dX8_undoTo_65 : decode cX8_undoTo 65 = .ok (.if_icmp .ge 16, 3) := by decide +kernel
theorem dX8_undoTo_68 : decode cX8_undoTo 68 = .ok (.aload_n 3, 1) := by decide +kernel
theorem dX8_undoTo_69 : decode cX8_undoTo 69 = .ok (.getfield 40, 3) := by decide +kernel
theorem dX8_undoTo_72 : decode cX8_undoTo 72 = .ok (.iload 4, 2) := by decide +kernel
theorem dX8_undoTo_74 : decode cX8_undoTo 74 = .ok (.aload_n 0, 1) := by decide +kernel
theorem dX8_undoTo_75 : decode cX8_undoTo 75 = .ok (.getfield 29, 3) := by decide +kernel
theorem dX8_undoTo_78 : decode cX8_undoTo 78 = .ok (.iload_n 2, 1) := by decide +kernel
theorem dX8_undoTo_79 : decode cX8_undoTo 79 = .ok (.laload, 1) := by decide +kernel
theorem dX8_undoTo_80 : decode cX8_undoTo 80 = .ok (.lastore, 1) := by decide +kernel
theorem dX8_undoTo_81 : decode cX8_undoTo 81 = .ok (.iinc 2 (-1), 3) := by decide +kernel
theorem dX8_undoTo_84 : decode cX8_undoTo 84 = .ok (.goto (-77), 3) := by decide +kernel
theorem dX8_undoTo_87 : decode cX8_undoTo 87 = .ok (.aload_n 0, 1) := by decide +kernel
theorem dX8_undoTo_88 : decode cX8_undoTo 88 = .ok (.iconst 0, 1) := by decide +kernel
theorem dX8_undoTo_89 : decode cX8_undoTo 89 = .ok (.aload_n 0, 1) := by decide +kernel
theorem dX8_undoTo_90 : decode cX8_undoTo 90 = .ok (.getfield 32, 3) := by decide +kernel
theorem dX8_undoTo_93 : decode cX8_undoTo 93 = .ok (.iload_n 1, 1) := by decide +kernel
theorem dX8_undoTo_94 : decode cX8_undoTo 94 = .ok (.invokestatic 43, 3) := by decide +kernel
theorem dX8_undoTo_97 : decode cX8_undoTo 97 = .ok (.invokestatic 49, 3) := by decide +kernel
theorem dX8_undoTo_100 : decode cX8_undoTo 100 = .ok (.putfield 32, 3) := by decide +kernel
theorem dX8_undoTo_103 : decode cX8_undoTo 103 = .ok (.return_, 1) := by decide +kernel
theorem dX8_heldInAll_0 : decode cX8_heldInAll 0 = .ok (.iconst 0, 1) := by decide +kernel
theorem dX8_heldInAll_1 : decode cX8_heldInAll 1 = .ok (.istore_n 1, 1) := by decide +kernel
theorem dX8_heldInAll_2 : decode cX8_heldInAll 2 = .ok (.iconst 0, 1) := by decide +kernel
theorem dX8_heldInAll_3 : decode cX8_heldInAll 3 = .ok (.istore_n 2, 1) := by decide +kernel
theorem dX8_heldInAll_4 : decode cX8_heldInAll 4 = .ok (.iload_n 2, 1) := by decide +kernel
theorem dX8_heldInAll_5 : decode cX8_heldInAll 5 = .ok (.iconst 3, 1) := by decide +kernel
theorem dX8_heldInAll_6 : decode cX8_heldInAll 6 = .ok (.if_icmp .ge 18, 3) := by decide +kernel
theorem dX8_heldInAll_9 : decode cX8_heldInAll 9 = .ok (.iload_n 1, 1) := by decide +kernel
theorem dX8_heldInAll_10 : decode cX8_heldInAll 10 = .ok (.aload_n 0, 1) := by decide +kernel
theorem dX8_heldInAll_11 : decode cX8_heldInAll 11 = .ok (.getfield 17, 3) := by decide +kernel
theorem dX8_heldInAll_14 : decode cX8_heldInAll 14 = .ok (.iload_n 2, 1) := by decide +kernel
theorem dX8_heldInAll_15 : decode cX8_heldInAll 15 = .ok (.iaload, 1) := by decide +kernel
theorem dX8_heldInAll_16 : decode cX8_heldInAll 16 = .ok (.iadd, 1) := by decide +kernel
theorem dX8_heldInAll_17 : decode cX8_heldInAll 17 = .ok (.istore_n 1, 1) := by decide +kernel
theorem dX8_heldInAll_18 : decode cX8_heldInAll 18 = .ok (.iinc 2 1, 3) := by decide +kernel
theorem dX8_heldInAll_21 : decode cX8_heldInAll 21 = .ok (.goto (-17), 3) := by decide +kernel
theorem dX8_heldInAll_24 : decode cX8_heldInAll 24 = .ok (.iload_n 1, 1) := by decide +kernel
theorem dX8_heldInAll_25 : decode cX8_heldInAll 25 = .ok (.ireturn, 1) := by decide +kernel
theorem dX9_init_0 : decode cX9_init 0 = .ok (.aload_n 0, 1) := by decide +kernel
theorem dX9_init_1 : decode cX9_init 1 = .ok (.invokespecial 3, 3) := by decide +kernel
theorem dX9_init_4 : decode cX9_init 4 = .ok (.aload_n 0, 1) := by decide +kernel
theorem dX9_init_5 : decode cX9_init 5 = .ok (.iconst 3, 1) := by decide +kernel
theorem dX9_init_6 : decode cX9_init 6 = .ok (.bipush 8, 2) := by decide +kernel
theorem dX9_init_8 : decode cX9_init 8 = .ok (.multianewarray 11 2, 4) := by decide +kernel
theorem dX9_init_12 : decode cX9_init 12 = .ok (.putfield 13, 3) := by decide +kernel
theorem dX9_init_15 : decode cX9_init 15 = .ok (.aload_n 0, 1) := by decide +kernel
theorem dX9_init_16 : decode cX9_init 16 = .ok (.iconst 3, 1) := by decide +kernel
theorem dX9_init_17 : decode cX9_init 17 = .ok (.bipush 8, 2) := by decide +kernel
theorem dX9_init_19 : decode cX9_init 19 = .ok (.multianewarray 11 2, 4) := by decide +kernel
theorem dX9_init_23 : decode cX9_init 23 = .ok (.putfield 16, 3) := by decide +kernel
theorem dX9_init_26 : decode cX9_init 26 = .ok (.aload_n 0, 1) := by decide +kernel
theorem dX9_init_27 : decode cX9_init 27 = .ok (.iconst 3, 1) := by decide +kernel
theorem dX9_init_28 : decode cX9_init 28 = .ok (.newarray .int, 2) := by decide +kernel
theorem dX9_init_30 : decode cX9_init 30 = .ok (.putfield 19, 3) := by decide +kernel
theorem dX9_init_33 : decode cX9_init 33 = .ok (.aload_n 0, 1) := by decide +kernel
theorem dX9_init_34 : decode cX9_init 34 = .ok (.iconst 3, 1) := by decide +kernel
theorem dX9_init_35 : decode cX9_init 35 = .ok (.newarray .int, 2) := by decide +kernel
theorem dX9_init_37 : decode cX9_init 37 = .ok (.putfield 23, 3) := by decide +kernel
theorem dX9_init_40 : decode cX9_init 40 = .ok (.aload_n 0, 1) := by decide +kernel
theorem dX9_init_41 : decode cX9_init 41 = .ok (.iconst 3, 1) := by decide +kernel
theorem dX9_init_42 : decode cX9_init 42 = .ok (.newarray .int, 2) := by decide +kernel
theorem dX9_init_44 : decode cX9_init 44 = .ok (.putfield 26, 3) := by decide +kernel
theorem dX9_init_47 : decode cX9_init 47 = .ok (.aload_n 0, 1) := by decide +kernel
theorem dX9_init_48 : decode cX9_init 48 = .ok (.iconst 3, 1) := by decide +kernel
theorem dX9_init_49 : decode cX9_init 49 = .ok (.newarray .boolean, 2) := by decide +kernel
theorem dX9_init_51 : decode cX9_init 51 = .ok (.putfield 29, 3) := by decide +kernel
theorem dX9_init_54 : decode cX9_init 54 = .ok (.aload_n 0, 1) := by decide +kernel
theorem dX9_init_55 : decode cX9_init 55 = .ok (.iconst 3, 1) := by decide +kernel
theorem dX9_init_56 : decode cX9_init 56 = .ok (.newarray .boolean, 2) := by decide +kernel
theorem dX9_init_58 : decode cX9_init 58 = .ok (.putfield 33, 3) := by decide +kernel
theorem dX9_init_61 : decode cX9_init 61 = .ok (.aload_n 0, 1) := by decide +kernel
theorem dX9_init_62 : decode cX9_init 62 = .ok (.iconst 3, 1) := by decide +kernel
theorem dX9_init_63 : decode cX9_init 63 = .ok (.newarray .int, 2) := by decide +kernel
theorem dX9_init_65 : decode cX9_init 65 = .ok (.putfield 36, 3) := by decide +kernel
theorem dX9_init_68 : decode cX9_init 68 = .ok (.return_, 1) := by decide +kernel
theorem dX9_lineAdded_0 : decode cX9_lineAdded 0 = .ok (.aload_n 0, 1) := by decide +kernel
theorem dX9_lineAdded_1 : decode cX9_lineAdded 1 = .ok (.getfield 19, 3) := by decide +kernel
theorem dX9_lineAdded_4 : decode cX9_lineAdded 4 = .ok (.iload_n 1, 1) := by decide +kernel
theorem dX9_lineAdded_5 : decode cX9_lineAdded 5 = .ok (.iaload, 1) := by decide +kernel
theorem dX9_lineAdded_6 : decode cX9_lineAdded 6 = .ok (.istore 4, 2) := by decide +kernel
theorem dX9_lineAdded_8 : decode cX9_lineAdded 8 = .ok (.iload_n 2, 1) := by decide +kernel
theorem dX9_lineAdded_9 : decode cX9_lineAdded 9 = .ok (.ldc 39, 2) := by decide +kernel
theorem dX9_lineAdded_11 : decode cX9_lineAdded 11 = .ok (.if_icmp .lt 41, 3) := by decide +kernel
theorem dX9_lineAdded_14 : decode cX9_lineAdded 14 = .ok (.iload_n 2, 1) := by decide +kernel
theorem dX9_lineAdded_15 : decode cX9_lineAdded 15 = .ok (.ldc 40, 2) := by decide +kernel
theorem dX9_lineAdded_17 : decode cX9_lineAdded 17 = .ok (.if_icmp .gt 35, 3) := by decide +kernel
theorem dX9_lineAdded_20 : decode cX9_lineAdded 20 = .ok (.iload_n 3, 1) := by decide +kernel
theorem dX9_lineAdded_21 : decode cX9_lineAdded 21 = .ok (.ldc 39, 2) := by decide +kernel
theorem dX9_lineAdded_23 : decode cX9_lineAdded 23 = .ok (.if_icmp .lt 29, 3) := by decide +kernel
theorem dX9_lineAdded_26 : decode cX9_lineAdded 26 = .ok (.iload_n 3, 1) := by decide +kernel
theorem dX9_lineAdded_27 : decode cX9_lineAdded 27 = .ok (.ldc 40, 2) := by decide +kernel
theorem dX9_lineAdded_29 : decode cX9_lineAdded 29 = .ok (.if_icmp .gt 23, 3) := by decide +kernel
theorem dX9_lineAdded_32 : decode cX9_lineAdded 32 = .ok (.iload 4, 2) := by decide +kernel
theorem dX9_lineAdded_34 : decode cX9_lineAdded 34 = .ok (.ifCond .le 21, 3) := by decide +kernel
theorem dX9_lineAdded_37 : decode cX9_lineAdded 37 = .ok (.iload_n 2, 1) := by decide +kernel
theorem dX9_lineAdded_38 : decode cX9_lineAdded 38 = .ok (.aload_n 0, 1) := by decide +kernel
theorem dX9_lineAdded_39 : decode cX9_lineAdded 39 = .ok (.getfield 13, 3) := by decide +kernel
theorem dX9_lineAdded_42 : decode cX9_lineAdded 42 = .ok (.iload_n 1, 1) := by decide +kernel
theorem dX9_lineAdded_43 : decode cX9_lineAdded 43 = .ok (.aaload, 1) := by decide +kernel
theorem dX9_lineAdded_44 : decode cX9_lineAdded 44 = .ok (.iload 4, 2) := by decide +kernel
theorem dX9_lineAdded_46 : decode cX9_lineAdded 46 = .ok (.iconst 1, 1) := by decide +kernel
theorem dX9_lineAdded_47 : decode cX9_lineAdded 47 = .ok (.isub, 1) := by decide +kernel
theorem dX9_lineAdded_48 : decode cX9_lineAdded 48 = .ok (.iaload, 1) := by decide +kernel
theorem dX9_lineAdded_49 : decode cX9_lineAdded 49 = .ok (.if_icmp .gt 6, 3) := by decide +kernel
theorem dX9_lineAdded_52 : decode cX9_lineAdded 52 = .ok (.bipush (-2), 2) := by decide +kernel
theorem dX9_lineAdded_54 : decode cX9_lineAdded 54 = .ok (.ireturn, 1) := by decide +kernel
theorem dX9_lineAdded_55 : decode cX9_lineAdded 55 = .ok (.iload 4, 2) := by decide +kernel
theorem dX9_lineAdded_57 : decode cX9_lineAdded 57 = .ok (.bipush 8, 2) := by decide +kernel
theorem dX9_lineAdded_59 : decode cX9_lineAdded 59 = .ok (.if_icmp .lt 6, 3) := by decide +kernel
theorem dX9_lineAdded_62 : decode cX9_lineAdded 62 = .ok (.bipush (-4), 2) := by decide +kernel
theorem dX9_lineAdded_64 : decode cX9_lineAdded 64 = .ok (.ireturn, 1) := by decide +kernel
theorem dX9_lineAdded_65 : decode cX9_lineAdded 65 = .ok (.aload_n 0, 1) := by decide +kernel
theorem dX9_lineAdded_66 : decode cX9_lineAdded 66 = .ok (.getfield 13, 3) := by decide +kernel
theorem dX9_lineAdded_69 : decode cX9_lineAdded 69 = .ok (.iload_n 1, 1) := by decide +kernel
theorem dX9_lineAdded_70 : decode cX9_lineAdded 70 = .ok (.aaload, 1) := by decide +kernel
theorem dX9_lineAdded_71 : decode cX9_lineAdded 71 = .ok (.iload 4, 2) := by decide +kernel
theorem dX9_lineAdded_73 : decode cX9_lineAdded 73 = .ok (.iload_n 2, 1) := by decide +kernel
theorem dX9_lineAdded_74 : decode cX9_lineAdded 74 = .ok (.iastore, 1) := by decide +kernel
theorem dX9_lineAdded_75 : decode cX9_lineAdded 75 = .ok (.aload_n 0, 1) := by decide +kernel
theorem dX9_lineAdded_76 : decode cX9_lineAdded 76 = .ok (.getfield 16, 3) := by decide +kernel
theorem dX9_lineAdded_79 : decode cX9_lineAdded 79 = .ok (.iload_n 1, 1) := by decide +kernel
theorem dX9_lineAdded_80 : decode cX9_lineAdded 80 = .ok (.aaload, 1) := by decide +kernel
theorem dX9_lineAdded_81 : decode cX9_lineAdded 81 = .ok (.iload 4, 2) := by decide +kernel
theorem dX9_lineAdded_83 : decode cX9_lineAdded 83 = .ok (.iload_n 3, 1) := by decide +kernel
theorem dX9_lineAdded_84 : decode cX9_lineAdded 84 = .ok (.iastore, 1) := by decide +kernel
theorem dX9_lineAdded_85 : decode cX9_lineAdded 85 = .ok (.aload_n 0, 1) := by decide +kernel
theorem dX9_lineAdded_86 : decode cX9_lineAdded 86 = .ok (.getfield 19, 3) := by decide +kernel
theorem dX9_lineAdded_89 : decode cX9_lineAdded 89 = .ok (.iload_n 1, 1) := by decide +kernel
theorem dX9_lineAdded_90 : decode cX9_lineAdded 90 = .ok (.iload 4, 2) := by decide +kernel
theorem dX9_lineAdded_92 : decode cX9_lineAdded 92 = .ok (.iconst 1, 1) := by decide +kernel
theorem dX9_lineAdded_93 : decode cX9_lineAdded 93 = .ok (.iadd, 1) := by decide +kernel
theorem dX9_lineAdded_94 : decode cX9_lineAdded 94 = .ok (.iastore, 1) := by decide +kernel
theorem dX9_lineAdded_95 : decode cX9_lineAdded 95 = .ok (.iload 4, 2) := by decide +kernel
theorem dX9_lineAdded_97 : decode cX9_lineAdded 97 = .ok (.iconst 1, 1) := by decide +kernel
theorem dX9_lineAdded_98 : decode cX9_lineAdded 98 = .ok (.iadd, 1) := by decide +kernel
theorem dX9_lineAdded_99 : decode cX9_lineAdded 99 = .ok (.ireturn, 1) := by decide +kernel
theorem dX9_rested_0 : decode cX9_rested 0 = .ok (.aload_n 0, 1) := by decide +kernel
theorem dX9_rested_1 : decode cX9_rested 1 = .ok (.getfield 33, 3) := by decide +kernel
theorem dX9_rested_4 : decode cX9_rested 4 = .ok (.iload_n 1, 1) := by decide +kernel
theorem dX9_rested_5 : decode cX9_rested 5 = .ok (.baload, 1) := by decide +kernel
theorem dX9_rested_6 : decode cX9_rested 6 = .ok (.ifCond .eq 6, 3) := by decide +kernel
theorem dX9_rested_9 : decode cX9_rested 9 = .ok (.bipush (-3), 2) := by decide +kernel
theorem dX9_rested_11 : decode cX9_rested 11 = .ok (.ireturn, 1) := by decide +kernel
theorem dX9_rested_12 : decode cX9_rested 12 = .ok (.aload_n 0, 1) := by decide +kernel
theorem dX9_rested_13 : decode cX9_rested 13 = .ok (.getfield 23, 3) := by decide +kernel
theorem dX9_rested_16 : decode cX9_rested 16 = .ok (.iload_n 1, 1) := by decide +kernel
theorem dX9_rested_17 : decode cX9_rested 17 = .ok (.iload_n 2, 1) := by decide +kernel
theorem dX9_rested_18 : decode cX9_rested 18 = .ok (.iconst 1, 1) := by decide +kernel
theorem dX9_rested_19 : decode cX9_rested 19 = .ok (.iadd, 1) := by decide +kernel
theorem dX9_rested_20 : decode cX9_rested 20 = .ok (.iastore, 1) := by decide +kernel
theorem dX9_rested_21 : decode cX9_rested 21 = .ok (.iconst 1, 1) := by decide +kernel
theorem dX9_rested_22 : decode cX9_rested 22 = .ok (.ireturn, 1) := by decide +kernel
theorem dX9_hasLines_0 : decode cX9_hasLines 0 = .ok (.aload_n 0, 1) := by decide +kernel
theorem dX9_hasLines_1 : decode cX9_hasLines 1 = .ok (.getfield 19, 3) := by decide +kernel
theorem dX9_hasLines_4 : decode cX9_hasLines 4 = .ok (.iload_n 1, 1) := by decide +kernel
theorem dX9_hasLines_5 : decode cX9_hasLines 5 = .ok (.iaload, 1) := by decide +kernel
theorem dX9_hasLines_6 : decode cX9_hasLines 6 = .ok (.ifCond .le 7, 3) := by decide +kernel
theorem dX9_hasLines_9 : decode cX9_hasLines 9 = .ok (.iconst 1, 1) := by decide +kernel
theorem dX9_hasLines_10 : decode cX9_hasLines 10 = .ok (.goto 4, 3) := by decide +kernel
theorem dX9_hasLines_13 : decode cX9_hasLines 13 = .ok (.iconst 0, 1) := by decide +kernel
theorem dX9_hasLines_14 : decode cX9_hasLines 14 = .ok (.ireturn, 1) := by decide +kernel
theorem dX9_laidAt_0 : decode cX9_laidAt 0 = .ok (.iload_n 1, 1) := by decide +kernel
theorem dX9_laidAt_1 : decode cX9_laidAt 1 = .ok (.ifCond .lt 25, 3) := by decide +kernel
theorem dX9_laidAt_4 : decode cX9_laidAt 4 = .ok (.iload_n 1, 1) := by decide +kernel
theorem dX9_laidAt_5 : decode cX9_laidAt 5 = .ok (.aload_n 0, 1) := by decide +kernel
theorem dX9_laidAt_6 : decode cX9_laidAt 6 = .ok (.getfield 41, 3) := by decide +kernel
theorem dX9_laidAt_9 : decode cX9_laidAt 9 = .ok (.if_icmp .ge 17, 3) := by decide +kernel
theorem dX9_laidAt_12 : decode cX9_laidAt 12 = .ok (.iload_n 1, 1) := by decide +kernel
theorem dX9_laidAt_13 : decode cX9_laidAt 13 = .ok (.iconst 3, 1) := by decide +kernel
theorem dX9_laidAt_14 : decode cX9_laidAt 14 = .ok (.if_icmp .ge 12, 3) := by decide +kernel
theorem dX9_laidAt_17 : decode cX9_laidAt 17 = .ok (.aload_n 0, 1) := by decide +kernel
theorem dX9_laidAt_18 : decode cX9_laidAt 18 = .ok (.getfield 36, 3) := by decide +kernel
theorem dX9_laidAt_21 : decode cX9_laidAt 21 = .ok (.iload_n 1, 1) := by decide +kernel
theorem dX9_laidAt_22 : decode cX9_laidAt 22 = .ok (.iaload, 1) := by decide +kernel
theorem dX9_laidAt_23 : decode cX9_laidAt 23 = .ok (.goto 4, 3) := by decide +kernel
theorem dX9_laidAt_26 : decode cX9_laidAt 26 = .ok (.iconst (-1), 1) := by decide +kernel
theorem dX9_laidAt_27 : decode cX9_laidAt 27 = .ok (.ireturn, 1) := by decide +kernel
theorem dX9_valueAt_0 : decode cX9_valueAt 0 = .ok (.aload_n 0, 1) := by decide +kernel
theorem dX9_valueAt_1 : decode cX9_valueAt 1 = .ok (.getfield 29, 3) := by decide +kernel
theorem dX9_valueAt_4 : decode cX9_valueAt 4 = .ok (.iload_n 1, 1) := by decide +kernel
theorem dX9_valueAt_5 : decode cX9_valueAt 5 = .ok (.baload, 1) := by decide +kernel
theorem dX9_valueAt_6 : decode cX9_valueAt 6 = .ok (.ifCond .ne 9, 3) := by decide +kernel
theorem dX9_valueAt_9 : decode cX9_valueAt 9 = .ok (.aload_n 0, 1) := by decide +kernel
theorem dX9_valueAt_10 : decode cX9_valueAt 10 = .ok (.iload_n 1, 1) := by decide +kernel
theorem dX9_valueAt_11 : decode cX9_valueAt 11 = .ok (.iconst 0, 1) := by decide +kernel
theorem dX9_valueAt_12 : decode cX9_valueAt 12 = .ok (.invokevirtual 45, 3) := by decide +kernel
theorem dX9_valueAt_15 : decode cX9_valueAt 15 = .ok (.aload_n 0, 1) := by decide +kernel
theorem dX9_valueAt_16 : decode cX9_valueAt 16 = .ok (.getfield 26, 3) := by decide +kernel
theorem dX9_valueAt_19 : decode cX9_valueAt 19 = .ok (.iload_n 1, 1) := by decide +kernel
theorem dX9_valueAt_20 : decode cX9_valueAt 20 = .ok (.iaload, 1) := by decide +kernel
theorem dX9_valueAt_21 : decode cX9_valueAt 21 = .ok (.aload_n 0, 1) := by decide +kernel
theorem dX9_valueAt_22 : decode cX9_valueAt 22 = .ok (.iload_n 1, 1) := by decide +kernel
theorem dX9_valueAt_23 : decode cX9_valueAt 23 = .ok (.iload_n 2, 1) := by decide +kernel
theorem dX9_valueAt_24 : decode cX9_valueAt 24 = .ok (.invokevirtual 49, 3) := by decide +kernel
theorem dX9_valueAt_27 : decode cX9_valueAt 27 = .ok (.iadd, 1) := by decide +kernel
theorem dX9_valueAt_28 : decode cX9_valueAt 28 = .ok (.ireturn, 1) := by decide +kernel
theorem dX9_layDown_0 : decode cX9_layDown 0 = .ok (.aload_n 0, 1) := by decide +kernel
theorem dX9_layDown_1 : decode cX9_layDown 1 = .ok (.getfield 29, 3) := by decide +kernel
theorem dX9_layDown_4 : decode cX9_layDown 4 = .ok (.iload_n 1, 1) := by decide +kernel
theorem dX9_layDown_5 : decode cX9_layDown 5 = .ok (.iconst 1, 1) := by decide +kernel
theorem dX9_layDown_6 : decode cX9_layDown 6 = .ok (.bastore, 1) := by decide +kernel
theorem dX9_layDown_7 : decode cX9_layDown 7 = .ok (.aload_n 0, 1) := by decide +kernel
theorem dX9_layDown_8 : decode cX9_layDown 8 = .ok (.getfield 23, 3) := by decide +kernel
theorem dX9_layDown_11 : decode cX9_layDown 11 = .ok (.iload_n 1, 1) := by decide +kernel
theorem dX9_layDown_12 : decode cX9_layDown 12 = .ok (.iaload, 1) := by decide +kernel
theorem dX9_layDown_13 : decode cX9_layDown 13 = .ok (.iconst 1, 1) := by decide +kernel
theorem dX9_layDown_14 : decode cX9_layDown 14 = .ok (.isub, 1) := by decide +kernel
theorem dX9_layDown_15 : decode cX9_layDown 15 = .ok (.istore_n 3, 1) := by decide +kernel
theorem dX9_layDown_16 : decode cX9_layDown 16 = .ok (.iload_n 3, 1) := by decide +kernel
theorem dX9_layDown_17 : decode cX9_layDown 17 = .ok (.ifCond .lt 57, 3) := by decide +kernel
theorem dX9_layDown_20 : decode cX9_layDown 20 = .ok (.iload_n 3, 1) := by decide +kernel
theorem dX9_layDown_21 : decode cX9_layDown 21 = .ok (.iconst 3, 1) := by decide +kernel
theorem dX9_layDown_22 : decode cX9_layDown 22 = .ok (.if_icmp .ge 52, 3) := by decide +kernel
theorem dX9_layDown_25 : decode cX9_layDown 25 = .ok (.aload_n 0, 1) := by decide +kernel
theorem dX9_layDown_26 : decode cX9_layDown 26 = .ok (.getfield 29, 3) := by decide +kernel
theorem dX9_layDown_29 : decode cX9_layDown 29 = .ok (.iload_n 3, 1) := by decide +kernel
theorem dX9_layDown_30 : decode cX9_layDown 30 = .ok (.baload, 1) := by decide +kernel
theorem dX9_layDown_31 : decode cX9_layDown 31 = .ok (.ifCond .ne 16, 3) := by decide +kernel
theorem dX9_layDown_34 : decode cX9_layDown 34 = .ok (.iload_n 2, 1) := by decide +kernel
theorem dX9_layDown_35 : decode cX9_layDown 35 = .ok (.iconst 3, 1) := by decide +kernel
theorem dX9_layDown_36 : decode cX9_layDown 36 = .ok (.if_icmp .ge 11, 3) := by decide +kernel
theorem dX9_layDown_39 : decode cX9_layDown 39 = .ok (.aload_n 0, 1) := by decide +kernel
theorem dX9_layDown_40 : decode cX9_layDown 40 = .ok (.iload_n 3, 1) := by decide +kernel
theorem dX9_layDown_41 : decode cX9_layDown 41 = .ok (.iload_n 2, 1) := by decide +kernel
theorem dX9_layDown_42 : decode cX9_layDown 42 = .ok (.iconst 1, 1) := by decide +kernel
theorem dX9_layDown_43 : decode cX9_layDown 43 = .ok (.iadd, 1) := by decide +kernel
theorem dX9_layDown_44 : decode cX9_layDown 44 = .ok (.invokevirtual 45, 3) := by decide +kernel
theorem dX9_layDown_47 : decode cX9_layDown 47 = .ok (.aload_n 0, 1) := by decide +kernel
theorem dX9_layDown_48 : decode cX9_layDown 48 = .ok (.getfield 26, 3) := by decide +kernel
theorem dX9_layDown_51 : decode cX9_layDown 51 = .ok (.iload_n 1, 1) := by decide +kernel
theorem dX9_layDown_52 : decode cX9_layDown 52 = .ok (.iconst 1, 1) := by decide +kernel
theorem dX9_layDown_53 : decode cX9_layDown 53 = .ok (.aload_n 0, 1) := by decide +kernel
theorem dX9_layDown_54 : decode cX9_layDown 54 = .ok (.getfield 33, 3) := by decide +kernel
theorem dX9_layDown_57 : decode cX9_layDown 57 = .ok (.iload_n 3, 1) := by decide +kernel
theorem dX9_layDown_58 : decode cX9_layDown 58 = .ok (.baload, 1) := by decide +kernel
theorem dX9_layDown_59 : decode cX9_layDown 59 = .ok (.ifCond .eq 12, 3) := by decide +kernel
theorem dX9_layDown_62 : decode cX9_layDown 62 = .ok (.aload_n 0, 1) := by decide +kernel
theorem dX9_layDown_63 : decode cX9_layDown 63 = .ok (.getfield 26, 3) := by decide +kernel
theorem dX9_layDown_66 : decode cX9_layDown 66 = .ok (.iload_n 3, 1) := by decide +kernel
theorem dX9_layDown_67 : decode cX9_layDown 67 = .ok (.iaload, 1) := by decide +kernel
theorem dX9_layDown_68 : decode cX9_layDown 68 = .ok (.goto 4, 3) := by decide +kernel
theorem dX9_layDown_71 : decode cX9_layDown 71 = .ok (.iconst 0, 1) := by decide +kernel
theorem dX9_layDown_72 : decode cX9_layDown 72 = .ok (.iadd, 1) := by decide +kernel
theorem dX9_layDown_73 : decode cX9_layDown 73 = .ok (.iastore, 1) := by decide +kernel
theorem dX9_layDown_74 : decode cX9_layDown 74 = .ok (.aload_n 0, 1) := by decide +kernel
theorem dX9_layDown_75 : decode cX9_layDown 75 = .ok (.getfield 33, 3) := by decide +kernel
theorem dX9_layDown_78 : decode cX9_layDown 78 = .ok (.iload_n 1, 1) := by decide +kernel
theorem dX9_layDown_79 : decode cX9_layDown 79 = .ok (.iconst 1, 1) := by decide +kernel
theorem dX9_layDown_80 : decode cX9_layDown 80 = .ok (.bastore, 1) := by decide +kernel
theorem dX9_layDown_81 : decode cX9_layDown 81 = .ok (.aload_n 0, 1) := by decide +kernel
theorem dX9_layDown_82 : decode cX9_layDown 82 = .ok (.getfield 41, 3) := by decide +kernel
theorem dX9_layDown_85 : decode cX9_layDown 85 = .ok (.iconst 3, 1) := by decide +kernel
theorem dX9_layDown_86 : decode cX9_layDown 86 = .ok (.if_icmp .ge 23, 3) := by decide +kernel
theorem dX9_layDown_89 : decode cX9_layDown 89 = .ok (.aload_n 0, 1) := by decide +kernel
theorem dX9_layDown_90 : decode cX9_layDown 90 = .ok (.getfield 36, 3) := by decide +kernel
theorem dX9_layDown_93 : decode cX9_layDown 93 = .ok (.aload_n 0, 1) := by decide +kernel
theorem dX9_layDown_94 : decode cX9_layDown 94 = .ok (.getfield 41, 3) := by decide +kernel
theorem dX9_layDown_97 : decode cX9_layDown 97 = .ok (.iload_n 1, 1) := by decide +kernel
theorem dX9_layDown_98 : decode cX9_layDown 98 = .ok (.iastore, 1) := by decide +kernel
theorem dX9_layDown_99 : decode cX9_layDown 99 = .ok (.aload_n 0, 1) := by decide +kernel
theorem dX9_layDown_100 : decode cX9_layDown 100 = .ok (.dup, 1) := by decide +kernel
theorem dX9_layDown_101 : decode cX9_layDown 101 = .ok (.getfield 41, 3) := by decide +kernel
theorem dX9_layDown_104 : decode cX9_layDown 104 = .ok (.iconst 1, 1) := by decide +kernel
theorem dX9_layDown_105 : decode cX9_layDown 105 = .ok (.iadd, 1) := by decide +kernel
theorem dX9_layDown_106 : decode cX9_layDown 106 = .ok (.putfield 41, 3) := by decide +kernel
theorem dX9_layDown_109 : decode cX9_layDown 109 = .ok (.return_, 1) := by decide +kernel
theorem dX9_lineAt_0 : decode cX9_lineAt 0 = .ok (.aload_n 0, 1) := by decide +kernel
theorem dX9_lineAt_1 : decode cX9_lineAt 1 = .ok (.getfield 19, 3) := by decide +kernel
theorem dX9_lineAt_4 : decode cX9_lineAt 4 = .ok (.iload_n 1, 1) := by decide +kernel
theorem dX9_lineAt_5 : decode cX9_lineAt 5 = .ok (.iaload, 1) := by decide +kernel
theorem dX9_lineAt_6 : decode cX9_lineAt 6 = .ok (.istore_n 3, 1) := by decide +kernel
theorem dX9_lineAt_7 : decode cX9_lineAt 7 = .ok (.iload_n 3, 1) := by decide +kernel
theorem dX9_lineAt_8 : decode cX9_lineAt 8 = .ok (.ifCond .ne 5, 3) := by decide +kernel
theorem dX9_lineAt_11 : decode cX9_lineAt 11 = .ok (.iconst 0, 1) := by decide +kernel
theorem dX9_lineAt_12 : decode cX9_lineAt 12 = .ok (.ireturn, 1) := by decide +kernel
theorem dX9_lineAt_13 : decode cX9_lineAt 13 = .ok (.iload_n 2, 1) := by decide +kernel
theorem dX9_lineAt_14 : decode cX9_lineAt 14 = .ok (.aload_n 0, 1) := by decide +kernel
theorem dX9_lineAt_15 : decode cX9_lineAt 15 = .ok (.getfield 13, 3) := by decide +kernel
theorem dX9_lineAt_18 : decode cX9_lineAt 18 = .ok (.iload_n 1, 1) := by decide +kernel
theorem dX9_lineAt_19 : decode cX9_lineAt 19 = .ok (.aaload, 1) := by decide +kernel
theorem dX9_lineAt_20 : decode cX9_lineAt 20 = .ok (.iload_n 3, 1) := by decide +kernel
theorem dX9_lineAt_21 : decode cX9_lineAt 21 = .ok (.iconst 1, 1) := by decide +kernel
theorem dX9_lineAt_22 : decode cX9_lineAt 22 = .ok (.isub, 1) := by decide +kernel
theorem dX9_lineAt_23 : decode cX9_lineAt 23 = .ok (.iaload, 1) := by decide +kernel
theorem dX9_lineAt_24 : decode cX9_lineAt 24 = .ok (.if_icmp .lt 14, 3) := by decide +kernel
theorem dX9_lineAt_27 : decode cX9_lineAt 27 = .ok (.aload_n 0, 1) := by decide +kernel
theorem dX9_lineAt_28 : decode cX9_lineAt 28 = .ok (.getfield 16, 3) := by decide +kernel
theorem dX9_lineAt_31 : decode cX9_lineAt 31 = .ok (.iload_n 1, 1) := by decide +kernel
theorem dX9_lineAt_32 : decode cX9_lineAt 32 = .ok (.aaload, 1) := by decide +kernel
theorem dX9_lineAt_33 : decode cX9_lineAt 33 = .ok (.iload_n 3, 1) := by decide +kernel
theorem dX9_lineAt_34 : decode cX9_lineAt 34 = .ok (.iconst 1, 1) := by decide +kernel
theorem dX9_lineAt_35 : decode cX9_lineAt 35 = .ok (.isub, 1) := by decide +kernel
theorem dX9_lineAt_36 : decode cX9_lineAt 36 = .ok (.iaload, 1) := by decide +kernel
theorem dX9_lineAt_37 : decode cX9_lineAt 37 = .ok (.ireturn, 1) := by decide +kernel
theorem dX9_lineAt_38 : decode cX9_lineAt 38 = .ok (.iconst 0, 1) := by decide +kernel
theorem dX9_lineAt_39 : decode cX9_lineAt 39 = .ok (.istore 4, 2) := by decide +kernel
theorem dX9_lineAt_41 : decode cX9_lineAt 41 = .ok (.iload 4, 2) := by decide +kernel
theorem dX9_lineAt_43 : decode cX9_lineAt 43 = .ok (.iload_n 3, 1) := by decide +kernel
theorem dX9_lineAt_44 : decode cX9_lineAt 44 = .ok (.iconst 1, 1) := by decide +kernel
theorem dX9_lineAt_45 : decode cX9_lineAt 45 = .ok (.isub, 1) := by decide +kernel
theorem dX9_lineAt_46 : decode cX9_lineAt 46 = .ok (.if_icmp .ge 22, 3) := by decide +kernel
theorem dX9_lineAt_49 : decode cX9_lineAt 49 = .ok (.aload_n 0, 1) := by decide +kernel
theorem dX9_lineAt_50 : decode cX9_lineAt 50 = .ok (.getfield 13, 3) := by decide +kernel
theorem dX9_lineAt_53 : decode cX9_lineAt 53 = .ok (.iload_n 1, 1) := by decide +kernel
theorem dX9_lineAt_54 : decode cX9_lineAt 54 = .ok (.aaload, 1) := by decide +kernel
theorem dX9_lineAt_55 : decode cX9_lineAt 55 = .ok (.iload 4, 2) := by decide +kernel
theorem dX9_lineAt_57 : decode cX9_lineAt 57 = .ok (.iaload, 1) := by decide +kernel
theorem dX9_lineAt_58 : decode cX9_lineAt 58 = .ok (.iload_n 2, 1) := by decide +kernel
theorem dX9_lineAt_59 : decode cX9_lineAt 59 = .ok (.if_icmp .gt 9, 3) := by decide +kernel
theorem dX9_lineAt_62 : decode cX9_lineAt 62 = .ok (.iinc 4 1, 3) := by decide +kernel
theorem dX9_lineAt_65 : decode cX9_lineAt 65 = .ok (.goto (-24), 3) := by decide +kernel
theorem dX9_lineAt_68 : decode cX9_lineAt 68 = .ok (.iload 4, 2) := by decide +kernel
theorem dX9_lineAt_70 : decode cX9_lineAt 70 = .ok (.ifCond .ne 12, 3) := by decide +kernel
theorem dX9_lineAt_73 : decode cX9_lineAt 73 = .ok (.aload_n 0, 1) := by decide +kernel
theorem dX9_lineAt_74 : decode cX9_lineAt 74 = .ok (.getfield 16, 3) := by decide +kernel
theorem dX9_lineAt_77 : decode cX9_lineAt 77 = .ok (.iload_n 1, 1) := by decide +kernel
theorem dX9_lineAt_78 : decode cX9_lineAt 78 = .ok (.aaload, 1) := by decide +kernel
theorem dX9_lineAt_79 : decode cX9_lineAt 79 = .ok (.iconst 0, 1) := by decide +kernel
theorem dX9_lineAt_80 : decode cX9_lineAt 80 = .ok (.iaload, 1) := by decide +kernel
theorem dX9_lineAt_81 : decode cX9_lineAt 81 = .ok (.ireturn, 1) := by decide +kernel
theorem dX9_lineAt_82 : decode cX9_lineAt 82 = .ok (.iload 4, 2) := by decide +kernel
theorem dX9_lineAt_84 : decode cX9_lineAt 84 = .ok (.iconst 1, 1) := by decide +kernel
theorem dX9_lineAt_85 : decode cX9_lineAt 85 = .ok (.isub, 1) := by decide +kernel
theorem dX9_lineAt_86 : decode cX9_lineAt 86 = .ok (.istore 5, 2) := by decide +kernel
theorem dX9_lineAt_88 : decode cX9_lineAt 88 = .ok (.aload_n 0, 1) := by decide +kernel
theorem dX9_lineAt_89 : decode cX9_lineAt 89 = .ok (.getfield 16, 3) := by decide +kernel
theorem dX9_lineAt_92 : decode cX9_lineAt 92 = .ok (.iload_n 1, 1) := by decide +kernel
theorem dX9_lineAt_93 : decode cX9_lineAt 93 = .ok (.aaload, 1) := by decide +kernel
theorem dX9_lineAt_94 : decode cX9_lineAt 94 = .ok (.iload 4, 2) := by decide +kernel
theorem dX9_lineAt_96 : decode cX9_lineAt 96 = .ok (.iaload, 1) := by decide +kernel
theorem dX9_lineAt_97 : decode cX9_lineAt 97 = .ok (.i2l, 1) := by decide +kernel
theorem dX9_lineAt_98 : decode cX9_lineAt 98 = .ok (.aload_n 0, 1) := by decide +kernel
theorem dX9_lineAt_99 : decode cX9_lineAt 99 = .ok (.getfield 16, 3) := by decide +kernel
theorem dX9_lineAt_102 : decode cX9_lineAt 102 = .ok (.iload_n 1, 1) := by decide +kernel
theorem dX9_lineAt_103 : decode cX9_lineAt 103 = .ok (.aaload, 1) := by decide +kernel
theorem dX9_lineAt_104 : decode cX9_lineAt 104 = .ok (.iload 5, 2) := by decide +kernel
theorem dX9_lineAt_106 : decode cX9_lineAt 106 = .ok (.iaload, 1) := by decide +kernel
theorem dX9_lineAt_107 : decode cX9_lineAt 107 = .ok (.i2l, 1) := by decide +kernel
theorem dX9_lineAt_108 : decode cX9_lineAt 108 = .ok (.lsub, 1) := by decide +kernel
theorem dX9_lineAt_109 : decode cX9_lineAt 109 = .ok (.lstore 6, 2) := by decide +kernel
theorem dX9_lineAt_111 : decode cX9_lineAt 111 = .ok (.aload_n 0, 1) := by decide +kernel
theorem dX9_lineAt_112 : decode cX9_lineAt 112 = .ok (.getfield 13, 3) := by decide +kernel
theorem dX9_lineAt_115 : decode cX9_lineAt 115 = .ok (.iload_n 1, 1) := by decide +kernel
theorem dX9_lineAt_116 : decode cX9_lineAt 116 = .ok (.aaload, 1) := by decide +kernel
theorem dX9_lineAt_117 : decode cX9_lineAt 117 = .ok (.iload 4, 2) := by decide +kernel
theorem dX9_lineAt_119 : decode cX9_lineAt 119 = .ok (.iaload, 1) := by decide +kernel
theorem dX9_lineAt_120 : decode cX9_lineAt 120 = .ok (.i2l, 1) := by decide +kernel
theorem dX9_lineAt_121 : decode cX9_lineAt 121 = .ok (.aload_n 0, 1) := by decide +kernel
theorem dX9_lineAt_122 : decode cX9_lineAt 122 = .ok (.getfield 13, 3) := by decide +kernel
theorem dX9_lineAt_125 : decode cX9_lineAt 125 = .ok (.iload_n 1, 1) := by decide +kernel
theorem dX9_lineAt_126 : decode cX9_lineAt 126 = .ok (.aaload, 1) := by decide +kernel
theorem dX9_lineAt_127 : decode cX9_lineAt 127 = .ok (.iload 5, 2) := by decide +kernel
theorem dX9_lineAt_129 : decode cX9_lineAt 129 = .ok (.iaload, 1) := by decide +kernel
theorem dX9_lineAt_130 : decode cX9_lineAt 130 = .ok (.i2l, 1) := by decide +kernel
theorem dX9_lineAt_131 : decode cX9_lineAt 131 = .ok (.lsub, 1) := by decide +kernel
theorem dX9_lineAt_132 : decode cX9_lineAt 132 = .ok (.lstore 8, 2) := by decide +kernel
theorem dX9_lineAt_134 : decode cX9_lineAt 134 = .ok (.lload 8, 2) := by decide +kernel
theorem dX9_lineAt_136 : decode cX9_lineAt 136 = .ok (.lconst 0, 1) := by decide +kernel
theorem dX9_lineAt_137 : decode cX9_lineAt 137 = .ok (.lcmp, 1) := by decide +kernel
theorem dX9_lineAt_138 : decode cX9_lineAt 138 = .ok (.ifCond .gt 13, 3) := by decide +kernel
theorem dX9_lineAt_141 : decode cX9_lineAt 141 = .ok (.aload_n 0, 1) := by decide +kernel
theorem dX9_lineAt_142 : decode cX9_lineAt 142 = .ok (.getfield 16, 3) := by decide +kernel
theorem dX9_lineAt_145 : decode cX9_lineAt 145 = .ok (.iload_n 1, 1) := by decide +kernel
theorem dX9_lineAt_146 : decode cX9_lineAt 146 = .ok (.aaload, 1) := by decide +kernel
theorem dX9_lineAt_147 : decode cX9_lineAt 147 = .ok (.iload 5, 2) := by decide +kernel
theorem dX9_lineAt_149 : decode cX9_lineAt 149 = .ok (.iaload, 1) := by decide +kernel
theorem dX9_lineAt_150 : decode cX9_lineAt 150 = .ok (.ireturn, 1) := by decide +kernel
theorem dX9_lineAt_151 : decode cX9_lineAt 151 = .ok (.aload_n 0, 1) := by decide +kernel
theorem dX9_lineAt_152 : decode cX9_lineAt 152 = .ok (.getfield 16, 3) := by decide +kernel
theorem dX9_lineAt_155 : decode cX9_lineAt 155 = .ok (.iload_n 1, 1) := by decide +kernel
theorem dX9_lineAt_156 : decode cX9_lineAt 156 = .ok (.aaload, 1) := by decide +kernel
theorem dX9_lineAt_157 : decode cX9_lineAt 157 = .ok (.iload 5, 2) := by decide +kernel
theorem dX9_lineAt_159 : decode cX9_lineAt 159 = .ok (.iaload, 1) := by decide +kernel
theorem dX9_lineAt_160 : decode cX9_lineAt 160 = .ok (.i2l, 1) := by decide +kernel
theorem dX9_lineAt_161 : decode cX9_lineAt 161 = .ok (.lload 6, 2) := by decide +kernel
theorem dX9_lineAt_163 : decode cX9_lineAt 163 = .ok (.iload_n 2, 1) := by decide +kernel
theorem dX9_lineAt_164 : decode cX9_lineAt 164 = .ok (.i2l, 1) := by decide +kernel
theorem dX9_lineAt_165 : decode cX9_lineAt 165 = .ok (.aload_n 0, 1) := by decide +kernel
theorem dX9_lineAt_166 : decode cX9_lineAt 166 = .ok (.getfield 13, 3) := by decide +kernel
theorem dX9_lineAt_169 : decode cX9_lineAt 169 = .ok (.iload_n 1, 1) := by decide +kernel
theorem dX9_lineAt_170 : decode cX9_lineAt 170 = .ok (.aaload, 1) := by decide +kernel
theorem dX9_lineAt_171 : decode cX9_lineAt 171 = .ok (.iload 5, 2) := by decide +kernel
theorem dX9_lineAt_173 : decode cX9_lineAt 173 = .ok (.iaload, 1) := by decide +kernel
theorem dX9_lineAt_174 : decode cX9_lineAt 174 = .ok (.i2l, 1) := by decide +kernel
theorem dX9_lineAt_175 : decode cX9_lineAt 175 = .ok (.lsub, 1) := by decide +kernel
theorem dX9_lineAt_176 : decode cX9_lineAt 176 = .ok (.lmul, 1) := by decide +kernel
theorem dX9_lineAt_177 : decode cX9_lineAt 177 = .ok (.lload 8, 2) := by decide +kernel
theorem dX9_lineAt_179 : decode cX9_lineAt 179 = .ok (.invokestatic 53, 3) := by decide +kernel
theorem dX9_lineAt_182 : decode cX9_lineAt 182 = .ok (.ladd, 1) := by decide +kernel
theorem dX9_lineAt_183 : decode cX9_lineAt 183 = .ok (.l2i, 1) := by decide +kernel
theorem dX9_lineAt_184 : decode cX9_lineAt 184 = .ok (.ireturn, 1) := by decide +kernel
theorem dX10_init_0 : decode cX10_init 0 = .ok (.aload_n 0, 1) := by decide +kernel
theorem dX10_init_1 : decode cX10_init 1 = .ok (.invokespecial 3, 3) := by decide +kernel
theorem dX10_init_4 : decode cX10_init 4 = .ok (.aload_n 0, 1) := by decide +kernel
theorem dX10_init_5 : decode cX10_init 5 = .ok (.iload_n 1, 1) := by decide +kernel
theorem dX10_init_6 : decode cX10_init 6 = .ok (.putfield 9, 3) := by decide +kernel
theorem dX10_init_9 : decode cX10_init 9 = .ok (.aload_n 0, 1) := by decide +kernel
theorem dX10_init_10 : decode cX10_init 10 = .ok (.aload_n 2, 1) := by decide +kernel
theorem dX10_init_11 : decode cX10_init 11 = .ok (.putfield 15, 3) := by decide +kernel
theorem dX10_init_14 : decode cX10_init 14 = .ok (.aload_n 0, 1) := by decide +kernel
theorem dX10_init_15 : decode cX10_init 15 = .ok (.aload_n 3, 1) := by decide +kernel
theorem dX10_init_16 : decode cX10_init 16 = .ok (.putfield 19, 3) := by decide +kernel
theorem dX10_init_19 : decode cX10_init 19 = .ok (.return_, 1) := by decide +kernel
theorem dX10_length_0 : decode cX10_length 0 = .ok (.aload_n 0, 1) := by decide +kernel
theorem dX10_length_1 : decode cX10_length 1 = .ok (.getfield 9, 3) := by decide +kernel
theorem dX10_length_4 : decode cX10_length 4 = .ok (.bipush 7, 2) := by decide +kernel
theorem dX10_length_6 : decode cX10_length 6 = .ok (.if_icmp .gt 11, 3) := by decide +kernel
theorem dX10_length_9 : decode cX10_length 9 = .ok (.aload_n 0, 1) := by decide +kernel
theorem dX10_length_10 : decode cX10_length 10 = .ok (.getfield 15, 3) := by decide +kernel
theorem dX10_length_13 : decode cX10_length 13 = .ok (.arraylength, 1) := by decide +kernel
theorem dX10_length_14 : decode cX10_length 14 = .ok (.goto 8, 3) := by decide +kernel
theorem dX10_length_17 : decode cX10_length 17 = .ok (.aload_n 0, 1) := by decide +kernel
theorem dX10_length_18 : decode cX10_length 18 = .ok (.getfield 19, 3) := by decide +kernel
theorem dX10_length_21 : decode cX10_length 21 = .ok (.arraylength, 1) := by decide +kernel
theorem dX10_length_22 : decode cX10_length 22 = .ok (.ireturn, 1) := by decide +kernel
theorem dX10_emptyPlaces_0 : decode cX10_emptyPlaces 0 = .ok (.iconst 0, 1) := by decide +kernel
theorem dX10_emptyPlaces_1 : decode cX10_emptyPlaces 1 = .ok (.istore_n 1, 1) := by decide +kernel
theorem dX10_emptyPlaces_2 : decode cX10_emptyPlaces 2 = .ok (.iconst 0, 1) := by decide +kernel
theorem dX10_emptyPlaces_3 : decode cX10_emptyPlaces 3 = .ok (.istore_n 2, 1) := by decide +kernel
theorem dX10_emptyPlaces_4 : decode cX10_emptyPlaces 4 = .ok (.iload_n 2, 1) := by decide +kernel
theorem dX10_emptyPlaces_5 : decode cX10_emptyPlaces 5 = .ok (.aload_n 0, 1) := by decide +kernel
theorem dX10_emptyPlaces_6 : decode cX10_emptyPlaces 6 = .ok (.getfield 19, 3) := by decide +kernel
theorem dX10_emptyPlaces_9 : decode cX10_emptyPlaces 9 = .ok (.arraylength, 1) := by decide +kernel
theorem dX10_emptyPlaces_10 : decode cX10_emptyPlaces 10 = .ok (.if_icmp .ge 21, 3) := by decide +kernel
theorem dX10_emptyPlaces_13 : decode cX10_emptyPlaces 13 = .ok (.aload_n 0, 1) := by decide +kernel
theorem dX10_emptyPlaces_14 : decode cX10_emptyPlaces 14 = .ok (.getfield 19, 3) := by decide +kernel
theorem dX10_emptyPlaces_17 : decode cX10_emptyPlaces 17 = .ok (.iload_n 2, 1) := by decide +kernel
theorem dX10_emptyPlaces_18 : decode cX10_emptyPlaces 18 = .ok (.aaload, 1) := by decide +kernel
theorem dX10_emptyPlaces_19 : decode cX10_emptyPlaces 19 = .ok (.ifnonnull 6, 3) := by decide +kernel
theorem dX10_emptyPlaces_22 : decode cX10_emptyPlaces 22 = .ok (.iinc 1 1, 3) := by decide +kernel
theorem dX10_emptyPlaces_25 : decode cX10_emptyPlaces 25 = .ok (.iinc 2 1, 3) := by decide +kernel
theorem dX10_emptyPlaces_28 : decode cX10_emptyPlaces 28 = .ok (.goto (-24), 3) := by decide +kernel
theorem dX10_emptyPlaces_31 : decode cX10_emptyPlaces 31 = .ok (.iload_n 1, 1) := by decide +kernel
theorem dX10_emptyPlaces_32 : decode cX10_emptyPlaces 32 = .ok (.ireturn, 1) := by decide +kernel
theorem dX11_init_0 : decode cX11_init 0 = .ok (.aload_n 0, 1) := by decide +kernel
theorem dX11_init_1 : decode cX11_init 1 = .ok (.invokespecial 1, 3) := by decide +kernel
theorem dX11_init_4 : decode cX11_init 4 = .ok (.aload_n 0, 1) := by decide +kernel
theorem dX11_init_5 : decode cX11_init 5 = .ok (.new 7, 3) := by decide +kernel
theorem dX11_init_8 : decode cX11_init 8 = .ok (.dup, 1) := by decide +kernel
theorem dX11_init_9 : decode cX11_init 9 = .ok (.invokespecial 9, 3) := by decide +kernel
theorem dX11_init_12 : decode cX11_init 12 = .ok (.putfield 10, 3) := by decide +kernel
theorem dX11_init_15 : decode cX11_init 15 = .ok (.aload_n 0, 1) := by decide +kernel
theorem dX11_init_16 : decode cX11_init 16 = .ok (.aload_n 0, 1) := by decide +kernel
theorem dX11_init_17 : decode cX11_init 17 = .ok (.getfield 10, 3) := by decide +kernel
theorem dX11_init_20 : decode cX11_init 20 = .ok (.getfield 16, 3) := by decide +kernel
theorem dX11_init_23 : decode cX11_init 23 = .ok (.putfield 20, 3) := by decide +kernel
theorem dX11_init_26 : decode cX11_init 26 = .ok (.aload_n 0, 1) := by decide +kernel
theorem dX11_init_27 : decode cX11_init 27 = .ok (.aload_n 0, 1) := by decide +kernel
theorem dX11_init_28 : decode cX11_init 28 = .ok (.getfield 10, 3) := by decide +kernel
theorem dX11_init_31 : decode cX11_init 31 = .ok (.getfield 21, 3) := by decide +kernel
theorem dX11_init_34 : decode cX11_init 34 = .ok (.putfield 25, 3) := by decide +kernel
theorem dX11_init_37 : decode cX11_init 37 = .ok (.aload_n 0, 1) := by decide +kernel
theorem dX11_init_38 : decode cX11_init 38 = .ok (.aload_n 0, 1) := by decide +kernel
theorem dX11_init_39 : decode cX11_init 39 = .ok (.getfield 10, 3) := by decide +kernel
theorem dX11_init_42 : decode cX11_init 42 = .ok (.getfield 26, 3) := by decide +kernel
theorem dX11_init_45 : decode cX11_init 45 = .ok (.putfield 30, 3) := by decide +kernel
theorem dX11_init_48 : decode cX11_init 48 = .ok (.aload_n 0, 1) := by decide +kernel
theorem dX11_init_49 : decode cX11_init 49 = .ok (.aload_n 0, 1) := by decide +kernel
theorem dX11_init_50 : decode cX11_init 50 = .ok (.getfield 10, 3) := by decide +kernel
theorem dX11_init_53 : decode cX11_init 53 = .ok (.getfield 31, 3) := by decide +kernel
theorem dX11_init_56 : decode cX11_init 56 = .ok (.putfield 35, 3) := by decide +kernel
theorem dX11_init_59 : decode cX11_init 59 = .ok (.aload_n 0, 1) := by decide +kernel
theorem dX11_init_60 : decode cX11_init 60 = .ok (.new 36, 3) := by decide +kernel
theorem dX11_init_63 : decode cX11_init 63 = .ok (.dup, 1) := by decide +kernel
theorem dX11_init_64 : decode cX11_init 64 = .ok (.invokespecial 38, 3) := by decide +kernel
theorem dX11_init_67 : decode cX11_init 67 = .ok (.putfield 39, 3) := by decide +kernel
theorem dX11_init_70 : decode cX11_init 70 = .ok (.aload_n 0, 1) := by decide +kernel
theorem dX11_init_71 : decode cX11_init 71 = .ok (.aload_n 0, 1) := by decide +kernel
theorem dX11_init_72 : decode cX11_init 72 = .ok (.getfield 39, 3) := by decide +kernel
theorem dX11_init_75 : decode cX11_init 75 = .ok (.getfield 43, 3) := by decide +kernel
theorem dX11_init_78 : decode cX11_init 78 = .ok (.putfield 47, 3) := by decide +kernel
theorem dX11_init_81 : decode cX11_init 81 = .ok (.aload_n 0, 1) := by decide +kernel
theorem dX11_init_82 : decode cX11_init 82 = .ok (.new 48, 3) := by decide +kernel
theorem dX11_init_85 : decode cX11_init 85 = .ok (.dup, 1) := by decide +kernel
theorem dX11_init_86 : decode cX11_init 86 = .ok (.invokespecial 50, 3) := by decide +kernel
theorem dX11_init_89 : decode cX11_init 89 = .ok (.putfield 51, 3) := by decide +kernel
theorem dX11_init_92 : decode cX11_init 92 = .ok (.aload_n 0, 1) := by decide +kernel
theorem dX11_init_93 : decode cX11_init 93 = .ok (.new 55, 3) := by decide +kernel
theorem dX11_init_96 : decode cX11_init 96 = .ok (.dup, 1) := by decide +kernel
theorem dX11_init_97 : decode cX11_init 97 = .ok (.invokespecial 57, 3) := by decide +kernel
theorem dX11_init_100 : decode cX11_init 100 = .ok (.putfield 58, 3) := by decide +kernel
theorem dX11_init_103 : decode cX11_init 103 = .ok (.aload_n 0, 1) := by decide +kernel
theorem dX11_init_104 : decode cX11_init 104 = .ok (.new 62, 3) := by decide +kernel
theorem dX11_init_107 : decode cX11_init 107 = .ok (.dup, 1) := by decide +kernel
theorem dX11_init_108 : decode cX11_init 108 = .ok (.invokespecial 64, 3) := by decide +kernel
theorem dX11_init_111 : decode cX11_init 111 = .ok (.putfield 65, 3) := by decide +kernel
theorem dX11_init_114 : decode cX11_init 114 = .ok (.aload_n 0, 1) := by decide +kernel
theorem dX11_init_115 : decode cX11_init 115 = .ok (.bipush 40, 2) := by decide +kernel
theorem dX11_init_117 : decode cX11_init 117 = .ok (.newarray .long, 2) := by decide +kernel
theorem dX11_init_119 : decode cX11_init 119 = .ok (.putfield 69, 3) := by decide +kernel
theorem dX11_init_122 : decode cX11_init 122 = .ok (.aload_n 0, 1) := by decide +kernel
theorem dX11_init_123 : decode cX11_init 123 = .ok (.bipush 40, 2) := by decide +kernel
theorem dX11_init_125 : decode cX11_init 125 = .ok (.newarray .long, 2) := by decide +kernel
theorem dX11_init_127 : decode cX11_init 127 = .ok (.putfield 73, 3) := by decide +kernel
theorem dX11_init_130 : decode cX11_init 130 = .ok (.return_, 1) := by decide +kernel
theorem dX11_row_0 : decode cX11_row 0 = .ok (.iload_n 1, 1) := by decide +kernel
theorem dX11_row_1 : decode cX11_row 1 = .ok (.invokestatic 76, 3) := by decide +kernel
theorem dX11_row_4 : decode cX11_row 4 = .ok (.ifCond .eq 16, 3) := by decide +kernel
theorem dX11_row_7 : decode cX11_row 7 = .ok (.iload_n 2, 1) := by decide +kernel
theorem dX11_row_8 : decode cX11_row 8 = .ok (.invokestatic 80, 3) := by decide +kernel
theorem dX11_row_11 : decode cX11_row 11 = .ok (.ifCond .eq 9, 3) := by decide +kernel
theorem dX11_row_14 : decode cX11_row 14 = .ok (.iload_n 3, 1) := by decide +kernel
theorem dX11_row_15 : decode cX11_row 15 = .ok (.bipush 40, 2) := by decide +kernel
theorem dX11_row_17 : decode cX11_row 17 = .ok (.if_icmp .le 6, 3) := by decide +kernel
theorem dX11_row_20 : decode cX11_row 20 = .ok (.bipush (-2), 2) := by decide +kernel
theorem dX11_row_22 : decode cX11_row 22 = .ok (.ireturn, 1) := by decide +kernel
theorem dX11_row_23 : decode cX11_row 23 = .ok (.aload_n 0, 1) := by decide +kernel
theorem dX11_row_24 : decode cX11_row 24 = .ok (.invokevirtual 83, 3) := by decide +kernel
theorem dX11_row_27 : decode cX11_row 27 = .ok (.ifCond .eq 6, 3) := by decide +kernel
theorem dX11_row_30 : decode cX11_row 30 = .ok (.bipush (-4), 2) := by decide +kernel
theorem dX11_row_32 : decode cX11_row 32 = .ok (.ireturn, 1) := by decide +kernel
theorem dX11_row_33 : decode cX11_row 33 = .ok (.iload_n 3, 1) := by decide +kernel
theorem dX11_row_34 : decode cX11_row 34 = .ok (.ifCond .ge 9, 3) := by decide +kernel
theorem dX11_row_37 : decode cX11_row 37 = .ok (.aload_n 0, 1) := by decide +kernel
theorem dX11_row_38 : decode cX11_row 38 = .ok (.iconst 3, 1) := by decide +kernel
theorem dX11_row_39 : decode cX11_row 39 = .ok (.invokevirtual 87, 3) := by decide +kernel
theorem dX11_row_42 : decode cX11_row 42 = .ok (.ireturn, 1) := by decide +kernel
theorem dX11_row_43 : decode cX11_row 43 = .ok (.aload_n 0, 1) := by decide +kernel
theorem dX11_row_44 : decode cX11_row 44 = .ok (.getfield 20, 3) := by decide +kernel
theorem dX11_row_47 : decode cX11_row 47 = .ok (.iload_n 1, 1) := by decide +kernel
theorem dX11_row_48 : decode cX11_row 48 = .ok (.aload_n 0, 1) := by decide +kernel
theorem dX11_row_49 : decode cX11_row 49 = .ok (.iload_n 2, 1) := by decide +kernel
theorem dX11_row_50 : decode cX11_row 50 = .ok (.iload_n 3, 1) := by decide +kernel
theorem dX11_row_51 : decode cX11_row 51 = .ok (.invokevirtual 91, 3) := by decide +kernel
theorem dX11_row_54 : decode cX11_row 54 = .ok (.aastore, 1) := by decide +kernel
theorem dX11_row_55 : decode cX11_row 55 = .ok (.iconst 1, 1) := by decide +kernel
theorem dX11_row_56 : decode cX11_row 56 = .ok (.ireturn, 1) := by decide +kernel
theorem dX11_grid_0 : decode cX11_grid 0 = .ok (.iload_n 1, 1) := by decide +kernel
theorem dX11_grid_1 : decode cX11_grid 1 = .ok (.invokestatic 76, 3) := by decide +kernel
theorem dX11_grid_4 : decode cX11_grid 4 = .ok (.ifCond .eq 23, 3) := by decide +kernel
theorem dX11_grid_7 : decode cX11_grid 7 = .ok (.iload_n 2, 1) := by decide +kernel
theorem dX11_grid_8 : decode cX11_grid 8 = .ok (.invokestatic 95, 3) := by decide +kernel
theorem dX11_grid_11 : decode cX11_grid 11 = .ok (.ifCond .eq 16, 3) := by decide +kernel
theorem dX11_grid_14 : decode cX11_grid 14 = .ok (.iload_n 3, 1) := by decide +kernel
theorem dX11_grid_15 : decode cX11_grid 15 = .ok (.bipush 10, 2) := by decide +kernel
theorem dX11_grid_17 : decode cX11_grid 17 = .ok (.if_icmp .gt 10, 3) := by decide +kernel
theorem dX11_grid_20 : decode cX11_grid 20 = .ok (.iload 4, 2) := by decide +kernel
theorem dX11_grid_22 : decode cX11_grid 22 = .ok (.bipush 40, 2) := by decide +kernel
theorem dX11_grid_24 : decode cX11_grid 24 = .ok (.if_icmp .le 6, 3) := by decide +kernel
theorem dX11_grid_27 : decode cX11_grid 27 = .ok (.bipush (-2), 2) := by decide +kernel
theorem dX11_grid_29 : decode cX11_grid 29 = .ok (.ireturn, 1) := by decide +kernel
theorem dX11_grid_30 : decode cX11_grid 30 = .ok (.aload_n 0, 1) := by decide +kernel
theorem dX11_grid_31 : decode cX11_grid 31 = .ok (.invokevirtual 83, 3) := by decide +kernel
theorem dX11_grid_34 : decode cX11_grid 34 = .ok (.ifCond .eq 6, 3) := by decide +kernel
theorem dX11_grid_37 : decode cX11_grid 37 = .ok (.bipush (-4), 2) := by decide +kernel
theorem dX11_grid_39 : decode cX11_grid 39 = .ok (.ireturn, 1) := by decide +kernel
theorem dX11_grid_40 : decode cX11_grid 40 = .ok (.iload_n 3, 1) := by decide +kernel
theorem dX11_grid_41 : decode cX11_grid 41 = .ok (.ifCond .lt 13, 3) := by decide +kernel
theorem dX11_grid_44 : decode cX11_grid 44 = .ok (.iload 4, 2) := by decide +kernel
theorem dX11_grid_46 : decode cX11_grid 46 = .ok (.ifCond .ge 14, 3) := by decide +kernel
theorem dX11_grid_49 : decode cX11_grid 49 = .ok (.iload 5, 2) := by decide +kernel
theorem dX11_grid_51 : decode cX11_grid 51 = .ok (.ifCond .ne 9, 3) := by decide +kernel
theorem dX11_grid_54 : decode cX11_grid 54 = .ok (.aload_n 0, 1) := by decide +kernel
theorem dX11_grid_55 : decode cX11_grid 55 = .ok (.iconst 3, 1) := by decide +kernel
theorem dX11_grid_56 : decode cX11_grid 56 = .ok (.invokevirtual 87, 3) := by decide +kernel
theorem dX11_grid_59 : decode cX11_grid 59 = .ok (.ireturn, 1) := by decide +kernel
theorem dX11_grid_60 : decode cX11_grid 60 = .ok (.aload_n 0, 1) := by decide +kernel
theorem dX11_grid_61 : decode cX11_grid 61 = .ok (.iload_n 2, 1) := by decide +kernel
theorem dX11_grid_62 : decode cX11_grid 62 = .ok (.iload_n 3, 1) := by decide +kernel
theorem dX11_grid_63 : decode cX11_grid 63 = .ok (.invokevirtual 98, 3) := by decide +kernel
theorem dX11_grid_66 : decode cX11_grid 66 = .ok (.astore 6, 2) := by decide +kernel
theorem dX11_grid_68 : decode cX11_grid 68 = .ok (.iload 5, 2) := by decide +kernel
theorem dX11_grid_70 : decode cX11_grid 70 = .ok (.ifCond .ne 41, 3) := by decide +kernel
theorem dX11_grid_73 : decode cX11_grid 73 = .ok (.iconst 0, 1) := by decide +kernel
theorem dX11_grid_74 : decode cX11_grid 74 = .ok (.istore 7, 2) := by decide +kernel
theorem dX11_grid_76 : decode cX11_grid 76 = .ok (.iload 7, 2) := by decide +kernel
theorem dX11_grid_78 : decode cX11_grid 78 = .ok (.aload 6, 2) := by decide +kernel
theorem dX11_grid_80 : decode cX11_grid 80 = .ok (.getfield 101, 3) := by decide +kernel
theorem dX11_grid_83 : decode cX11_grid 83 = .ok (.arraylength, 1) := by decide +kernel
theorem dX11_grid_84 : decode cX11_grid 84 = .ok (.if_icmp .ge 27, 3) := by decide +kernel
theorem dX11_grid_87 : decode cX11_grid 87 = .ok (.aload 6, 2) := by decide +kernel
theorem dX11_grid_89 : decode cX11_grid 89 = .ok (.getfield 101, 3) := by decide +kernel
theorem dX11_grid_92 : decode cX11_grid 92 = .ok (.iload 7, 2) := by decide +kernel
theorem dX11_grid_94 : decode cX11_grid 94 = .ok (.aload_n 0, 1) := by decide +kernel
theorem dX11_grid_95 : decode cX11_grid 95 = .ok (.iload_n 2, 1) := by decide +kernel
theorem dX11_grid_96 : decode cX11_grid 96 = .ok (.invokestatic 106, 3) := by decide +kernel
theorem dX11_grid_99 : decode cX11_grid 99 = .ok (.iload 4, 2) := by decide +kernel
theorem dX11_grid_101 : decode cX11_grid 101 = .ok (.invokevirtual 91, 3) := by decide +kernel
theorem dX11_grid_104 : decode cX11_grid 104 = .ok (.aastore, 1) := by decide +kernel
theorem dX11_grid_105 : decode cX11_grid 105 = .ok (.iinc 7 1, 3) := by decide +kernel
theorem dX11_grid_108 : decode cX11_grid 108 = .ok (.goto (-32), 3) := by decide +kernel
theorem dX11_grid_111 : decode cX11_grid 111 = .ok (.aload_n 0, 1) := by decide +kernel
theorem dX11_grid_112 : decode cX11_grid 112 = .ok (.getfield 20, 3) := by decide +kernel
theorem dX11_grid_115 : decode cX11_grid 115 = .ok (.iload_n 1, 1) := by decide +kernel
theorem dX11_grid_116 : decode cX11_grid 116 = .ok (.aload 6, 2) := by decide +kernel
theorem dX11_grid_118 : decode cX11_grid 118 = .ok (.aastore, 1) := by decide +kernel
theorem dX11_grid_119 : decode cX11_grid 119 = .ok (.iconst 1, 1) := by decide +kernel
theorem dX11_grid_120 : decode cX11_grid 120 = .ok (.ireturn, 1) := by decide +kernel
theorem dX11_storeys_0 : decode cX11_storeys 0 = .ok (.iload_n 1, 1) := by decide +kernel
theorem dX11_storeys_1 : decode cX11_storeys 1 = .ok (.invokestatic 76, 3) := by decide +kernel
theorem dX11_storeys_4 : decode cX11_storeys 4 = .ok (.ifCond .eq 8, 3) := by decide +kernel
theorem dX11_storeys_7 : decode cX11_storeys 7 = .ok (.iload_n 2, 1) := by decide +kernel
theorem dX11_storeys_8 : decode cX11_storeys 8 = .ok (.iconst 4, 1) := by decide +kernel
theorem dX11_storeys_9 : decode cX11_storeys 9 = .ok (.if_icmp .le 6, 3) := by decide +kernel
theorem dX11_storeys_12 : decode cX11_storeys 12 = .ok (.bipush (-2), 2) := by decide +kernel
theorem dX11_storeys_14 : decode cX11_storeys 14 = .ok (.ireturn, 1) := by decide +kernel
theorem dX11_storeys_15 : decode cX11_storeys 15 = .ok (.aload_n 0, 1) := by decide +kernel
theorem dX11_storeys_16 : decode cX11_storeys 16 = .ok (.iload_n 1, 1) := by decide +kernel
theorem dX11_storeys_17 : decode cX11_storeys 17 = .ok (.bipush 11, 2) := by decide +kernel
theorem dX11_storeys_19 : decode cX11_storeys 19 = .ok (.iload_n 2, 1) := by decide +kernel
theorem dX11_storeys_20 : decode cX11_storeys 20 = .ok (.invokevirtual 109, 3) := by decide +kernel
theorem dX11_storeys_23 : decode cX11_storeys 23 = .ok (.ireturn, 1) := by decide +kernel
theorem dX11_share_0 : decode cX11_share 0 = .ok (.iload_n 1, 1) := by decide +kernel
theorem dX11_share_1 : decode cX11_share 1 = .ok (.invokestatic 76, 3) := by decide +kernel
theorem dX11_share_4 : decode cX11_share 4 = .ok (.ifCond .eq 15, 3) := by decide +kernel
theorem dX11_share_7 : decode cX11_share 7 = .ok (.iload_n 2, 1) := by decide +kernel
theorem dX11_share_8 : decode cX11_share 8 = .ok (.iconst (-1), 1) := by decide +kernel
theorem dX11_share_9 : decode cX11_share 9 = .ok (.if_icmp .eq 13, 3) := by decide +kernel
theorem dX11_share_12 : decode cX11_share 12 = .ok (.iload_n 2, 1) := by decide +kernel
theorem dX11_share_13 : decode cX11_share 13 = .ok (.invokestatic 76, 3) := by decide +kernel
theorem dX11_share_16 : decode cX11_share 16 = .ok (.ifCond .ne 6, 3) := by decide +kernel
theorem dX11_share_19 : decode cX11_share 19 = .ok (.bipush (-2), 2) := by decide +kernel
theorem dX11_share_21 : decode cX11_share 21 = .ok (.ireturn, 1) := by decide +kernel
theorem dX11_share_22 : decode cX11_share 22 = .ok (.aload_n 0, 1) := by decide +kernel
theorem dX11_share_23 : decode cX11_share 23 = .ok (.getfield 20, 3) := by decide +kernel
theorem dX11_share_26 : decode cX11_share 26 = .ok (.iload_n 1, 1) := by decide +kernel
theorem dX11_share_27 : decode cX11_share 27 = .ok (.iload_n 2, 1) := by decide +kernel
theorem dX11_share_28 : decode cX11_share 28 = .ok (.iconst (-1), 1) := by decide +kernel
theorem dX11_share_29 : decode cX11_share 29 = .ok (.if_icmp .ne 7, 3) := by decide +kernel
theorem dX11_share_32 : decode cX11_share 32 = .ok (.aconst_null, 1) := by decide +kernel
theorem dX11_share_33 : decode cX11_share 33 = .ok (.goto 9, 3) := by decide +kernel
theorem dX11_share_36 : decode cX11_share 36 = .ok (.aload_n 0, 1) := by decide +kernel
theorem dX11_share_37 : decode cX11_share 37 = .ok (.getfield 20, 3) := by decide +kernel
theorem dX11_share_40 : decode cX11_share 40 = .ok (.iload_n 2, 1) := by decide +kernel
theorem dX11_share_41 : decode cX11_share 41 = .ok (.aaload, 1) := by decide +kernel
theorem dX11_share_42 : decode cX11_share 42 = .ok (.aastore, 1) := by decide +kernel
theorem dX11_share_43 : decode cX11_share 43 = .ok (.iconst 1, 1) := by decide +kernel
theorem dX11_share_44 : decode cX11_share 44 = .ok (.ireturn, 1) := by decide +kernel
theorem dX11_form_0 : decode cX11_form 0 = .ok (.iload_n 1, 1) := by decide +kernel
theorem dX11_form_1 : decode cX11_form 1 = .ok (.invokestatic 76, 3) := by decide +kernel
theorem dX11_form_4 : decode cX11_form 4 = .ok (.ifCond .ne 6, 3) := by decide +kernel
theorem dX11_form_7 : decode cX11_form 7 = .ok (.bipush (-2), 2) := by decide +kernel
theorem dX11_form_9 : decode cX11_form 9 = .ok (.ireturn, 1) := by decide +kernel
theorem dX11_form_10 : decode cX11_form 10 = .ok (.aload_n 0, 1) := by decide +kernel
theorem dX11_form_11 : decode cX11_form 11 = .ok (.getfield 20, 3) := by decide +kernel
theorem dX11_form_14 : decode cX11_form 14 = .ok (.iload_n 1, 1) := by decide +kernel
theorem dX11_form_15 : decode cX11_form 15 = .ok (.aaload, 1) := by decide +kernel
theorem dX11_form_16 : decode cX11_form 16 = .ok (.astore_n 2, 1) := by decide +kernel
theorem dX11_form_17 : decode cX11_form 17 = .ok (.aload_n 2, 1) := by decide +kernel
theorem dX11_form_18 : decode cX11_form 18 = .ok (.ifnonnull 7, 3) := by decide +kernel
theorem dX11_form_21 : decode cX11_form 21 = .ok (.iconst (-1), 1) := by decide +kernel
theorem dX11_form_22 : decode cX11_form 22 = .ok (.goto 7, 3) := by decide +kernel
theorem dX11_form_25 : decode cX11_form 25 = .ok (.aload_n 2, 1) := by decide +kernel
theorem dX11_form_26 : decode cX11_form 26 = .ok (.getfield 113, 3) := by decide +kernel
theorem dX11_form_29 : decode cX11_form 29 = .ok (.ireturn, 1) := by decide +kernel
theorem dX11_is_0 : decode cX11_is 0 = .ok (.iload_n 1, 1) := by decide +kernel
theorem dX11_is_1 : decode cX11_is 1 = .ok (.invokestatic 76, 3) := by decide +kernel
theorem dX11_is_4 : decode cX11_is 4 = .ok (.ifCond .eq 10, 3) := by decide +kernel
theorem dX11_is_7 : decode cX11_is 7 = .ok (.iload_n 2, 1) := by decide +kernel
theorem dX11_is_8 : decode cX11_is 8 = .ok (.invokestatic 117, 3) := by decide +kernel
theorem dX11_is_11 : decode cX11_is 11 = .ok (.ifCond .ne 6, 3) := by decide +kernel
theorem dX11_is_14 : decode cX11_is 14 = .ok (.bipush (-2), 2) := by decide +kernel
theorem dX11_is_16 : decode cX11_is 16 = .ok (.ireturn, 1) := by decide +kernel
theorem dX11_is_17 : decode cX11_is 17 = .ok (.aload_n 0, 1) := by decide +kernel
theorem dX11_is_18 : decode cX11_is 18 = .ok (.getfield 20, 3) := by decide +kernel
theorem dX11_is_21 : decode cX11_is 21 = .ok (.iload_n 1, 1) := by decide +kernel
theorem dX11_is_22 : decode cX11_is 22 = .ok (.aaload, 1) := by decide +kernel
theorem dX11_is_23 : decode cX11_is 23 = .ok (.astore_n 3, 1) := by decide +kernel
theorem dX11_is_24 : decode cX11_is 24 = .ok (.aload_n 3, 1) := by decide +kernel
theorem dX11_is_25 : decode cX11_is 25 = .ok (.ifnonnull 5, 3) := by decide +kernel
theorem dX11_is_28 : decode cX11_is 28 = .ok (.iconst 0, 1) := by decide +kernel
theorem dX11_is_29 : decode cX11_is 29 = .ok (.ireturn, 1) := by decide +kernel
theorem dX11_is_30 : decode cX11_is 30 = .ok (.aload_n 3, 1) := by decide +kernel
theorem dX11_is_31 : decode cX11_is 31 = .ok (.getfield 113, 3) := by decide +kernel
theorem dX11_is_34 : decode cX11_is 34 = .ok (.bipush 16, 2) := by decide +kernel
theorem dX11_is_36 : decode cX11_is 36 = .ok (.if_icmp .ne 27, 3) := by decide +kernel
theorem dX11_is_39 : decode cX11_is 39 = .ok (.iload_n 2, 1) := by decide +kernel
theorem dX11_is_40 : decode cX11_is 40 = .ok (.invokestatic 120, 3) := by decide +kernel
theorem dX11_is_43 : decode cX11_is 43 = .ok (.ifCond .eq 20, 3) := by decide +kernel
theorem dX11_is_46 : decode cX11_is 46 = .ok (.iload_n 2, 1) := by decide +kernel
theorem dX11_is_47 : decode cX11_is 47 = .ok (.aload_n 3, 1) := by decide +kernel
theorem dX11_is_48 : decode cX11_is 48 = .ok (.getfield 123, 3) := by decide +kernel
theorem dX11_is_51 : decode cX11_is 51 = .ok (.invokestatic 126, 3) := by decide +kernel
theorem dX11_is_54 : decode cX11_is 54 = .ok (.ifCond .eq 7, 3) := by decide +kernel
theorem dX11_is_57 : decode cX11_is 57 = .ok (.iconst 1, 1) := by decide +kernel
theorem dX11_is_58 : decode cX11_is 58 = .ok (.goto 4, 3) := by decide +kernel
theorem dX11_is_61 : decode cX11_is 61 = .ok (.iconst 0, 1) := by decide +kernel
theorem dX11_is_62 : decode cX11_is 62 = .ok (.ireturn, 1) := by decide +kernel
theorem dX11_is_63 : decode cX11_is 63 = .ok (.aload_n 3, 1) := by decide +kernel
theorem dX11_is_64 : decode cX11_is 64 = .ok (.getfield 113, 3) := by decide +kernel
theorem dX11_is_67 : decode cX11_is 67 = .ok (.iload_n 2, 1) := by decide +kernel
theorem dX11_is_68 : decode cX11_is 68 = .ok (.if_icmp .ne 7, 3) := by decide +kernel
theorem dX11_is_71 : decode cX11_is 71 = .ok (.iconst 1, 1) := by decide +kernel
theorem dX11_is_72 : decode cX11_is 72 = .ok (.goto 4, 3) := by decide +kernel
theorem dX11_is_75 : decode cX11_is 75 = .ok (.iconst 0, 1) := by decide +kernel
theorem dX11_is_76 : decode cX11_is 76 = .ok (.ireturn, 1) := by decide +kernel
theorem dX11_get_0 : decode cX11_get 0 = .ok (.iload_n 1, 1) := by decide +kernel
theorem dX11_get_1 : decode cX11_get 1 = .ok (.invokestatic 76, 3) := by decide +kernel
theorem dX11_get_4 : decode cX11_get 4 = .ok (.ifCond .eq 10, 3) := by decide +kernel
theorem dX11_get_7 : decode cX11_get 7 = .ok (.iload_n 2, 1) := by decide +kernel
theorem dX11_get_8 : decode cX11_get 8 = .ok (.invokestatic 80, 3) := by decide +kernel
theorem dX11_get_11 : decode cX11_get 11 = .ok (.ifCond .ne 5, 3) := by decide +kernel
theorem dX11_get_14 : decode cX11_get 14 = .ok (.lconst 0, 1) := by decide +kernel
theorem dX11_get_15 : decode cX11_get 15 = .ok (.lreturn, 1) := by decide +kernel
theorem dX11_get_16 : decode cX11_get 16 = .ok (.aload_n 0, 1) := by decide +kernel
theorem dX11_get_17 : decode cX11_get 17 = .ok (.getfield 20, 3) := by decide +kernel
theorem dX11_get_20 : decode cX11_get 20 = .ok (.iload_n 1, 1) := by decide +kernel
theorem dX11_get_21 : decode cX11_get 21 = .ok (.aaload, 1) := by decide +kernel
theorem dX11_get_22 : decode cX11_get 22 = .ok (.astore 4, 2) := by decide +kernel
theorem dX11_get_24 : decode cX11_get 24 = .ok (.aload 4, 2) := by decide +kernel
theorem dX11_get_26 : decode cX11_get 26 = .ok (.iload_n 2, 1) := by decide +kernel
theorem dX11_get_27 : decode cX11_get 27 = .ok (.iload_n 3, 1) := by decide +kernel
theorem dX11_get_28 : decode cX11_get 28 = .ok (.invokestatic 130, 3) := by decide +kernel
theorem dX11_get_31 : decode cX11_get 31 = .ok (.istore 5, 2) := by decide +kernel
theorem dX11_get_33 : decode cX11_get 33 = .ok (.iload 5, 2) := by decide +kernel
theorem dX11_get_35 : decode cX11_get 35 = .ok (.ifCond .ne 8, 3) := by decide +kernel
theorem dX11_get_38 : decode cX11_get 38 = .ok (.aload 4, 2) := by decide +kernel
theorem dX11_get_40 : decode cX11_get 40 = .ok (.ifnonnull 12, 3) := by decide +kernel
theorem dX11_get_43 : decode cX11_get 43 = .ok (.aload_n 0, 1) := by decide +kernel
theorem dX11_get_44 : decode cX11_get 44 = .ok (.iload 5, 2) := by decide +kernel
theorem dX11_get_46 : decode cX11_get 46 = .ok (.invokevirtual 87, 3) := by decide +kernel
theorem dX11_get_49 : decode cX11_get 49 = .ok (.pop, 1) := by decide +kernel
theorem dX11_get_50 : decode cX11_get 50 = .ok (.lconst 0, 1) := by decide +kernel
theorem dX11_get_51 : decode cX11_get 51 = .ok (.lreturn, 1) := by decide +kernel
theorem dX11_get_52 : decode cX11_get 52 = .ok (.aload 4, 2) := by decide +kernel
theorem dX11_get_54 : decode cX11_get 54 = .ok (.getfield 134, 3) := by decide +kernel
theorem dX11_get_57 : decode cX11_get 57 = .ok (.iload_n 3, 1) := by decide +kernel
theorem dX11_get_58 : decode cX11_get 58 = .ok (.laload, 1) := by decide +kernel
theorem dX11_get_59 : decode cX11_get 59 = .ok (.lreturn, 1) := by decide +kernel
theorem dX11_put_0 : decode cX11_put 0 = .ok (.iload_n 1, 1) := by decide +kernel
theorem dX11_put_1 : decode cX11_put 1 = .ok (.invokestatic 76, 3) := by decide +kernel
theorem dX11_put_4 : decode cX11_put 4 = .ok (.ifCond .eq 10, 3) := by decide +kernel
theorem dX11_put_7 : decode cX11_put 7 = .ok (.iload_n 2, 1) := by decide +kernel
theorem dX11_put_8 : decode cX11_put 8 = .ok (.invokestatic 80, 3) := by decide +kernel
theorem dX11_put_11 : decode cX11_put 11 = .ok (.ifCond .ne 6, 3) := by decide +kernel
theorem dX11_put_14 : decode cX11_put 14 = .ok (.bipush (-2), 2) := by decide +kernel
theorem dX11_put_16 : decode cX11_put 16 = .ok (.ireturn, 1) := by decide +kernel
theorem dX11_put_17 : decode cX11_put 17 = .ok (.aload_n 0, 1) := by decide +kernel
theorem dX11_put_18 : decode cX11_put 18 = .ok (.getfield 20, 3) := by decide +kernel
theorem dX11_put_21 : decode cX11_put 21 = .ok (.iload_n 1, 1) := by decide +kernel
theorem dX11_put_22 : decode cX11_put 22 = .ok (.aaload, 1) := by decide +kernel
theorem dX11_put_23 : decode cX11_put 23 = .ok (.astore 6, 2) := by decide +kernel
theorem dX11_put_25 : decode cX11_put 25 = .ok (.aload 6, 2) := by decide +kernel
theorem dX11_put_27 : decode cX11_put 27 = .ok (.iload_n 2, 1) := by decide +kernel
theorem dX11_put_28 : decode cX11_put 28 = .ok (.iload_n 3, 1) := by decide +kernel
theorem dX11_put_29 : decode cX11_put 29 = .ok (.invokestatic 130, 3) := by decide +kernel
theorem dX11_put_32 : decode cX11_put 32 = .ok (.istore 7, 2) := by decide +kernel
theorem dX11_put_34 : decode cX11_put 34 = .ok (.iload 7, 2) := by decide +kernel
theorem dX11_put_36 : decode cX11_put 36 = .ok (.ifCond .ne 8, 3) := by decide +kernel
theorem dX11_put_39 : decode cX11_put 39 = .ok (.aload 6, 2) := by decide +kernel
theorem dX11_put_41 : decode cX11_put 41 = .ok (.ifnonnull 10, 3) := by decide +kernel
theorem dX11_put_44 : decode cX11_put 44 = .ok (.aload_n 0, 1) := by decide +kernel
theorem dX11_put_45 : decode cX11_put 45 = .ok (.iload 7, 2) := by decide +kernel
theorem dX11_put_47 : decode cX11_put 47 = .ok (.invokevirtual 87, 3) := by decide +kernel
theorem dX11_put_50 : decode cX11_put 50 = .ok (.ireturn, 1) := by decide +kernel
theorem dX11_put_51 : decode cX11_put 51 = .ok (.aload 6, 2) := by decide +kernel
theorem dX11_put_53 : decode cX11_put 53 = .ok (.getfield 134, 3) := by decide +kernel
theorem dX11_put_56 : decode cX11_put 56 = .ok (.iload_n 3, 1) := by decide +kernel
theorem dX11_put_57 : decode cX11_put 57 = .ok (.iload_n 2, 1) := by decide +kernel
theorem dX11_put_58 : decode cX11_put 58 = .ok (.lload 4, 2) := by decide +kernel
theorem dX11_put_60 : decode cX11_put 60 = .ok (.invokestatic 137, 3) := by decide +kernel
theorem dX11_put_63 : decode cX11_put 63 = .ok (.lastore, 1) := by decide +kernel
theorem dX11_put_64 : decode cX11_put 64 = .ok (.iconst 1, 1) := by decide +kernel
theorem dX11_put_65 : decode cX11_put 65 = .ok (.ireturn, 1) := by decide +kernel
theorem dX11_bed_0 : decode cX11_bed 0 = .ok (.iload_n 1, 1) := by decide +kernel
theorem dX11_bed_1 : decode cX11_bed 1 = .ok (.invokestatic 76, 3) := by decide +kernel
theorem dX11_bed_4 : decode cX11_bed 4 = .ok (.ifCond .eq 10, 3) := by decide +kernel
theorem dX11_bed_7 : decode cX11_bed 7 = .ok (.iload_n 2, 1) := by decide +kernel
theorem dX11_bed_8 : decode cX11_bed 8 = .ok (.invokestatic 95, 3) := by decide +kernel
theorem dX11_bed_11 : decode cX11_bed 11 = .ok (.ifCond .ne 5, 3) := by decide +kernel
theorem dX11_bed_14 : decode cX11_bed 14 = .ok (.lconst 0, 1) := by decide +kernel
theorem dX11_bed_15 : decode cX11_bed 15 = .ok (.lreturn, 1) := by decide +kernel
theorem dX11_bed_16 : decode cX11_bed 16 = .ok (.aload_n 0, 1) := by decide +kernel
theorem dX11_bed_17 : decode cX11_bed 17 = .ok (.getfield 20, 3) := by decide +kernel
theorem dX11_bed_20 : decode cX11_bed 20 = .ok (.iload_n 1, 1) := by decide +kernel
theorem dX11_bed_21 : decode cX11_bed 21 = .ok (.aaload, 1) := by decide +kernel
theorem dX11_bed_22 : decode cX11_bed 22 = .ok (.iload_n 2, 1) := by decide +kernel
theorem dX11_bed_23 : decode cX11_bed 23 = .ok (.iload_n 3, 1) := by decide +kernel
theorem dX11_bed_24 : decode cX11_bed 24 = .ok (.invokestatic 141, 3) := by decide +kernel
theorem dX11_bed_27 : decode cX11_bed 27 = .ok (.astore 5, 2) := by decide +kernel
theorem dX11_bed_29 : decode cX11_bed 29 = .ok (.aload_n 0, 1) := by decide +kernel
theorem dX11_bed_30 : decode cX11_bed 30 = .ok (.getfield 20, 3) := by decide +kernel
theorem dX11_bed_33 : decode cX11_bed 33 = .ok (.iload_n 1, 1) := by decide +kernel
theorem dX11_bed_34 : decode cX11_bed 34 = .ok (.aaload, 1) := by decide +kernel
theorem dX11_bed_35 : decode cX11_bed 35 = .ok (.iload_n 2, 1) := by decide +kernel
theorem dX11_bed_36 : decode cX11_bed 36 = .ok (.iload_n 3, 1) := by decide +kernel
theorem dX11_bed_37 : decode cX11_bed 37 = .ok (.iload 4, 2) := by decide +kernel
theorem dX11_bed_39 : decode cX11_bed 39 = .ok (.invokestatic 145, 3) := by decide +kernel
theorem dX11_bed_42 : decode cX11_bed 42 = .ok (.istore 6, 2) := by decide +kernel
theorem dX11_bed_44 : decode cX11_bed 44 = .ok (.iload 6, 2) := by decide +kernel
theorem dX11_bed_46 : decode cX11_bed 46 = .ok (.ifCond .ne 8, 3) := by decide +kernel
theorem dX11_bed_49 : decode cX11_bed 49 = .ok (.aload 5, 2) := by decide +kernel
theorem dX11_bed_51 : decode cX11_bed 51 = .ok (.ifnonnull 12, 3) := by decide +kernel
theorem dX11_bed_54 : decode cX11_bed 54 = .ok (.aload_n 0, 1) := by decide +kernel
theorem dX11_bed_55 : decode cX11_bed 55 = .ok (.iload 6, 2) := by decide +kernel
theorem dX11_bed_57 : decode cX11_bed 57 = .ok (.invokevirtual 87, 3) := by decide +kernel
theorem dX11_bed_60 : decode cX11_bed 60 = .ok (.pop, 1) := by decide +kernel
theorem dX11_bed_61 : decode cX11_bed 61 = .ok (.lconst 0, 1) := by decide +kernel
theorem dX11_bed_62 : decode cX11_bed 62 = .ok (.lreturn, 1) := by decide +kernel
theorem dX11_bed_63 : decode cX11_bed 63 = .ok (.aload 5, 2) := by decide +kernel
theorem dX11_bed_65 : decode cX11_bed 65 = .ok (.getfield 134, 3) := by decide +kernel
theorem dX11_bed_68 : decode cX11_bed 68 = .ok (.iload 4, 2) := by decide +kernel
theorem dX11_bed_70 : decode cX11_bed 70 = .ok (.laload, 1) := by decide +kernel
theorem dX11_bed_71 : decode cX11_bed 71 = .ok (.lreturn, 1) := by decide +kernel
theorem dX11_setBed_0 : decode cX11_setBed 0 = .ok (.iload_n 1, 1) := by decide +kernel
theorem dX11_setBed_1 : decode cX11_setBed 1 = .ok (.invokestatic 76, 3) := by decide +kernel
theorem dX11_setBed_4 : decode cX11_setBed 4 = .ok (.ifCond .eq 10, 3) := by decide +kernel
theorem dX11_setBed_7 : decode cX11_setBed 7 = .ok (.iload_n 2, 1) := by decide +kernel
theorem dX11_setBed_8 : decode cX11_setBed 8 = .ok (.invokestatic 95, 3) := by decide +kernel
theorem dX11_setBed_11 : decode cX11_setBed 11 = .ok (.ifCond .ne 6, 3) := by decide +kernel
theorem dX11_setBed_14 : decode cX11_setBed 14 = .ok (.bipush (-2), 2) := by decide +kernel
theorem dX11_setBed_16 : decode cX11_setBed 16 = .ok (.ireturn, 1) := by decide +kernel
theorem dX11_setBed_17 : decode cX11_setBed 17 = .ok (.aload_n 0, 1) := by decide +kernel
theorem dX11_setBed_18 : decode cX11_setBed 18 = .ok (.getfield 20, 3) := by decide +kernel
theorem dX11_setBed_21 : decode cX11_setBed 21 = .ok (.iload_n 1, 1) := by decide +kernel
theorem dX11_setBed_22 : decode cX11_setBed 22 = .ok (.aaload, 1) := by decide +kernel
theorem dX11_setBed_23 : decode cX11_setBed 23 = .ok (.iload_n 2, 1) := by decide +kernel
theorem dX11_setBed_24 : decode cX11_setBed 24 = .ok (.iload_n 3, 1) := by decide +kernel
theorem dX11_setBed_25 : decode cX11_setBed 25 = .ok (.invokestatic 141, 3) := by decide +kernel
theorem dX11_setBed_28 : decode cX11_setBed 28 = .ok (.astore 7, 2) := by decide +kernel
theorem dX11_setBed_30 : decode cX11_setBed 30 = .ok (.aload_n 0, 1) := by decide +kernel
theorem dX11_setBed_31 : decode cX11_setBed 31 = .ok (.getfield 20, 3) := by decide +kernel
theorem dX11_setBed_34 : decode cX11_setBed 34 = .ok (.iload_n 1, 1) := by decide +kernel
theorem dX11_setBed_35 : decode cX11_setBed 35 = .ok (.aaload, 1) := by decide +kernel
theorem dX11_setBed_36 : decode cX11_setBed 36 = .ok (.iload_n 2, 1) := by decide +kernel
theorem dX11_setBed_37 : decode cX11_setBed 37 = .ok (.iload_n 3, 1) := by decide +kernel
theorem dX11_setBed_38 : decode cX11_setBed 38 = .ok (.iload 4, 2) := by decide +kernel
theorem dX11_setBed_40 : decode cX11_setBed 40 = .ok (.invokestatic 145, 3) := by decide +kernel
theorem dX11_setBed_43 : decode cX11_setBed 43 = .ok (.istore 8, 2) := by decide +kernel
theorem dX11_setBed_45 : decode cX11_setBed 45 = .ok (.iload 8, 2) := by decide +kernel
theorem dX11_setBed_47 : decode cX11_setBed 47 = .ok (.ifCond .ne 8, 3) := by decide +kernel
theorem dX11_setBed_50 : decode cX11_setBed 50 = .ok (.aload 7, 2) := by decide +kernel
theorem dX11_setBed_52 : decode cX11_setBed 52 = .ok (.ifnonnull 10, 3) := by decide +kernel
theorem dX11_setBed_55 : decode cX11_setBed 55 = .ok (.aload_n 0, 1) := by decide +kernel
theorem dX11_setBed_56 : decode cX11_setBed 56 = .ok (.iload 8, 2) := by decide +kernel
theorem dX11_setBed_58 : decode cX11_setBed 58 = .ok (.invokevirtual 87, 3) := by decide +kernel
theorem dX11_setBed_61 : decode cX11_setBed 61 = .ok (.ireturn, 1) := by decide +kernel
theorem dX11_setBed_62 : decode cX11_setBed 62 = .ok (.aload 7, 2) := by decide +kernel
theorem dX11_setBed_64 : decode cX11_setBed 64 = .ok (.getfield 134, 3) := by decide +kernel
theorem dX11_setBed_67 : decode cX11_setBed 67 = .ok (.iload 4, 2) := by decide +kernel
theorem dX11_setBed_69 : decode cX11_setBed 69 = .ok (.iload_n 2, 1) := by decide +kernel
theorem dX11_setBed_70 : decode cX11_setBed 70 = .ok (.invokestatic 106, 3) := by decide +kernel
theorem dX11_setBed_73 : decode cX11_setBed 73 = .ok (.lload 5, 2) := by decide +kernel
theorem dX11_setBed_75 : decode cX11_setBed 75 = .ok (.invokestatic 137, 3) := by decide +kernel
theorem dX11_setBed_78 : decode cX11_setBed 78 = .ok (.lastore, 1) := by decide +kernel
theorem dX11_setBed_79 : decode cX11_setBed 79 = .ok (.iconst 1, 1) := by decide +kernel
theorem dX11_setBed_80 : decode cX11_setBed 80 = .ok (.ireturn, 1) := by decide +kernel
theorem dX11_countUp_0 : decode cX11_countUp 0 = .ok (.iload_n 1, 1) := by decide +kernel
theorem dX11_countUp_1 : decode cX11_countUp 1 = .ok (.invokestatic 76, 3) := by decide +kernel
theorem dX11_countUp_4 : decode cX11_countUp 4 = .ok (.ifCond .ne 5, 3) := by decide +kernel
theorem dX11_countUp_7 : decode cX11_countUp 7 = .ok (.iconst 0, 1) := by decide +kernel
theorem dX11_countUp_8 : decode cX11_countUp 8 = .ok (.ireturn, 1) := by decide +kernel
theorem dX11_countUp_9 : decode cX11_countUp 9 = .ok (.aload_n 0, 1) := by decide +kernel
theorem dX11_countUp_10 : decode cX11_countUp 10 = .ok (.getfield 20, 3) := by decide +kernel
theorem dX11_countUp_13 : decode cX11_countUp 13 = .ok (.iload_n 1, 1) := by decide +kernel
theorem dX11_countUp_14 : decode cX11_countUp 14 = .ok (.aaload, 1) := by decide +kernel
theorem dX11_countUp_15 : decode cX11_countUp 15 = .ok (.astore 6, 2) := by decide +kernel
theorem dX11_countUp_17 : decode cX11_countUp 17 = .ok (.aload 6, 2) := by decide +kernel
theorem dX11_countUp_19 : decode cX11_countUp 19 = .ok (.bipush 11, 2) := by decide +kernel
theorem dX11_countUp_21 : decode cX11_countUp 21 = .ok (.iload_n 2, 1) := by decide +kernel
theorem dX11_countUp_22 : decode cX11_countUp 22 = .ok (.invokestatic 149, 3) := by decide +kernel
theorem dX11_countUp_25 : decode cX11_countUp 25 = .ok (.istore 7, 2) := by decide +kernel
theorem dX11_countUp_27 : decode cX11_countUp 27 = .ok (.iload 7, 2) := by decide +kernel
theorem dX11_countUp_29 : decode cX11_countUp 29 = .ok (.ifCond .ne 12, 3) := by decide +kernel
theorem dX11_countUp_32 : decode cX11_countUp 32 = .ok (.aload 6, 2) := by decide +kernel
theorem dX11_countUp_34 : decode cX11_countUp 34 = .ok (.iload_n 2, 1) := by decide +kernel
theorem dX11_countUp_35 : decode cX11_countUp 35 = .ok (.invokestatic 152, 3) := by decide +kernel
theorem dX11_countUp_38 : decode cX11_countUp 38 = .ok (.goto 4, 3) := by decide +kernel
theorem dX11_countUp_41 : decode cX11_countUp 41 = .ok (.aconst_null, 1) := by decide +kernel
theorem dX11_countUp_42 : decode cX11_countUp 42 = .ok (.astore 8, 2) := by decide +kernel
theorem dX11_countUp_44 : decode cX11_countUp 44 = .ok (.iload 7, 2) := by decide +kernel
theorem dX11_countUp_46 : decode cX11_countUp 46 = .ok (.ifCond .ne 15, 3) := by decide +kernel
theorem dX11_countUp_49 : decode cX11_countUp 49 = .ok (.aload 8, 2) := by decide +kernel
theorem dX11_countUp_51 : decode cX11_countUp 51 = .ok (.bipush 9, 2) := by decide +kernel
theorem dX11_countUp_53 : decode cX11_countUp 53 = .ok (.iload_n 3, 1) := by decide +kernel
theorem dX11_countUp_54 : decode cX11_countUp 54 = .ok (.iload 4, 2) := by decide +kernel
theorem dX11_countUp_56 : decode cX11_countUp 56 = .ok (.invokestatic 145, 3) := by decide +kernel
theorem dX11_countUp_59 : decode cX11_countUp 59 = .ok (.istore 7, 2) := by decide +kernel
theorem dX11_countUp_61 : decode cX11_countUp 61 = .ok (.iload 7, 2) := by decide +kernel
theorem dX11_countUp_63 : decode cX11_countUp 63 = .ok (.ifCond .ne 14, 3) := by decide +kernel
theorem dX11_countUp_66 : decode cX11_countUp 66 = .ok (.aload 8, 2) := by decide +kernel
theorem dX11_countUp_68 : decode cX11_countUp 68 = .ok (.bipush 9, 2) := by decide +kernel
theorem dX11_countUp_70 : decode cX11_countUp 70 = .ok (.iload_n 3, 1) := by decide +kernel
theorem dX11_countUp_71 : decode cX11_countUp 71 = .ok (.invokestatic 141, 3) := by decide +kernel
theorem dX11_countUp_74 : decode cX11_countUp 74 = .ok (.goto 4, 3) := by decide +kernel
theorem dX11_countUp_77 : decode cX11_countUp 77 = .ok (.aconst_null, 1) := by decide +kernel
theorem dX11_countUp_78 : decode cX11_countUp 78 = .ok (.astore 9, 2) := by decide +kernel
theorem dX11_countUp_80 : decode cX11_countUp 80 = .ok (.aload 9, 2) := by decide +kernel
theorem dX11_countUp_82 : decode cX11_countUp 82 = .ok (.ifnonnull 12, 3) := by decide +kernel
theorem dX11_countUp_85 : decode cX11_countUp 85 = .ok (.aload_n 0, 1) := by decide +kernel
theorem dX11_countUp_86 : decode cX11_countUp 86 = .ok (.iload 7, 2) := by decide +kernel
theorem dX11_countUp_88 : decode cX11_countUp 88 = .ok (.invokevirtual 87, 3) := by decide +kernel
theorem dX11_countUp_91 : decode cX11_countUp 91 = .ok (.pop, 1) := by decide +kernel
theorem dX11_countUp_92 : decode cX11_countUp 92 = .ok (.iconst 0, 1) := by decide +kernel
theorem dX11_countUp_93 : decode cX11_countUp 93 = .ok (.ireturn, 1) := by decide +kernel
theorem dX11_countUp_94 : decode cX11_countUp 94 = .ok (.aload 9, 2) := by decide +kernel
theorem dX11_countUp_96 : decode cX11_countUp 96 = .ok (.getfield 134, 3) := by decide +kernel
theorem dX11_countUp_99 : decode cX11_countUp 99 = .ok (.iload 4, 2) := by decide +kernel
theorem dX11_countUp_101 : decode cX11_countUp 101 = .ok (.laload, 1) := by decide +kernel
theorem dX11_countUp_102 : decode cX11_countUp 102 = .ok (.l2i, 1) := by decide +kernel
theorem dX11_countUp_103 : decode cX11_countUp 103 = .ok (.istore 10, 2) := by decide +kernel
theorem dX11_countUp_105 : decode cX11_countUp 105 = .ok (.aload 9, 2) := by decide +kernel
theorem dX11_countUp_107 : decode cX11_countUp 107 = .ok (.getfield 134, 3) := by decide +kernel
theorem dX11_countUp_110 : decode cX11_countUp 110 = .ok (.iload 4, 2) := by decide +kernel
theorem dX11_countUp_112 : decode cX11_countUp 112 = .ok (.iload 10, 2) := by decide +kernel
theorem dX11_countUp_114 : decode cX11_countUp 114 = .ok (.iconst 1, 1) := by decide +kernel
theorem dX11_countUp_115 : decode cX11_countUp 115 = .ok (.iadd, 1) := by decide +kernel
theorem dX11_countUp_116 : decode cX11_countUp 116 = .ok (.i2l, 1) := by decide +kernel
theorem dX11_countUp_117 : decode cX11_countUp 117 = .ok (.lastore, 1) := by decide +kernel
theorem dX11_countUp_118 : decode cX11_countUp 118 = .ok (.iload 5, 2) := by decide +kernel
theorem dX11_countUp_120 : decode cX11_countUp 120 = .ok (.ifCond .eq 10, 3) := by decide +kernel
theorem dX11_countUp_123 : decode cX11_countUp 123 = .ok (.iload 10, 2) := by decide +kernel
theorem dX11_countUp_125 : decode cX11_countUp 125 = .ok (.iconst 1, 1) := by decide +kernel
theorem dX11_countUp_126 : decode cX11_countUp 126 = .ok (.iadd, 1) := by decide +kernel
theorem dX11_countUp_127 : decode cX11_countUp 127 = .ok (.goto 5, 3) := by decide +kernel
theorem dX11_countUp_130 : decode cX11_countUp 130 = .ok (.iload 10, 2) := by decide +kernel
theorem dX11_countUp_132 : decode cX11_countUp 132 = .ok (.ireturn, 1) := by decide +kernel
theorem dX11_set_0 : decode cX11_set 0 = .ok (.iload_n 1, 1) := by decide +kernel
theorem dX11_set_1 : decode cX11_set 1 = .ok (.invokestatic 76, 3) := by decide +kernel
theorem dX11_set_4 : decode cX11_set 4 = .ok (.ifCond .eq 10, 3) := by decide +kernel
theorem dX11_set_7 : decode cX11_set 7 = .ok (.iload_n 3, 1) := by decide +kernel
theorem dX11_set_8 : decode cX11_set 8 = .ok (.invokestatic 76, 3) := by decide +kernel
theorem dX11_set_11 : decode cX11_set 11 = .ok (.ifCond .ne 6, 3) := by decide +kernel
theorem dX11_set_14 : decode cX11_set 14 = .ok (.bipush (-2), 2) := by decide +kernel
theorem dX11_set_16 : decode cX11_set 16 = .ok (.ireturn, 1) := by decide +kernel
theorem dX11_set_17 : decode cX11_set 17 = .ok (.aload_n 0, 1) := by decide +kernel
theorem dX11_set_18 : decode cX11_set 18 = .ok (.getfield 20, 3) := by decide +kernel
theorem dX11_set_21 : decode cX11_set 21 = .ok (.iload_n 1, 1) := by decide +kernel
theorem dX11_set_22 : decode cX11_set 22 = .ok (.aaload, 1) := by decide +kernel
theorem dX11_set_23 : decode cX11_set 23 = .ok (.astore 4, 2) := by decide +kernel
theorem dX11_set_25 : decode cX11_set 25 = .ok (.aload 4, 2) := by decide +kernel
theorem dX11_set_27 : decode cX11_set 27 = .ok (.iload_n 2, 1) := by decide +kernel
theorem dX11_set_28 : decode cX11_set 28 = .ok (.invokestatic 156, 3) := by decide +kernel
theorem dX11_set_31 : decode cX11_set 31 = .ok (.istore 5, 2) := by decide +kernel
theorem dX11_set_33 : decode cX11_set 33 = .ok (.iload 5, 2) := by decide +kernel
theorem dX11_set_35 : decode cX11_set 35 = .ok (.ifCond .ne 8, 3) := by decide +kernel
theorem dX11_set_38 : decode cX11_set 38 = .ok (.aload 4, 2) := by decide +kernel
theorem dX11_set_40 : decode cX11_set 40 = .ok (.ifnonnull 10, 3) := by decide +kernel
theorem dX11_set_43 : decode cX11_set 43 = .ok (.aload_n 0, 1) := by decide +kernel
theorem dX11_set_44 : decode cX11_set 44 = .ok (.iload 5, 2) := by decide +kernel
theorem dX11_set_46 : decode cX11_set 46 = .ok (.invokevirtual 87, 3) := by decide +kernel
theorem dX11_set_49 : decode cX11_set 49 = .ok (.ireturn, 1) := by decide +kernel
theorem dX11_set_50 : decode cX11_set 50 = .ok (.aload 4, 2) := by decide +kernel
theorem dX11_set_52 : decode cX11_set 52 = .ok (.getfield 113, 3) := by decide +kernel
theorem dX11_set_55 : decode cX11_set 55 = .ok (.aload_n 0, 1) := by decide +kernel
theorem dX11_set_56 : decode cX11_set 56 = .ok (.getfield 20, 3) := by decide +kernel
theorem dX11_set_59 : decode cX11_set 59 = .ok (.iload_n 3, 1) := by decide +kernel
theorem dX11_set_60 : decode cX11_set 60 = .ok (.aaload, 1) := by decide +kernel
theorem dX11_set_61 : decode cX11_set 61 = .ok (.invokestatic 160, 3) := by decide +kernel
theorem dX11_set_64 : decode cX11_set 64 = .ok (.ifCond .ne 9, 3) := by decide +kernel
theorem dX11_set_67 : decode cX11_set 67 = .ok (.aload_n 0, 1) := by decide +kernel
theorem dX11_set_68 : decode cX11_set 68 = .ok (.iconst 5, 1) := by decide +kernel
theorem dX11_set_69 : decode cX11_set 69 = .ok (.invokevirtual 87, 3) := by decide +kernel
theorem dX11_set_72 : decode cX11_set 72 = .ok (.ireturn, 1) := by decide +kernel
theorem dX11_set_73 : decode cX11_set 73 = .ok (.aload 4, 2) := by decide +kernel
theorem dX11_set_75 : decode cX11_set 75 = .ok (.getfield 101, 3) := by decide +kernel
theorem dX11_set_78 : decode cX11_set 78 = .ok (.iload_n 2, 1) := by decide +kernel
theorem dX11_set_79 : decode cX11_set 79 = .ok (.aload_n 0, 1) := by decide +kernel
theorem dX11_set_80 : decode cX11_set 80 = .ok (.getfield 20, 3) := by decide +kernel
theorem dX11_set_83 : decode cX11_set 83 = .ok (.iload_n 3, 1) := by decide +kernel
theorem dX11_set_84 : decode cX11_set 84 = .ok (.aaload, 1) := by decide +kernel
theorem dX11_set_85 : decode cX11_set 85 = .ok (.aastore, 1) := by decide +kernel
theorem dX11_set_86 : decode cX11_set 86 = .ok (.iconst 1, 1) := by decide +kernel
theorem dX11_set_87 : decode cX11_set 87 = .ok (.ireturn, 1) := by decide +kernel
theorem dX11_lift_0 : decode cX11_lift 0 = .ok (.iload_n 1, 1) := by decide +kernel
theorem dX11_lift_1 : decode cX11_lift 1 = .ok (.invokestatic 76, 3) := by decide +kernel
theorem dX11_lift_4 : decode cX11_lift 4 = .ok (.ifCond .eq 10, 3) := by decide +kernel
theorem dX11_lift_7 : decode cX11_lift 7 = .ok (.iload_n 2, 1) := by decide +kernel
theorem dX11_lift_8 : decode cX11_lift 8 = .ok (.invokestatic 76, 3) := by decide +kernel
theorem dX11_lift_11 : decode cX11_lift 11 = .ok (.ifCond .ne 6, 3) := by decide +kernel
theorem dX11_lift_14 : decode cX11_lift 14 = .ok (.bipush (-2), 2) := by decide +kernel
theorem dX11_lift_16 : decode cX11_lift 16 = .ok (.ireturn, 1) := by decide +kernel
theorem dX11_lift_17 : decode cX11_lift 17 = .ok (.aload_n 0, 1) := by decide +kernel
theorem dX11_lift_18 : decode cX11_lift 18 = .ok (.getfield 20, 3) := by decide +kernel
theorem dX11_lift_21 : decode cX11_lift 21 = .ok (.iload_n 2, 1) := by decide +kernel
theorem dX11_lift_22 : decode cX11_lift 22 = .ok (.aaload, 1) := by decide +kernel
theorem dX11_lift_23 : decode cX11_lift 23 = .ok (.iload_n 3, 1) := by decide +kernel
theorem dX11_lift_24 : decode cX11_lift 24 = .ok (.invokestatic 156, 3) := by decide +kernel
theorem dX11_lift_27 : decode cX11_lift 27 = .ok (.istore 4, 2) := by decide +kernel
theorem dX11_lift_29 : decode cX11_lift 29 = .ok (.iload 4, 2) := by decide +kernel
theorem dX11_lift_31 : decode cX11_lift 31 = .ok (.ifCond .eq 10, 3) := by decide +kernel
theorem dX11_lift_34 : decode cX11_lift 34 = .ok (.aload_n 0, 1) := by decide +kernel
theorem dX11_lift_35 : decode cX11_lift 35 = .ok (.iload 4, 2) := by decide +kernel
theorem dX11_lift_37 : decode cX11_lift 37 = .ok (.invokevirtual 87, 3) := by decide +kernel
theorem dX11_lift_40 : decode cX11_lift 40 = .ok (.ireturn, 1) := by decide +kernel
theorem dX11_lift_41 : decode cX11_lift 41 = .ok (.aload_n 0, 1) := by decide +kernel
theorem dX11_lift_42 : decode cX11_lift 42 = .ok (.getfield 20, 3) := by decide +kernel
theorem dX11_lift_45 : decode cX11_lift 45 = .ok (.iload_n 1, 1) := by decide +kernel
theorem dX11_lift_46 : decode cX11_lift 46 = .ok (.aload_n 0, 1) := by decide +kernel
theorem dX11_lift_47 : decode cX11_lift 47 = .ok (.getfield 20, 3) := by decide +kernel
theorem dX11_lift_50 : decode cX11_lift 50 = .ok (.iload_n 2, 1) := by decide +kernel
theorem dX11_lift_51 : decode cX11_lift 51 = .ok (.aaload, 1) := by decide +kernel
theorem dX11_lift_52 : decode cX11_lift 52 = .ok (.iload_n 3, 1) := by decide +kernel
theorem dX11_lift_53 : decode cX11_lift 53 = .ok (.invokestatic 152, 3) := by decide +kernel
theorem dX11_lift_56 : decode cX11_lift 56 = .ok (.aastore, 1) := by decide +kernel
theorem dX11_lift_57 : decode cX11_lift 57 = .ok (.iconst 1, 1) := by decide +kernel
theorem dX11_lift_58 : decode cX11_lift 58 = .ok (.ireturn, 1) := by decide +kernel
theorem dX11_liftAs_0 : decode cX11_liftAs 0 = .ok (.iload_n 1, 1) := by decide +kernel
theorem dX11_liftAs_1 : decode cX11_liftAs 1 = .ok (.invokestatic 76, 3) := by decide +kernel
theorem dX11_liftAs_4 : decode cX11_liftAs 4 = .ok (.ifCond .eq 18, 3) := by decide +kernel
theorem dX11_liftAs_7 : decode cX11_liftAs 7 = .ok (.iload_n 2, 1) := by decide +kernel
theorem dX11_liftAs_8 : decode cX11_liftAs 8 = .ok (.invokestatic 76, 3) := by decide +kernel
theorem dX11_liftAs_11 : decode cX11_liftAs 11 = .ok (.ifCond .eq 11, 3) := by decide +kernel
theorem dX11_liftAs_14 : decode cX11_liftAs 14 = .ok (.iload 4, 2) := by decide +kernel
theorem dX11_liftAs_16 : decode cX11_liftAs 16 = .ok (.invokestatic 117, 3) := by decide +kernel
theorem dX11_liftAs_19 : decode cX11_liftAs 19 = .ok (.ifCond .ne 6, 3) := by decide +kernel
theorem dX11_liftAs_22 : decode cX11_liftAs 22 = .ok (.bipush (-2), 2) := by decide +kernel
theorem dX11_liftAs_24 : decode cX11_liftAs 24 = .ok (.ireturn, 1) := by decide +kernel
theorem dX11_liftAs_25 : decode cX11_liftAs 25 = .ok (.aload_n 0, 1) := by decide +kernel
theorem dX11_liftAs_26 : decode cX11_liftAs 26 = .ok (.getfield 20, 3) := by decide +kernel
theorem dX11_liftAs_29 : decode cX11_liftAs 29 = .ok (.iload_n 2, 1) := by decide +kernel
theorem dX11_liftAs_30 : decode cX11_liftAs 30 = .ok (.aaload, 1) := by decide +kernel
theorem dX11_liftAs_31 : decode cX11_liftAs 31 = .ok (.iload_n 3, 1) := by decide +kernel
theorem dX11_liftAs_32 : decode cX11_liftAs 32 = .ok (.invokestatic 156, 3) := by decide +kernel
theorem dX11_liftAs_35 : decode cX11_liftAs 35 = .ok (.istore 5, 2) := by decide +kernel
theorem dX11_liftAs_37 : decode cX11_liftAs 37 = .ok (.iload 5, 2) := by decide +kernel
theorem dX11_liftAs_39 : decode cX11_liftAs 39 = .ok (.ifCond .eq 10, 3) := by decide +kernel
theorem dX11_liftAs_42 : decode cX11_liftAs 42 = .ok (.aload_n 0, 1) := by decide +kernel
theorem dX11_liftAs_43 : decode cX11_liftAs 43 = .ok (.iload 5, 2) := by decide +kernel
theorem dX11_liftAs_45 : decode cX11_liftAs 45 = .ok (.invokevirtual 87, 3) := by decide +kernel
theorem dX11_liftAs_48 : decode cX11_liftAs 48 = .ok (.ireturn, 1) := by decide +kernel
theorem dX11_liftAs_49 : decode cX11_liftAs 49 = .ok (.aload_n 0, 1) := by decide +kernel
theorem dX11_liftAs_50 : decode cX11_liftAs 50 = .ok (.getfield 20, 3) := by decide +kernel
theorem dX11_liftAs_53 : decode cX11_liftAs 53 = .ok (.iload_n 2, 1) := by decide +kernel
theorem dX11_liftAs_54 : decode cX11_liftAs 54 = .ok (.aaload, 1) := by decide +kernel
theorem dX11_liftAs_55 : decode cX11_liftAs 55 = .ok (.iload_n 3, 1) := by decide +kernel
theorem dX11_liftAs_56 : decode cX11_liftAs 56 = .ok (.invokestatic 152, 3) := by decide +kernel
theorem dX11_liftAs_59 : decode cX11_liftAs 59 = .ok (.astore 6, 2) := by decide +kernel
theorem dX11_liftAs_61 : decode cX11_liftAs 61 = .ok (.aload 6, 2) := by decide +kernel
theorem dX11_liftAs_63 : decode cX11_liftAs 63 = .ok (.iload 4, 2) := by decide +kernel
theorem dX11_liftAs_65 : decode cX11_liftAs 65 = .ok (.invokestatic 164, 3) := by decide +kernel
theorem dX11_liftAs_68 : decode cX11_liftAs 68 = .ok (.ifCond .ne 9, 3) := by decide +kernel
theorem dX11_liftAs_71 : decode cX11_liftAs 71 = .ok (.aload_n 0, 1) := by decide +kernel
theorem dX11_liftAs_72 : decode cX11_liftAs 72 = .ok (.iconst 4, 1) := by decide +kernel
theorem dX11_liftAs_73 : decode cX11_liftAs 73 = .ok (.invokevirtual 87, 3) := by decide +kernel
theorem dX11_liftAs_76 : decode cX11_liftAs 76 = .ok (.ireturn, 1) := by decide +kernel
theorem dX11_liftAs_77 : decode cX11_liftAs 77 = .ok (.aload_n 0, 1) := by decide +kernel
theorem dX11_liftAs_78 : decode cX11_liftAs 78 = .ok (.getfield 20, 3) := by decide +kernel
theorem dX11_liftAs_81 : decode cX11_liftAs 81 = .ok (.iload_n 1, 1) := by decide +kernel
theorem dX11_liftAs_82 : decode cX11_liftAs 82 = .ok (.aload 6, 2) := by decide +kernel
theorem dX11_liftAs_84 : decode cX11_liftAs 84 = .ok (.aastore, 1) := by decide +kernel
theorem dX11_liftAs_85 : decode cX11_liftAs 85 = .ok (.iconst 1, 1) := by decide +kernel
theorem dX11_liftAs_86 : decode cX11_liftAs 86 = .ok (.ireturn, 1) := by decide +kernel
theorem dX11_shift_0 : decode cX11_shift 0 = .ok (.iload_n 1, 1) := by decide +kernel
theorem dX11_shift_1 : decode cX11_shift 1 = .ok (.invokestatic 76, 3) := by decide +kernel
theorem dX11_shift_4 : decode cX11_shift 4 = .ok (.ifCond .eq 10, 3) := by decide +kernel
theorem dX11_shift_7 : decode cX11_shift 7 = .ok (.iload_n 3, 1) := by decide +kernel
theorem dX11_shift_8 : decode cX11_shift 8 = .ok (.invokestatic 76, 3) := by decide +kernel
theorem dX11_shift_11 : decode cX11_shift 11 = .ok (.ifCond .ne 6, 3) := by decide +kernel
theorem dX11_shift_14 : decode cX11_shift 14 = .ok (.bipush (-2), 2) := by decide +kernel
theorem dX11_shift_16 : decode cX11_shift 16 = .ok (.ireturn, 1) := by decide +kernel
theorem dX11_shift_17 : decode cX11_shift 17 = .ok (.aload_n 0, 1) := by decide +kernel
theorem dX11_shift_18 : decode cX11_shift 18 = .ok (.iconst 0, 1) := by decide +kernel
theorem dX11_shift_19 : decode cX11_shift 19 = .ok (.putfield 168, 3) := by decide +kernel
theorem dX11_shift_22 : decode cX11_shift 22 = .ok (.aload_n 0, 1) := by decide +kernel
theorem dX11_shift_23 : decode cX11_shift 23 = .ok (.getfield 20, 3) := by decide +kernel
theorem dX11_shift_26 : decode cX11_shift 26 = .ok (.iload_n 1, 1) := by decide +kernel
theorem dX11_shift_27 : decode cX11_shift 27 = .ok (.aaload, 1) := by decide +kernel
theorem dX11_shift_28 : decode cX11_shift 28 = .ok (.astore 6, 2) := by decide +kernel
theorem dX11_shift_30 : decode cX11_shift 30 = .ok (.aload_n 0, 1) := by decide +kernel
theorem dX11_shift_31 : decode cX11_shift 31 = .ok (.getfield 20, 3) := by decide +kernel
theorem dX11_shift_34 : decode cX11_shift 34 = .ok (.iload_n 3, 1) := by decide +kernel
theorem dX11_shift_35 : decode cX11_shift 35 = .ok (.aaload, 1) := by decide +kernel
theorem dX11_shift_36 : decode cX11_shift 36 = .ok (.astore 7, 2) := by decide +kernel
theorem dX11_shift_38 : decode cX11_shift 38 = .ok (.aload 6, 2) := by decide +kernel
theorem dX11_shift_40 : decode cX11_shift 40 = .ok (.ifnull 8, 3) := by decide +kernel
theorem dX11_shift_43 : decode cX11_shift 43 = .ok (.aload 7, 2) := by decide +kernel
theorem dX11_shift_45 : decode cX11_shift 45 = .ok (.ifnonnull 9, 3) := by decide +kernel
theorem dX11_shift_48 : decode cX11_shift 48 = .ok (.aload_n 0, 1) := by decide +kernel
theorem dX11_shift_49 : decode cX11_shift 49 = .ok (.iconst 1, 1) := by decide +kernel
theorem dX11_shift_50 : decode cX11_shift 50 = .ok (.invokevirtual 87, 3) := by decide +kernel
theorem dX11_shift_53 : decode cX11_shift 53 = .ok (.ireturn, 1) := by decide +kernel
theorem dX11_shift_54 : decode cX11_shift 54 = .ok (.aload 6, 2) := by decide +kernel
theorem dX11_shift_56 : decode cX11_shift 56 = .ok (.aload 7, 2) := by decide +kernel
theorem dX11_shift_58 : decode cX11_shift 58 = .ok (.invokestatic 171, 3) := by decide +kernel
theorem dX11_shift_61 : decode cX11_shift 61 = .ok (.ifCond .ne 9, 3) := by decide +kernel
theorem dX11_shift_64 : decode cX11_shift 64 = .ok (.aload_n 0, 1) := by decide +kernel
theorem dX11_shift_65 : decode cX11_shift 65 = .ok (.iconst 5, 1) := by decide +kernel
theorem dX11_shift_66 : decode cX11_shift 66 = .ok (.invokevirtual 87, 3) := by decide +kernel
theorem dX11_shift_69 : decode cX11_shift 69 = .ok (.ireturn, 1) := by decide +kernel
theorem dX11_shift_70 : decode cX11_shift 70 = .ok (.aload 6, 2) := by decide +kernel
theorem dX11_shift_72 : decode cX11_shift 72 = .ok (.invokevirtual 175, 3) := by decide +kernel
theorem dX11_shift_75 : decode cX11_shift 75 = .ok (.iload_n 2, 1) := by decide +kernel
theorem dX11_shift_76 : decode cX11_shift 76 = .ok (.iload 5, 2) := by decide +kernel
theorem dX11_shift_78 : decode cX11_shift 78 = .ok (.invokestatic 179, 3) := by decide +kernel
theorem dX11_shift_81 : decode cX11_shift 81 = .ok (.ifCond .eq 18, 3) := by decide +kernel
theorem dX11_shift_84 : decode cX11_shift 84 = .ok (.aload 7, 2) := by decide +kernel
theorem dX11_shift_86 : decode cX11_shift 86 = .ok (.invokevirtual 175, 3) := by decide +kernel
theorem dX11_shift_89 : decode cX11_shift 89 = .ok (.iload 4, 2) := by decide +kernel
theorem dX11_shift_91 : decode cX11_shift 91 = .ok (.iload 5, 2) := by decide +kernel
theorem dX11_shift_93 : decode cX11_shift 93 = .ok (.invokestatic 179, 3) := by decide +kernel
theorem dX11_shift_96 : decode cX11_shift 96 = .ok (.ifCond .ne 9, 3) := by decide +kernel
theorem dX11_shift_99 : decode cX11_shift 99 = .ok (.aload_n 0, 1) := by decide +kernel
theorem dX11_shift_100 : decode cX11_shift 100 = .ok (.iconst 2, 1) := by decide +kernel
theorem dX11_shift_101 : decode cX11_shift 101 = .ok (.invokevirtual 87, 3) := by decide +kernel
theorem dX11_shift_104 : decode cX11_shift 104 = .ok (.ireturn, 1) := by decide +kernel
theorem dX11_shift_105 : decode cX11_shift 105 = .ok (.aload 6, 2) := by decide +kernel
theorem dX11_shift_107 : decode cX11_shift 107 = .ok (.invokestatic 183, 3) := by decide +kernel
theorem dX11_shift_110 : decode cX11_shift 110 = .ok (.ifCond .eq 24, 3) := by decide +kernel
theorem dX11_shift_113 : decode cX11_shift 113 = .ok (.aload 6, 2) := by decide +kernel
theorem dX11_shift_115 : decode cX11_shift 115 = .ok (.iload_n 2, 1) := by decide +kernel
theorem dX11_shift_116 : decode cX11_shift 116 = .ok (.aload 7, 2) := by decide +kernel
theorem dX11_shift_118 : decode cX11_shift 118 = .ok (.iload 4, 2) := by decide +kernel
theorem dX11_shift_120 : decode cX11_shift 120 = .ok (.iload 5, 2) := by decide +kernel
theorem dX11_shift_122 : decode cX11_shift 122 = .ok (.invokestatic 187, 3) := by decide +kernel
theorem dX11_shift_125 : decode cX11_shift 125 = .ok (.aload_n 0, 1) := by decide +kernel
theorem dX11_shift_126 : decode cX11_shift 126 = .ok (.iload 5, 2) := by decide +kernel
theorem dX11_shift_128 : decode cX11_shift 128 = .ok (.putfield 168, 3) := by decide +kernel
theorem dX11_shift_131 : decode cX11_shift 131 = .ok (.iload 5, 2) := by decide +kernel
theorem dX11_shift_133 : decode cX11_shift 133 = .ok (.ireturn, 1) := by decide +kernel
theorem dX11_shift_134 : decode cX11_shift 134 = .ok (.aload_n 0, 1) := by decide +kernel
theorem dX11_shift_135 : decode cX11_shift 135 = .ok (.aload 6, 2) := by decide +kernel
theorem dX11_shift_137 : decode cX11_shift 137 = .ok (.iload_n 2, 1) := by decide +kernel
theorem dX11_shift_138 : decode cX11_shift 138 = .ok (.aload 7, 2) := by decide +kernel
theorem dX11_shift_140 : decode cX11_shift 140 = .ok (.iload 5, 2) := by decide +kernel
theorem dX11_shift_142 : decode cX11_shift 142 = .ok (.invokestatic 191, 3) := by decide +kernel
theorem dX11_shift_145 : decode cX11_shift 145 = .ok (.putfield 168, 3) := by decide +kernel
theorem dX11_shift_148 : decode cX11_shift 148 = .ok (.aload 6, 2) := by decide +kernel
theorem dX11_shift_150 : decode cX11_shift 150 = .ok (.iload_n 2, 1) := by decide +kernel
theorem dX11_shift_151 : decode cX11_shift 151 = .ok (.aload 7, 2) := by decide +kernel
theorem dX11_shift_153 : decode cX11_shift 153 = .ok (.iload 4, 2) := by decide +kernel
theorem dX11_shift_155 : decode cX11_shift 155 = .ok (.aload_n 0, 1) := by decide +kernel
theorem dX11_shift_156 : decode cX11_shift 156 = .ok (.getfield 168, 3) := by decide +kernel
theorem dX11_shift_159 : decode cX11_shift 159 = .ok (.invokestatic 195, 3) := by decide +kernel
theorem dX11_shift_162 : decode cX11_shift 162 = .ok (.aload_n 0, 1) := by decide +kernel
theorem dX11_shift_163 : decode cX11_shift 163 = .ok (.getfield 168, 3) := by decide +kernel
theorem dX11_shift_166 : decode cX11_shift 166 = .ok (.iload 5, 2) := by decide +kernel
theorem dX11_shift_168 : decode cX11_shift 168 = .ok (.if_icmp .ne 8, 3) := by decide +kernel
theorem dX11_shift_171 : decode cX11_shift 171 = .ok (.iload 5, 2) := by decide +kernel
theorem dX11_shift_173 : decode cX11_shift 173 = .ok (.goto 8, 3) := by decide +kernel
theorem dX11_shift_176 : decode cX11_shift 176 = .ok (.aload_n 0, 1) := by decide +kernel
theorem dX11_shift_177 : decode cX11_shift 177 = .ok (.iconst 5, 1) := by decide +kernel
theorem dX11_shift_178 : decode cX11_shift 178 = .ok (.invokevirtual 87, 3) := by decide +kernel
theorem dX11_shift_181 : decode cX11_shift 181 = .ok (.ireturn, 1) := by decide +kernel
theorem dX11_came_0 : decode cX11_came 0 = .ok (.aload_n 0, 1) := by decide +kernel
theorem dX11_came_1 : decode cX11_came 1 = .ok (.getfield 168, 3) := by decide +kernel
theorem dX11_came_4 : decode cX11_came 4 = .ok (.ireturn, 1) := by decide +kernel
theorem dX11_copy_0 : decode cX11_copy 0 = .ok (.iload_n 1, 1) := by decide +kernel
theorem dX11_copy_1 : decode cX11_copy 1 = .ok (.invokestatic 76, 3) := by decide +kernel
theorem dX11_copy_4 : decode cX11_copy 4 = .ok (.ifCond .eq 10, 3) := by decide +kernel
theorem dX11_copy_7 : decode cX11_copy 7 = .ok (.iload_n 2, 1) := by decide +kernel
theorem dX11_copy_8 : decode cX11_copy 8 = .ok (.invokestatic 76, 3) := by decide +kernel
theorem dX11_copy_11 : decode cX11_copy 11 = .ok (.ifCond .ne 6, 3) := by decide +kernel
theorem dX11_copy_14 : decode cX11_copy 14 = .ok (.bipush (-2), 2) := by decide +kernel
theorem dX11_copy_16 : decode cX11_copy 16 = .ok (.ireturn, 1) := by decide +kernel
theorem dX11_copy_17 : decode cX11_copy 17 = .ok (.aload_n 0, 1) := by decide +kernel
theorem dX11_copy_18 : decode cX11_copy 18 = .ok (.invokevirtual 83, 3) := by decide +kernel
theorem dX11_copy_21 : decode cX11_copy 21 = .ok (.ifCond .eq 6, 3) := by decide +kernel
theorem dX11_copy_24 : decode cX11_copy 24 = .ok (.bipush (-4), 2) := by decide +kernel
theorem dX11_copy_26 : decode cX11_copy 26 = .ok (.ireturn, 1) := by decide +kernel
theorem dX11_copy_27 : decode cX11_copy 27 = .ok (.aload_n 0, 1) := by decide +kernel
theorem dX11_copy_28 : decode cX11_copy 28 = .ok (.getfield 20, 3) := by decide +kernel
theorem dX11_copy_31 : decode cX11_copy 31 = .ok (.iload_n 1, 1) := by decide +kernel
theorem dX11_copy_32 : decode cX11_copy 32 = .ok (.aload_n 0, 1) := by decide +kernel
theorem dX11_copy_33 : decode cX11_copy 33 = .ok (.aload_n 0, 1) := by decide +kernel
theorem dX11_copy_34 : decode cX11_copy 34 = .ok (.getfield 20, 3) := by decide +kernel
theorem dX11_copy_37 : decode cX11_copy 37 = .ok (.iload_n 2, 1) := by decide +kernel
theorem dX11_copy_38 : decode cX11_copy 38 = .ok (.aaload, 1) := by decide +kernel
theorem dX11_copy_39 : decode cX11_copy 39 = .ok (.iload_n 3, 1) := by decide +kernel
theorem dX11_copy_40 : decode cX11_copy 40 = .ok (.iconst 0, 1) := by decide +kernel
theorem dX11_copy_41 : decode cX11_copy 41 = .ok (.invokevirtual 198, 3) := by decide +kernel
theorem dX11_copy_44 : decode cX11_copy 44 = .ok (.aastore, 1) := by decide +kernel
theorem dX11_copy_45 : decode cX11_copy 45 = .ok (.iconst 1, 1) := by decide +kernel
theorem dX11_copy_46 : decode cX11_copy 46 = .ok (.ireturn, 1) := by decide +kernel
theorem dX11_alike_0 : decode cX11_alike 0 = .ok (.iload_n 1, 1) := by decide +kernel
theorem dX11_alike_1 : decode cX11_alike 1 = .ok (.invokestatic 76, 3) := by decide +kernel
theorem dX11_alike_4 : decode cX11_alike 4 = .ok (.ifCond .eq 10, 3) := by decide +kernel
theorem dX11_alike_7 : decode cX11_alike 7 = .ok (.iload_n 2, 1) := by decide +kernel
theorem dX11_alike_8 : decode cX11_alike 8 = .ok (.invokestatic 76, 3) := by decide +kernel
theorem dX11_alike_11 : decode cX11_alike 11 = .ok (.ifCond .ne 6, 3) := by decide +kernel
theorem dX11_alike_14 : decode cX11_alike 14 = .ok (.bipush (-2), 2) := by decide +kernel
theorem dX11_alike_16 : decode cX11_alike 16 = .ok (.ireturn, 1) := by decide +kernel
theorem dX11_alike_17 : decode cX11_alike 17 = .ok (.aload_n 0, 1) := by decide +kernel
theorem dX11_alike_18 : decode cX11_alike 18 = .ok (.getfield 20, 3) := by decide +kernel
theorem dX11_alike_21 : decode cX11_alike 21 = .ok (.iload_n 1, 1) := by decide +kernel
theorem dX11_alike_22 : decode cX11_alike 22 = .ok (.aaload, 1) := by decide +kernel
theorem dX11_alike_23 : decode cX11_alike 23 = .ok (.aload_n 0, 1) := by decide +kernel
theorem dX11_alike_24 : decode cX11_alike 24 = .ok (.getfield 20, 3) := by decide +kernel
theorem dX11_alike_27 : decode cX11_alike 27 = .ok (.iload_n 2, 1) := by decide +kernel
theorem dX11_alike_28 : decode cX11_alike 28 = .ok (.aaload, 1) := by decide +kernel
theorem dX11_alike_29 : decode cX11_alike 29 = .ok (.if_acmp .ne 5, 3) := by decide +kernel
theorem dX11_alike_32 : decode cX11_alike 32 = .ok (.iconst 2, 1) := by decide +kernel
theorem dX11_alike_33 : decode cX11_alike 33 = .ok (.ireturn, 1) := by decide +kernel
theorem dX11_alike_34 : decode cX11_alike 34 = .ok (.aload_n 0, 1) := by decide +kernel
theorem dX11_alike_35 : decode cX11_alike 35 = .ok (.getfield 20, 3) := by decide +kernel
theorem dX11_alike_38 : decode cX11_alike 38 = .ok (.iload_n 1, 1) := by decide +kernel
theorem dX11_alike_39 : decode cX11_alike 39 = .ok (.aaload, 1) := by decide +kernel
theorem dX11_alike_40 : decode cX11_alike 40 = .ok (.aload_n 0, 1) := by decide +kernel
theorem dX11_alike_41 : decode cX11_alike 41 = .ok (.getfield 20, 3) := by decide +kernel
theorem dX11_alike_44 : decode cX11_alike 44 = .ok (.iload_n 2, 1) := by decide +kernel
theorem dX11_alike_45 : decode cX11_alike 45 = .ok (.aaload, 1) := by decide +kernel
theorem dX11_alike_46 : decode cX11_alike 46 = .ok (.iconst 0, 1) := by decide +kernel
theorem dX11_alike_47 : decode cX11_alike 47 = .ok (.invokestatic 202, 3) := by decide +kernel
theorem dX11_alike_50 : decode cX11_alike 50 = .ok (.ifCond .eq 7, 3) := by decide +kernel
theorem dX11_alike_53 : decode cX11_alike 53 = .ok (.iconst 1, 1) := by decide +kernel
theorem dX11_alike_54 : decode cX11_alike 54 = .ok (.goto 4, 3) := by decide +kernel
theorem dX11_alike_57 : decode cX11_alike 57 = .ok (.iconst 0, 1) := by decide +kernel
theorem dX11_alike_58 : decode cX11_alike 58 = .ok (.ireturn, 1) := by decide +kernel
theorem dX11_size_0 : decode cX11_size 0 = .ok (.iload_n 1, 1) := by decide +kernel
theorem dX11_size_1 : decode cX11_size 1 = .ok (.invokestatic 76, 3) := by decide +kernel
theorem dX11_size_4 : decode cX11_size 4 = .ok (.ifCond .eq 12, 3) := by decide +kernel
theorem dX11_size_7 : decode cX11_size 7 = .ok (.iload_n 2, 1) := by decide +kernel
theorem dX11_size_8 : decode cX11_size 8 = .ok (.ifCond .lt 8, 3) := by decide +kernel
theorem dX11_size_11 : decode cX11_size 11 = .ok (.iload_n 2, 1) := by decide +kernel
theorem dX11_size_12 : decode cX11_size 12 = .ok (.iconst 1, 1) := by decide +kernel
theorem dX11_size_13 : decode cX11_size 13 = .ok (.if_icmp .le 6, 3) := by decide +kernel
theorem dX11_size_16 : decode cX11_size 16 = .ok (.bipush (-2), 2) := by decide +kernel
theorem dX11_size_18 : decode cX11_size 18 = .ok (.ireturn, 1) := by decide +kernel
theorem dX11_size_19 : decode cX11_size 19 = .ok (.aload_n 0, 1) := by decide +kernel
theorem dX11_size_20 : decode cX11_size 20 = .ok (.getfield 20, 3) := by decide +kernel
theorem dX11_size_23 : decode cX11_size 23 = .ok (.iload_n 1, 1) := by decide +kernel
theorem dX11_size_24 : decode cX11_size 24 = .ok (.aaload, 1) := by decide +kernel
theorem dX11_size_25 : decode cX11_size 25 = .ok (.astore_n 3, 1) := by decide +kernel
theorem dX11_size_26 : decode cX11_size 26 = .ok (.aload_n 3, 1) := by decide +kernel
theorem dX11_size_27 : decode cX11_size 27 = .ok (.ifnonnull 9, 3) := by decide +kernel
theorem dX11_size_30 : decode cX11_size 30 = .ok (.aload_n 0, 1) := by decide +kernel
theorem dX11_size_31 : decode cX11_size 31 = .ok (.iconst 1, 1) := by decide +kernel
theorem dX11_size_32 : decode cX11_size 32 = .ok (.invokevirtual 87, 3) := by decide +kernel
theorem dX11_size_35 : decode cX11_size 35 = .ok (.ireturn, 1) := by decide +kernel
theorem dX11_size_36 : decode cX11_size 36 = .ok (.aload_n 3, 1) := by decide +kernel
theorem dX11_size_37 : decode cX11_size 37 = .ok (.invokestatic 183, 3) := by decide +kernel
theorem dX11_size_40 : decode cX11_size 40 = .ok (.ifCond .ne 19, 3) := by decide +kernel
theorem dX11_size_43 : decode cX11_size 43 = .ok (.aload_n 3, 1) := by decide +kernel
theorem dX11_size_44 : decode cX11_size 44 = .ok (.getfield 113, 3) := by decide +kernel
theorem dX11_size_47 : decode cX11_size 47 = .ok (.invokestatic 206, 3) := by decide +kernel
theorem dX11_size_50 : decode cX11_size 50 = .ok (.ifCond .ne 9, 3) := by decide +kernel
theorem dX11_size_53 : decode cX11_size 53 = .ok (.aload_n 0, 1) := by decide +kernel
theorem dX11_size_54 : decode cX11_size 54 = .ok (.iconst 4, 1) := by decide +kernel
theorem dX11_size_55 : decode cX11_size 55 = .ok (.invokevirtual 87, 3) := by decide +kernel
theorem dX11_size_58 : decode cX11_size 58 = .ok (.ireturn, 1) := by decide +kernel
theorem dX11_size_59 : decode cX11_size 59 = .ok (.iload_n 2, 1) := by decide +kernel
theorem dX11_size_60 : decode cX11_size 60 = .ok (.ifCond .ne 10, 3) := by decide +kernel
theorem dX11_size_63 : decode cX11_size 63 = .ok (.aload_n 3, 1) := by decide +kernel
theorem dX11_size_64 : decode cX11_size 64 = .ok (.invokevirtual 175, 3) := by decide +kernel
theorem dX11_size_67 : decode cX11_size 67 = .ok (.goto 7, 3) := by decide +kernel
theorem dX11_size_70 : decode cX11_size 70 = .ok (.aload_n 3, 1) := by decide +kernel
theorem dX11_size_71 : decode cX11_size 71 = .ok (.invokevirtual 209, 3) := by decide +kernel
theorem dX11_size_74 : decode cX11_size 74 = .ok (.ireturn, 1) := by decide +kernel
theorem dX11_plant_0 : decode cX11_plant 0 = .ok (.iload_n 1, 1) := by decide +kernel
theorem dX11_plant_1 : decode cX11_plant 1 = .ok (.invokestatic 76, 3) := by decide +kernel
theorem dX11_plant_4 : decode cX11_plant 4 = .ok (.ifCond .eq 12, 3) := by decide +kernel
theorem dX11_plant_7 : decode cX11_plant 7 = .ok (.iload_n 2, 1) := by decide +kernel
theorem dX11_plant_8 : decode cX11_plant 8 = .ok (.ifCond .lt 8, 3) := by decide +kernel
theorem dX11_plant_11 : decode cX11_plant 11 = .ok (.iload_n 2, 1) := by decide +kernel
theorem dX11_plant_12 : decode cX11_plant 12 = .ok (.iconst 5, 1) := by decide +kernel
theorem dX11_plant_13 : decode cX11_plant 13 = .ok (.if_icmp .le 6, 3) := by decide +kernel
theorem dX11_plant_16 : decode cX11_plant 16 = .ok (.bipush (-2), 2) := by decide +kernel
theorem dX11_plant_18 : decode cX11_plant 18 = .ok (.ireturn, 1) := by decide +kernel
theorem dX11_plant_19 : decode cX11_plant 19 = .ok (.iload_n 2, 1) := by decide +kernel
theorem dX11_plant_20 : decode cX11_plant 20 = .ok (.iconst 2, 1) := by decide +kernel
theorem dX11_plant_21 : decode cX11_plant 21 = .ok (.if_icmp .ne 22, 3) := by decide +kernel
theorem dX11_plant_24 : decode cX11_plant 24 = .ok (.iload 5, 2) := by decide +kernel
theorem dX11_plant_26 : decode cX11_plant 26 = .ok (.invokestatic 76, 3) := by decide +kernel
theorem dX11_plant_29 : decode cX11_plant 29 = .ok (.ifCond .eq 11, 3) := by decide +kernel
theorem dX11_plant_32 : decode cX11_plant 32 = .ok (.iload 6, 2) := by decide +kernel
theorem dX11_plant_34 : decode cX11_plant 34 = .ok (.invokestatic 76, 3) := by decide +kernel
theorem dX11_plant_37 : decode cX11_plant 37 = .ok (.ifCond .ne 6, 3) := by decide +kernel
theorem dX11_plant_40 : decode cX11_plant 40 = .ok (.bipush (-2), 2) := by decide +kernel
theorem dX11_plant_42 : decode cX11_plant 42 = .ok (.ireturn, 1) := by decide +kernel
theorem dX11_plant_43 : decode cX11_plant 43 = .ok (.aload_n 0, 1) := by decide +kernel
theorem dX11_plant_44 : decode cX11_plant 44 = .ok (.invokevirtual 83, 3) := by decide +kernel
theorem dX11_plant_47 : decode cX11_plant 47 = .ok (.ifCond .eq 6, 3) := by decide +kernel
theorem dX11_plant_50 : decode cX11_plant 50 = .ok (.bipush (-4), 2) := by decide +kernel
theorem dX11_plant_52 : decode cX11_plant 52 = .ok (.ireturn, 1) := by decide +kernel
theorem dX11_plant_53 : decode cX11_plant 53 = .ok (.new 102, 3) := by decide +kernel
theorem dX11_plant_56 : decode cX11_plant 56 = .ok (.dup, 1) := by decide +kernel
theorem dX11_plant_57 : decode cX11_plant 57 = .ok (.bipush 16, 2) := by decide +kernel
theorem dX11_plant_59 : decode cX11_plant 59 = .ok (.getstatic 212, 3) := by decide +kernel
theorem dX11_plant_62 : decode cX11_plant 62 = .ok (.iload_n 2, 1) := by decide +kernel
theorem dX11_plant_63 : decode cX11_plant 63 = .ok (.iconst 2, 1) := by decide +kernel
theorem dX11_plant_64 : decode cX11_plant 64 = .ok (.if_icmp .ne 7, 3) := by decide +kernel
theorem dX11_plant_67 : decode cX11_plant 67 = .ok (.iconst 2, 1) := by decide +kernel
theorem dX11_plant_68 : decode cX11_plant 68 = .ok (.goto 4, 3) := by decide +kernel
theorem dX11_plant_71 : decode cX11_plant 71 = .ok (.iconst 0, 1) := by decide +kernel
theorem dX11_plant_72 : decode cX11_plant 72 = .ok (.anewarray 102, 3) := by decide +kernel
theorem dX11_plant_75 : decode cX11_plant 75 = .ok (.invokespecial 215, 3) := by decide +kernel
theorem dX11_plant_78 : decode cX11_plant 78 = .ok (.astore 7, 2) := by decide +kernel
theorem dX11_plant_80 : decode cX11_plant 80 = .ok (.iload_n 2, 1) := by decide +kernel
theorem dX11_plant_81 : decode cX11_plant 81 = .ok (.iconst 2, 1) := by decide +kernel
theorem dX11_plant_82 : decode cX11_plant 82 = .ok (.if_icmp .ne 125, 3) := by decide +kernel
theorem dX11_plant_85 : decode cX11_plant 85 = .ok (.iload 5, 2) := by decide +kernel
theorem dX11_plant_87 : decode cX11_plant 87 = .ok (.invokestatic 76, 3) := by decide +kernel
theorem dX11_plant_90 : decode cX11_plant 90 = .ok (.ifCond .eq 117, 3) := by decide +kernel
theorem dX11_plant_93 : decode cX11_plant 93 = .ok (.iload 6, 2) := by decide +kernel
theorem dX11_plant_95 : decode cX11_plant 95 = .ok (.invokestatic 76, 3) := by decide +kernel
theorem dX11_plant_98 : decode cX11_plant 98 = .ok (.ifCond .eq 109, 3) := by decide +kernel
theorem dX11_plant_101 : decode cX11_plant 101 = .ok (.aload_n 0, 1) := by decide +kernel
theorem dX11_plant_102 : decode cX11_plant 102 = .ok (.getfield 20, 3) := by decide +kernel
theorem dX11_plant_105 : decode cX11_plant 105 = .ok (.iload 5, 2) := by decide +kernel
theorem dX11_plant_107 : decode cX11_plant 107 = .ok (.aaload, 1) := by decide +kernel
theorem dX11_plant_108 : decode cX11_plant 108 = .ok (.bipush 16, 2) := by decide +kernel
theorem dX11_plant_110 : decode cX11_plant 110 = .ok (.invokestatic 164, 3) := by decide +kernel
theorem dX11_plant_113 : decode cX11_plant 113 = .ok (.ifCond .eq 18, 3) := by decide +kernel
theorem dX11_plant_116 : decode cX11_plant 116 = .ok (.aload_n 0, 1) := by decide +kernel
theorem dX11_plant_117 : decode cX11_plant 117 = .ok (.getfield 20, 3) := by decide +kernel
theorem dX11_plant_120 : decode cX11_plant 120 = .ok (.iload 6, 2) := by decide +kernel
theorem dX11_plant_122 : decode cX11_plant 122 = .ok (.aaload, 1) := by decide +kernel
theorem dX11_plant_123 : decode cX11_plant 123 = .ok (.bipush 16, 2) := by decide +kernel
theorem dX11_plant_125 : decode cX11_plant 125 = .ok (.invokestatic 164, 3) := by decide +kernel
theorem dX11_plant_128 : decode cX11_plant 128 = .ok (.ifCond .ne 9, 3) := by decide +kernel
theorem dX11_plant_131 : decode cX11_plant 131 = .ok (.aload_n 0, 1) := by decide +kernel
theorem dX11_plant_132 : decode cX11_plant 132 = .ok (.iconst 4, 1) := by decide +kernel
theorem dX11_plant_133 : decode cX11_plant 133 = .ok (.invokevirtual 87, 3) := by decide +kernel
theorem dX11_plant_136 : decode cX11_plant 136 = .ok (.ireturn, 1) := by decide +kernel
theorem dX11_plant_137 : decode cX11_plant 137 = .ok (.aload 7, 2) := by decide +kernel
theorem dX11_plant_139 : decode cX11_plant 139 = .ok (.iconst 1, 1) := by decide +kernel
theorem dX11_plant_140 : decode cX11_plant 140 = .ok (.aload_n 0, 1) := by decide +kernel
theorem dX11_plant_141 : decode cX11_plant 141 = .ok (.getfield 20, 3) := by decide +kernel
theorem dX11_plant_144 : decode cX11_plant 144 = .ok (.iload 5, 2) := by decide +kernel
theorem dX11_plant_146 : decode cX11_plant 146 = .ok (.aaload, 1) := by decide +kernel
theorem dX11_plant_147 : decode cX11_plant 147 = .ok (.invokestatic 218, 3) := by decide +kernel
theorem dX11_plant_150 : decode cX11_plant 150 = .ok (.aload_n 0, 1) := by decide +kernel
theorem dX11_plant_151 : decode cX11_plant 151 = .ok (.getfield 20, 3) := by decide +kernel
theorem dX11_plant_154 : decode cX11_plant 154 = .ok (.iload 6, 2) := by decide +kernel
theorem dX11_plant_156 : decode cX11_plant 156 = .ok (.aaload, 1) := by decide +kernel
theorem dX11_plant_157 : decode cX11_plant 157 = .ok (.invokestatic 218, 3) := by decide +kernel
theorem dX11_plant_160 : decode cX11_plant 160 = .ok (.invokestatic 222, 3) := by decide +kernel
theorem dX11_plant_163 : decode cX11_plant 163 = .ok (.iadd, 1) := by decide +kernel
theorem dX11_plant_164 : decode cX11_plant 164 = .ok (.putfield 228, 3) := by decide +kernel
theorem dX11_plant_167 : decode cX11_plant 167 = .ok (.aload 7, 2) := by decide +kernel
theorem dX11_plant_169 : decode cX11_plant 169 = .ok (.getfield 228, 3) := by decide +kernel
theorem dX11_plant_172 : decode cX11_plant 172 = .ok (.iconst 4, 1) := by decide +kernel
theorem dX11_plant_173 : decode cX11_plant 173 = .ok (.if_icmp .le 6, 3) := by decide +kernel
theorem dX11_plant_176 : decode cX11_plant 176 = .ok (.bipush (-4), 2) := by decide +kernel
theorem dX11_plant_178 : decode cX11_plant 178 = .ok (.ireturn, 1) := by decide +kernel
theorem dX11_plant_179 : decode cX11_plant 179 = .ok (.aload 7, 2) := by decide +kernel
theorem dX11_plant_181 : decode cX11_plant 181 = .ok (.getfield 101, 3) := by decide +kernel
theorem dX11_plant_184 : decode cX11_plant 184 = .ok (.iconst 0, 1) := by decide +kernel
theorem dX11_plant_185 : decode cX11_plant 185 = .ok (.aload_n 0, 1) := by decide +kernel
theorem dX11_plant_186 : decode cX11_plant 186 = .ok (.getfield 20, 3) := by decide +kernel
theorem dX11_plant_189 : decode cX11_plant 189 = .ok (.iload 5, 2) := by decide +kernel
theorem dX11_plant_191 : decode cX11_plant 191 = .ok (.aaload, 1) := by decide +kernel
theorem dX11_plant_192 : decode cX11_plant 192 = .ok (.aastore, 1) := by decide +kernel
theorem dX11_plant_193 : decode cX11_plant 193 = .ok (.aload 7, 2) := by decide +kernel
theorem dX11_plant_195 : decode cX11_plant 195 = .ok (.getfield 101, 3) := by decide +kernel
theorem dX11_plant_198 : decode cX11_plant 198 = .ok (.iconst 1, 1) := by decide +kernel
theorem dX11_plant_199 : decode cX11_plant 199 = .ok (.aload_n 0, 1) := by decide +kernel
theorem dX11_plant_200 : decode cX11_plant 200 = .ok (.getfield 20, 3) := by decide +kernel
theorem dX11_plant_203 : decode cX11_plant 203 = .ok (.iload 6, 2) := by decide +kernel
theorem dX11_plant_205 : decode cX11_plant 205 = .ok (.aaload, 1) := by decide +kernel
theorem dX11_plant_206 : decode cX11_plant 206 = .ok (.aastore, 1) := by decide +kernel
theorem dX11_plant_207 : decode cX11_plant 207 = .ok (.aload 7, 2) := by decide +kernel
theorem dX11_plant_209 : decode cX11_plant 209 = .ok (.iload_n 2, 1) := by decide +kernel
theorem dX11_plant_210 : decode cX11_plant 210 = .ok (.putfield 123, 3) := by decide +kernel
theorem dX11_plant_213 : decode cX11_plant 213 = .ok (.aload 7, 2) := by decide +kernel
theorem dX11_plant_215 : decode cX11_plant 215 = .ok (.iload_n 3, 1) := by decide +kernel
theorem dX11_plant_216 : decode cX11_plant 216 = .ok (.putfield 231, 3) := by decide +kernel
theorem dX11_plant_219 : decode cX11_plant 219 = .ok (.aload 7, 2) := by decide +kernel
theorem dX11_plant_221 : decode cX11_plant 221 = .ok (.iload 4, 2) := by decide +kernel
