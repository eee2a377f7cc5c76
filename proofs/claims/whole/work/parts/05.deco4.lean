theorem dX12_led_113 : decode cX12_led 113 = .ok (.iload_n 2, 1) := by decide +kernel
theorem dX12_led_114 : decode cX12_led 114 = .ok (.ifCond .ne 8, 3) := by decide +kernel
theorem dX12_led_117 : decode cX12_led 117 = .ok (.iload 4, 2) := by decide +kernel
theorem dX12_led_119 : decode cX12_led 119 = .ok (.goto 34, 3) := by decide +kernel
theorem dX12_led_122 : decode cX12_led 122 = .ok (.iload_n 2, 1) := by decide +kernel
theorem dX12_led_123 : decode cX12_led 123 = .ok (.iconst 1, 1) := by decide +kernel
theorem dX12_led_124 : decode cX12_led 124 = .ok (.if_icmp .ne 22, 3) := by decide +kernel
theorem dX12_led_127 : decode cX12_led 127 = .ok (.iload 6, 2) := by decide +kernel
theorem dX12_led_129 : decode cX12_led 129 = .ok (.ifCond .ne 7, 3) := by decide +kernel
theorem dX12_led_132 : decode cX12_led 132 = .ok (.iconst (-1), 1) := by decide +kernel
theorem dX12_led_133 : decode cX12_led 133 = .ok (.goto 20, 3) := by decide +kernel
theorem dX12_led_136 : decode cX12_led 136 = .ok (.aload_n 0, 1) := by decide +kernel
theorem dX12_led_137 : decode cX12_led 137 = .ok (.getfield 35, 3) := by decide +kernel
theorem dX12_led_140 : decode cX12_led 140 = .ok (.iload 6, 2) := by decide +kernel
theorem dX12_led_142 : decode cX12_led 142 = .ok (.iaload, 1) := by decide +kernel
theorem dX12_led_143 : decode cX12_led 143 = .ok (.goto 10, 3) := by decide +kernel
theorem dX12_led_146 : decode cX12_led 146 = .ok (.aload_n 0, 1) := by decide +kernel
theorem dX12_led_147 : decode cX12_led 147 = .ok (.getfield 35, 3) := by decide +kernel
theorem dX12_led_150 : decode cX12_led 150 = .ok (.iload 5, 2) := by decide +kernel
theorem dX12_led_152 : decode cX12_led 152 = .ok (.iaload, 1) := by decide +kernel
theorem dX12_led_153 : decode cX12_led 153 = .ok (.ireturn, 1) := by decide +kernel
theorem dX12_step_0 : decode cX12_step 0 = .ok (.iload_n 1, 1) := by decide +kernel
theorem dX12_step_1 : decode cX12_step 1 = .ok (.iconst 0, 1) := by decide +kernel
theorem dX12_step_2 : decode cX12_step 2 = .ok (.iconst 3, 1) := by decide +kernel
theorem dX12_step_3 : decode cX12_step 3 = .ok (.invokestatic 322, 3) := by decide +kernel
theorem dX12_step_6 : decode cX12_step 6 = .ok (.ifCond .eq 13, 3) := by decide +kernel
theorem dX12_step_9 : decode cX12_step 9 = .ok (.iload_n 2, 1) := by decide +kernel
theorem dX12_step_10 : decode cX12_step 10 = .ok (.iconst 0, 1) := by decide +kernel
theorem dX12_step_11 : decode cX12_step 11 = .ok (.bipush 20, 2) := by decide +kernel
theorem dX12_step_13 : decode cX12_step 13 = .ok (.invokestatic 322, 3) := by decide +kernel
theorem dX12_step_16 : decode cX12_step 16 = .ok (.ifCond .ne 6, 3) := by decide +kernel
theorem dX12_step_19 : decode cX12_step 19 = .ok (.bipush (-2), 2) := by decide +kernel
theorem dX12_step_21 : decode cX12_step 21 = .ok (.ireturn, 1) := by decide +kernel
theorem dX12_step_22 : decode cX12_step 22 = .ok (.aload_n 0, 1) := by decide +kernel
theorem dX12_step_23 : decode cX12_step 23 = .ok (.getfield 74, 3) := by decide +kernel
theorem dX12_step_26 : decode cX12_step 26 = .ok (.iload_n 1, 1) := by decide +kernel
theorem dX12_step_27 : decode cX12_step 27 = .ok (.iaload, 1) := by decide +kernel
theorem dX12_step_28 : decode cX12_step 28 = .ok (.bipush 40, 2) := by decide +kernel
theorem dX12_step_30 : decode cX12_step 30 = .ok (.if_icmp .ne 6, 3) := by decide +kernel
theorem dX12_step_33 : decode cX12_step 33 = .ok (.bipush (-4), 2) := by decide +kernel
theorem dX12_step_35 : decode cX12_step 35 = .ok (.ireturn, 1) := by decide +kernel
theorem dX12_step_36 : decode cX12_step 36 = .ok (.bipush 40, 2) := by decide +kernel
theorem dX12_step_38 : decode cX12_step 38 = .ok (.iload_n 1, 1) := by decide +kernel
theorem dX12_step_39 : decode cX12_step 39 = .ok (.imul, 1) := by decide +kernel
theorem dX12_step_40 : decode cX12_step 40 = .ok (.aload_n 0, 1) := by decide +kernel
theorem dX12_step_41 : decode cX12_step 41 = .ok (.getfield 74, 3) := by decide +kernel
theorem dX12_step_44 : decode cX12_step 44 = .ok (.iload_n 1, 1) := by decide +kernel
theorem dX12_step_45 : decode cX12_step 45 = .ok (.iaload, 1) := by decide +kernel
theorem dX12_step_46 : decode cX12_step 46 = .ok (.iadd, 1) := by decide +kernel
theorem dX12_step_47 : decode cX12_step 47 = .ok (.istore 6, 2) := by decide +kernel
theorem dX12_step_49 : decode cX12_step 49 = .ok (.aload_n 0, 1) := by decide +kernel
theorem dX12_step_50 : decode cX12_step 50 = .ok (.getfield 77, 3) := by decide +kernel
theorem dX12_step_53 : decode cX12_step 53 = .ok (.iload 6, 2) := by decide +kernel
theorem dX12_step_55 : decode cX12_step 55 = .ok (.iload_n 2, 1) := by decide +kernel
theorem dX12_step_56 : decode cX12_step 56 = .ok (.iastore, 1) := by decide +kernel
theorem dX12_step_57 : decode cX12_step 57 = .ok (.aload_n 0, 1) := by decide +kernel
theorem dX12_step_58 : decode cX12_step 58 = .ok (.getfield 80, 3) := by decide +kernel
theorem dX12_step_61 : decode cX12_step 61 = .ok (.iload 6, 2) := by decide +kernel
theorem dX12_step_63 : decode cX12_step 63 = .ok (.iload_n 3, 1) := by decide +kernel
theorem dX12_step_64 : decode cX12_step 64 = .ok (.iastore, 1) := by decide +kernel
theorem dX12_step_65 : decode cX12_step 65 = .ok (.aload_n 0, 1) := by decide +kernel
theorem dX12_step_66 : decode cX12_step 66 = .ok (.getfield 83, 3) := by decide +kernel
theorem dX12_step_69 : decode cX12_step 69 = .ok (.iload 6, 2) := by decide +kernel
theorem dX12_step_71 : decode cX12_step 71 = .ok (.iload 4, 2) := by decide +kernel
theorem dX12_step_73 : decode cX12_step 73 = .ok (.iastore, 1) := by decide +kernel
theorem dX12_step_74 : decode cX12_step 74 = .ok (.aload_n 0, 1) := by decide +kernel
theorem dX12_step_75 : decode cX12_step 75 = .ok (.getfield 86, 3) := by decide +kernel
theorem dX12_step_78 : decode cX12_step 78 = .ok (.iload 6, 2) := by decide +kernel
theorem dX12_step_80 : decode cX12_step 80 = .ok (.iload 5, 2) := by decide +kernel
theorem dX12_step_82 : decode cX12_step 82 = .ok (.iastore, 1) := by decide +kernel
theorem dX12_step_83 : decode cX12_step 83 = .ok (.aload_n 0, 1) := by decide +kernel
theorem dX12_step_84 : decode cX12_step 84 = .ok (.getfield 74, 3) := by decide +kernel
theorem dX12_step_87 : decode cX12_step 87 = .ok (.iload_n 1, 1) := by decide +kernel
theorem dX12_step_88 : decode cX12_step 88 = .ok (.dup2, 1) := by decide +kernel
theorem dX12_step_89 : decode cX12_step 89 = .ok (.iaload, 1) := by decide +kernel
theorem dX12_step_90 : decode cX12_step 90 = .ok (.iconst 1, 1) := by decide +kernel
theorem dX12_step_91 : decode cX12_step 91 = .ok (.iadd, 1) := by decide +kernel
theorem dX12_step_92 : decode cX12_step 92 = .ok (.iastore, 1) := by decide +kernel
theorem dX12_step_93 : decode cX12_step 93 = .ok (.aload_n 0, 1) := by decide +kernel
theorem dX12_step_94 : decode cX12_step 94 = .ok (.getfield 74, 3) := by decide +kernel
theorem dX12_step_97 : decode cX12_step 97 = .ok (.iload_n 1, 1) := by decide +kernel
theorem dX12_step_98 : decode cX12_step 98 = .ok (.iaload, 1) := by decide +kernel
theorem dX12_step_99 : decode cX12_step 99 = .ok (.iconst 1, 1) := by decide +kernel
theorem dX12_step_100 : decode cX12_step 100 = .ok (.isub, 1) := by decide +kernel
theorem dX12_step_101 : decode cX12_step 101 = .ok (.ireturn, 1) := by decide +kernel
theorem dX12_drop_0 : decode cX12_drop 0 = .ok (.iload_n 1, 1) := by decide +kernel
theorem dX12_drop_1 : decode cX12_drop 1 = .ok (.iconst 0, 1) := by decide +kernel
theorem dX12_drop_2 : decode cX12_drop 2 = .ok (.iconst 3, 1) := by decide +kernel
theorem dX12_drop_3 : decode cX12_drop 3 = .ok (.invokestatic 322, 3) := by decide +kernel
theorem dX12_drop_6 : decode cX12_drop 6 = .ok (.ifCond .ne 6, 3) := by decide +kernel
theorem dX12_drop_9 : decode cX12_drop 9 = .ok (.bipush (-2), 2) := by decide +kernel
theorem dX12_drop_11 : decode cX12_drop 11 = .ok (.ireturn, 1) := by decide +kernel
theorem dX12_drop_12 : decode cX12_drop 12 = .ok (.aload_n 0, 1) := by decide +kernel
theorem dX12_drop_13 : decode cX12_drop 13 = .ok (.getfield 74, 3) := by decide +kernel
theorem dX12_drop_16 : decode cX12_drop 16 = .ok (.iload_n 1, 1) := by decide +kernel
theorem dX12_drop_17 : decode cX12_drop 17 = .ok (.iaload, 1) := by decide +kernel
theorem dX12_drop_18 : decode cX12_drop 18 = .ok (.istore_n 2, 1) := by decide +kernel
theorem dX12_drop_19 : decode cX12_drop 19 = .ok (.aload_n 0, 1) := by decide +kernel
theorem dX12_drop_20 : decode cX12_drop 20 = .ok (.getfield 74, 3) := by decide +kernel
theorem dX12_drop_23 : decode cX12_drop 23 = .ok (.iload_n 1, 1) := by decide +kernel
theorem dX12_drop_24 : decode cX12_drop 24 = .ok (.iconst 0, 1) := by decide +kernel
theorem dX12_drop_25 : decode cX12_drop 25 = .ok (.iastore, 1) := by decide +kernel
theorem dX12_drop_26 : decode cX12_drop 26 = .ok (.iload_n 2, 1) := by decide +kernel
theorem dX12_drop_27 : decode cX12_drop 27 = .ok (.ireturn, 1) := by decide +kernel
theorem dX12_hasBody_0 : decode cX12_hasBody 0 = .ok (.iload_n 0, 1) := by decide +kernel
theorem dX12_hasBody_1 : decode cX12_hasBody 1 = .ok (.bipush 11, 2) := by decide +kernel
theorem dX12_hasBody_3 : decode cX12_hasBody 3 = .ok (.if_icmp .lt 7, 3) := by decide +kernel
theorem dX12_hasBody_6 : decode cX12_hasBody 6 = .ok (.iconst 1, 1) := by decide +kernel
theorem dX12_hasBody_7 : decode cX12_hasBody 7 = .ok (.goto 4, 3) := by decide +kernel
theorem dX12_hasBody_10 : decode cX12_hasBody 10 = .ok (.iconst 0, 1) := by decide +kernel
theorem dX12_hasBody_11 : decode cX12_hasBody 11 = .ok (.ireturn, 1) := by decide +kernel
theorem dX12_wrong_0 : decode cX12_wrong 0 = .ok (.iconst 0, 1) := by decide +kernel
theorem dX12_wrong_1 : decode cX12_wrong 1 = .ok (.istore_n 2, 1) := by decide +kernel
theorem dX12_wrong_2 : decode cX12_wrong 2 = .ok (.iconst 0, 1) := by decide +kernel
theorem dX12_wrong_3 : decode cX12_wrong 3 = .ok (.istore_n 3, 1) := by decide +kernel
theorem dX12_wrong_4 : decode cX12_wrong 4 = .ok (.iconst 0, 1) := by decide +kernel
theorem dX12_wrong_5 : decode cX12_wrong 5 = .ok (.istore 4, 2) := by decide +kernel
theorem dX12_wrong_7 : decode cX12_wrong 7 = .ok (.iload 4, 2) := by decide +kernel
theorem dX12_wrong_9 : decode cX12_wrong 9 = .ok (.aload_n 0, 1) := by decide +kernel
theorem dX12_wrong_10 : decode cX12_wrong 10 = .ok (.getfield 74, 3) := by decide +kernel
theorem dX12_wrong_13 : decode cX12_wrong 13 = .ok (.iload_n 1, 1) := by decide +kernel
theorem dX12_wrong_14 : decode cX12_wrong 14 = .ok (.iaload, 1) := by decide +kernel
theorem dX12_wrong_15 : decode cX12_wrong 15 = .ok (.if_icmp .ge 111, 3) := by decide +kernel
theorem dX12_wrong_18 : decode cX12_wrong 18 = .ok (.aload_n 0, 1) := by decide +kernel
theorem dX12_wrong_19 : decode cX12_wrong 19 = .ok (.getfield 77, 3) := by decide +kernel
theorem dX12_wrong_22 : decode cX12_wrong 22 = .ok (.bipush 40, 2) := by decide +kernel
theorem dX12_wrong_24 : decode cX12_wrong 24 = .ok (.iload_n 1, 1) := by decide +kernel
theorem dX12_wrong_25 : decode cX12_wrong 25 = .ok (.imul, 1) := by decide +kernel
theorem dX12_wrong_26 : decode cX12_wrong 26 = .ok (.iload 4, 2) := by decide +kernel
theorem dX12_wrong_28 : decode cX12_wrong 28 = .ok (.iadd, 1) := by decide +kernel
theorem dX12_wrong_29 : decode cX12_wrong 29 = .ok (.iaload, 1) := by decide +kernel
theorem dX12_wrong_30 : decode cX12_wrong 30 = .ok (.istore 5, 2) := by decide +kernel
theorem dX12_wrong_32 : decode cX12_wrong 32 = .ok (.iload 5, 2) := by decide +kernel
theorem dX12_wrong_34 : decode cX12_wrong 34 = .ok (.ifCond .ne 44, 3) := by decide +kernel
theorem dX12_wrong_37 : decode cX12_wrong 37 = .ok (.iload_n 2, 1) := by decide +kernel
theorem dX12_wrong_38 : decode cX12_wrong 38 = .ok (.ifCond .ne 6, 3) := by decide +kernel
theorem dX12_wrong_41 : decode cX12_wrong 41 = .ok (.iload 4, 2) := by decide +kernel
theorem dX12_wrong_43 : decode cX12_wrong 43 = .ok (.ireturn, 1) := by decide +kernel
theorem dX12_wrong_44 : decode cX12_wrong 44 = .ok (.iinc 2 (-1), 3) := by decide +kernel
theorem dX12_wrong_47 : decode cX12_wrong 47 = .ok (.aload_n 0, 1) := by decide +kernel
theorem dX12_wrong_48 : decode cX12_wrong 48 = .ok (.getfield 98, 3) := by decide +kernel
theorem dX12_wrong_51 : decode cX12_wrong 51 = .ok (.iload_n 2, 1) := by decide +kernel
theorem dX12_wrong_52 : decode cX12_wrong 52 = .ok (.iaload, 1) := by decide +kernel
theorem dX12_wrong_53 : decode cX12_wrong 53 = .ok (.bipush 16, 2) := by decide +kernel
theorem dX12_wrong_55 : decode cX12_wrong 55 = .ok (.if_icmp .eq 14, 3) := by decide +kernel
theorem dX12_wrong_58 : decode cX12_wrong 58 = .ok (.aload_n 0, 1) := by decide +kernel
theorem dX12_wrong_59 : decode cX12_wrong 59 = .ok (.getfield 98, 3) := by decide +kernel
theorem dX12_wrong_62 : decode cX12_wrong 62 = .ok (.iload_n 2, 1) := by decide +kernel
theorem dX12_wrong_63 : decode cX12_wrong 63 = .ok (.iaload, 1) := by decide +kernel
theorem dX12_wrong_64 : decode cX12_wrong 64 = .ok (.bipush 17, 2) := by decide +kernel
theorem dX12_wrong_66 : decode cX12_wrong 66 = .ok (.if_icmp .ne 7, 3) := by decide +kernel
theorem dX12_wrong_69 : decode cX12_wrong 69 = .ok (.iconst 1, 1) := by decide +kernel
theorem dX12_wrong_70 : decode cX12_wrong 70 = .ok (.goto 4, 3) := by decide +kernel
theorem dX12_wrong_73 : decode cX12_wrong 73 = .ok (.iconst 0, 1) := by decide +kernel
theorem dX12_wrong_74 : decode cX12_wrong 74 = .ok (.istore_n 3, 1) := by decide +kernel
theorem dX12_wrong_75 : decode cX12_wrong 75 = .ok (.goto 45, 3) := by decide +kernel
theorem dX12_wrong_78 : decode cX12_wrong 78 = .ok (.iload 5, 2) := by decide +kernel
theorem dX12_wrong_80 : decode cX12_wrong 80 = .ok (.bipush 17, 2) := by decide +kernel
theorem dX12_wrong_82 : decode cX12_wrong 82 = .ok (.if_icmp .eq 10, 3) := by decide +kernel
theorem dX12_wrong_85 : decode cX12_wrong 85 = .ok (.iload 5, 2) := by decide +kernel
theorem dX12_wrong_87 : decode cX12_wrong 87 = .ok (.bipush 18, 2) := by decide +kernel
theorem dX12_wrong_89 : decode cX12_wrong 89 = .ok (.if_icmp .ne 10, 3) := by decide +kernel
theorem dX12_wrong_92 : decode cX12_wrong 92 = .ok (.iload_n 3, 1) := by decide +kernel
theorem dX12_wrong_93 : decode cX12_wrong 93 = .ok (.ifCond .ne 6, 3) := by decide +kernel
theorem dX12_wrong_96 : decode cX12_wrong 96 = .ok (.iload 4, 2) := by decide +kernel
theorem dX12_wrong_98 : decode cX12_wrong 98 = .ok (.ireturn, 1) := by decide +kernel
theorem dX12_wrong_99 : decode cX12_wrong 99 = .ok (.iconst 0, 1) := by decide +kernel
theorem dX12_wrong_100 : decode cX12_wrong 100 = .ok (.istore_n 3, 1) := by decide +kernel
theorem dX12_wrong_101 : decode cX12_wrong 101 = .ok (.iload 5, 2) := by decide +kernel
theorem dX12_wrong_103 : decode cX12_wrong 103 = .ok (.invokestatic 478, 3) := by decide +kernel
theorem dX12_wrong_106 : decode cX12_wrong 106 = .ok (.ifCond .eq 14, 3) := by decide +kernel
theorem dX12_wrong_109 : decode cX12_wrong 109 = .ok (.aload_n 0, 1) := by decide +kernel
theorem dX12_wrong_110 : decode cX12_wrong 110 = .ok (.getfield 98, 3) := by decide +kernel
theorem dX12_wrong_113 : decode cX12_wrong 113 = .ok (.iload_n 2, 1) := by decide +kernel
theorem dX12_wrong_114 : decode cX12_wrong 114 = .ok (.iload 5, 2) := by decide +kernel
theorem dX12_wrong_116 : decode cX12_wrong 116 = .ok (.iastore, 1) := by decide +kernel
theorem dX12_wrong_117 : decode cX12_wrong 117 = .ok (.iinc 2 1, 3) := by decide +kernel
theorem dX12_wrong_120 : decode cX12_wrong 120 = .ok (.iinc 4 1, 3) := by decide +kernel
theorem dX12_wrong_123 : decode cX12_wrong 123 = .ok (.goto (-116), 3) := by decide +kernel
theorem dX12_wrong_126 : decode cX12_wrong 126 = .ok (.iload_n 2, 1) := by decide +kernel
theorem dX12_wrong_127 : decode cX12_wrong 127 = .ok (.ifCond .le 12, 3) := by decide +kernel
theorem dX12_wrong_130 : decode cX12_wrong 130 = .ok (.aload_n 0, 1) := by decide +kernel
theorem dX12_wrong_131 : decode cX12_wrong 131 = .ok (.getfield 74, 3) := by decide +kernel
theorem dX12_wrong_134 : decode cX12_wrong 134 = .ok (.iload_n 1, 1) := by decide +kernel
theorem dX12_wrong_135 : decode cX12_wrong 135 = .ok (.iaload, 1) := by decide +kernel
theorem dX12_wrong_136 : decode cX12_wrong 136 = .ok (.goto 4, 3) := by decide +kernel
theorem dX12_wrong_139 : decode cX12_wrong 139 = .ok (.iconst (-1), 1) := by decide +kernel
theorem dX12_wrong_140 : decode cX12_wrong 140 = .ok (.ireturn, 1) := by decide +kernel
theorem dX12_formed_0 : decode cX12_formed 0 = .ok (.iload_n 1, 1) := by decide +kernel
theorem dX12_formed_1 : decode cX12_formed 1 = .ok (.iconst 0, 1) := by decide +kernel
theorem dX12_formed_2 : decode cX12_formed 2 = .ok (.iconst 3, 1) := by decide +kernel
theorem dX12_formed_3 : decode cX12_formed 3 = .ok (.invokestatic 322, 3) := by decide +kernel
theorem dX12_formed_6 : decode cX12_formed 6 = .ok (.ifCond .eq 11, 3) := by decide +kernel
theorem dX12_formed_9 : decode cX12_formed 9 = .ok (.aload_n 0, 1) := by decide +kernel
theorem dX12_formed_10 : decode cX12_formed 10 = .ok (.iload_n 1, 1) := by decide +kernel
theorem dX12_formed_11 : decode cX12_formed 11 = .ok (.invokevirtual 481, 3) := by decide +kernel
theorem dX12_formed_14 : decode cX12_formed 14 = .ok (.goto 4, 3) := by decide +kernel
theorem dX12_formed_17 : decode cX12_formed 17 = .ok (.iconst 0, 1) := by decide +kernel
theorem dX12_formed_18 : decode cX12_formed 18 = .ok (.ireturn, 1) := by decide +kernel
theorem dX12_endOf_0 : decode cX12_endOf 0 = .ok (.iconst 1, 1) := by decide +kernel
theorem dX12_endOf_1 : decode cX12_endOf 1 = .ok (.istore_n 3, 1) := by decide +kernel
theorem dX12_endOf_2 : decode cX12_endOf 2 = .ok (.iload_n 2, 1) := by decide +kernel
theorem dX12_endOf_3 : decode cX12_endOf 3 = .ok (.istore 4, 2) := by decide +kernel
theorem dX12_endOf_5 : decode cX12_endOf 5 = .ok (.iload_n 3, 1) := by decide +kernel
theorem dX12_endOf_6 : decode cX12_endOf 6 = .ok (.ifCond .le 48, 3) := by decide +kernel
theorem dX12_endOf_9 : decode cX12_endOf 9 = .ok (.iinc 4 1, 3) := by decide +kernel
theorem dX12_endOf_12 : decode cX12_endOf 12 = .ok (.aload_n 0, 1) := by decide +kernel
theorem dX12_endOf_13 : decode cX12_endOf 13 = .ok (.getfield 77, 3) := by decide +kernel
theorem dX12_endOf_16 : decode cX12_endOf 16 = .ok (.bipush 40, 2) := by decide +kernel
theorem dX12_endOf_18 : decode cX12_endOf 18 = .ok (.iload_n 1, 1) := by decide +kernel
theorem dX12_endOf_19 : decode cX12_endOf 19 = .ok (.imul, 1) := by decide +kernel
theorem dX12_endOf_20 : decode cX12_endOf 20 = .ok (.iload 4, 2) := by decide +kernel
theorem dX12_endOf_22 : decode cX12_endOf 22 = .ok (.iadd, 1) := by decide +kernel
theorem dX12_endOf_23 : decode cX12_endOf 23 = .ok (.iaload, 1) := by decide +kernel
theorem dX12_endOf_24 : decode cX12_endOf 24 = .ok (.istore 5, 2) := by decide +kernel
theorem dX12_endOf_26 : decode cX12_endOf 26 = .ok (.iload_n 3, 1) := by decide +kernel
theorem dX12_endOf_27 : decode cX12_endOf 27 = .ok (.iload 5, 2) := by decide +kernel
theorem dX12_endOf_29 : decode cX12_endOf 29 = .ok (.ifCond .ne 7, 3) := by decide +kernel
theorem dX12_endOf_32 : decode cX12_endOf 32 = .ok (.iconst (-1), 1) := by decide +kernel
theorem dX12_endOf_33 : decode cX12_endOf 33 = .ok (.goto 16, 3) := by decide +kernel
theorem dX12_endOf_36 : decode cX12_endOf 36 = .ok (.iload 5, 2) := by decide +kernel
theorem dX12_endOf_38 : decode cX12_endOf 38 = .ok (.invokestatic 478, 3) := by decide +kernel
theorem dX12_endOf_41 : decode cX12_endOf 41 = .ok (.ifCond .eq 7, 3) := by decide +kernel
theorem dX12_endOf_44 : decode cX12_endOf 44 = .ok (.iconst 1, 1) := by decide +kernel
theorem dX12_endOf_45 : decode cX12_endOf 45 = .ok (.goto 4, 3) := by decide +kernel
theorem dX12_endOf_48 : decode cX12_endOf 48 = .ok (.iconst 0, 1) := by decide +kernel
theorem dX12_endOf_49 : decode cX12_endOf 49 = .ok (.iadd, 1) := by decide +kernel
theorem dX12_endOf_50 : decode cX12_endOf 50 = .ok (.istore_n 3, 1) := by decide +kernel
theorem dX12_endOf_51 : decode cX12_endOf 51 = .ok (.goto (-46), 3) := by decide +kernel
theorem dX12_endOf_54 : decode cX12_endOf 54 = .ok (.iload 4, 2) := by decide +kernel
theorem dX12_endOf_56 : decode cX12_endOf 56 = .ok (.ireturn, 1) := by decide +kernel
theorem dX12_note_0 : decode cX12_note 0 = .ok (.aload_n 0, 1) := by decide +kernel
theorem dX12_note_1 : decode cX12_note 1 = .ok (.getfield 134, 3) := by decide +kernel
theorem dX12_note_4 : decode cX12_note 4 = .ok (.aload_n 0, 1) := by decide +kernel
theorem dX12_note_5 : decode cX12_note 5 = .ok (.getfield 484, 3) := by decide +kernel
theorem dX12_note_8 : decode cX12_note 8 = .ok (.iload_n 1, 1) := by decide +kernel
theorem dX12_note_9 : decode cX12_note 9 = .ok (.iastore, 1) := by decide +kernel
theorem dX12_note_10 : decode cX12_note 10 = .ok (.aload_n 0, 1) := by decide +kernel
theorem dX12_note_11 : decode cX12_note 11 = .ok (.getfield 137, 3) := by decide +kernel
theorem dX12_note_14 : decode cX12_note 14 = .ok (.aload_n 0, 1) := by decide +kernel
theorem dX12_note_15 : decode cX12_note 15 = .ok (.getfield 484, 3) := by decide +kernel
theorem dX12_note_18 : decode cX12_note 18 = .ok (.lload_n 2, 1) := by decide +kernel
theorem dX12_note_19 : decode cX12_note 19 = .ok (.lastore, 1) := by decide +kernel
theorem dX12_note_20 : decode cX12_note 20 = .ok (.aload_n 0, 1) := by decide +kernel
theorem dX12_note_21 : decode cX12_note 21 = .ok (.dup, 1) := by decide +kernel
theorem dX12_note_22 : decode cX12_note 22 = .ok (.getfield 484, 3) := by decide +kernel
theorem dX12_note_25 : decode cX12_note 25 = .ok (.iconst 1, 1) := by decide +kernel
theorem dX12_note_26 : decode cX12_note 26 = .ok (.iadd, 1) := by decide +kernel
theorem dX12_note_27 : decode cX12_note 27 = .ok (.putfield 484, 3) := by decide +kernel
theorem dX12_note_30 : decode cX12_note 30 = .ok (.return_, 1) := by decide +kernel
theorem dX12_setCell_0 : decode cX12_setCell 0 = .ok (.aload_n 0, 1) := by decide +kernel
theorem dX12_setCell_1 : decode cX12_setCell 1 = .ok (.iload_n 1, 1) := by decide +kernel
theorem dX12_setCell_2 : decode cX12_setCell 2 = .ok (.aload_n 0, 1) := by decide +kernel
theorem dX12_setCell_3 : decode cX12_setCell 3 = .ok (.getfield 26, 3) := by decide +kernel
theorem dX12_setCell_6 : decode cX12_setCell 6 = .ok (.iload_n 1, 1) := by decide +kernel
theorem dX12_setCell_7 : decode cX12_setCell 7 = .ok (.laload, 1) := by decide +kernel
theorem dX12_setCell_8 : decode cX12_setCell 8 = .ok (.invokevirtual 487, 3) := by decide +kernel
theorem dX12_setCell_11 : decode cX12_setCell 11 = .ok (.aload_n 0, 1) := by decide +kernel
theorem dX12_setCell_12 : decode cX12_setCell 12 = .ok (.getfield 26, 3) := by decide +kernel
theorem dX12_setCell_15 : decode cX12_setCell 15 = .ok (.iload_n 1, 1) := by decide +kernel
theorem dX12_setCell_16 : decode cX12_setCell 16 = .ok (.lload_n 2, 1) := by decide +kernel
theorem dX12_setCell_17 : decode cX12_setCell 17 = .ok (.lastore, 1) := by decide +kernel
theorem dX12_setCell_18 : decode cX12_setCell 18 = .ok (.return_, 1) := by decide +kernel
theorem dX12_changeStock_0 : decode cX12_changeStock 0 = .ok (.aload_n 0, 1) := by decide +kernel
theorem dX12_changeStock_1 : decode cX12_changeStock 1 = .ok (.iconst (-1), 1) := by decide +kernel
theorem dX12_changeStock_2 : decode cX12_changeStock 2 = .ok (.iload_n 1, 1) := by decide +kernel
theorem dX12_changeStock_3 : decode cX12_changeStock 3 = .ok (.isub, 1) := by decide +kernel
theorem dX12_changeStock_4 : decode cX12_changeStock 4 = .ok (.aload_n 0, 1) := by decide +kernel
theorem dX12_changeStock_5 : decode cX12_changeStock 5 = .ok (.getfield 89, 3) := by decide +kernel
theorem dX12_changeStock_8 : decode cX12_changeStock 8 = .ok (.iload_n 1, 1) := by decide +kernel
theorem dX12_changeStock_9 : decode cX12_changeStock 9 = .ok (.laload, 1) := by decide +kernel
theorem dX12_changeStock_10 : decode cX12_changeStock 10 = .ok (.invokevirtual 487, 3) := by decide +kernel
theorem dX12_changeStock_13 : decode cX12_changeStock 13 = .ok (.aload_n 0, 1) := by decide +kernel
theorem dX12_changeStock_14 : decode cX12_changeStock 14 = .ok (.getfield 89, 3) := by decide +kernel
theorem dX12_changeStock_17 : decode cX12_changeStock 17 = .ok (.iload_n 1, 1) := by decide +kernel
theorem dX12_changeStock_18 : decode cX12_changeStock 18 = .ok (.lload_n 2, 1) := by decide +kernel
theorem dX12_changeStock_19 : decode cX12_changeStock 19 = .ok (.lastore, 1) := by decide +kernel
theorem dX12_changeStock_20 : decode cX12_changeStock 20 = .ok (.return_, 1) := by decide +kernel
theorem dX12_undoTo_0 : decode cX12_undoTo 0 = .ok (.aload_n 0, 1) := by decide +kernel
theorem dX12_undoTo_1 : decode cX12_undoTo 1 = .ok (.getfield 484, 3) := by decide +kernel
theorem dX12_undoTo_4 : decode cX12_undoTo 4 = .ok (.iload_n 1, 1) := by decide +kernel
theorem dX12_undoTo_5 : decode cX12_undoTo 5 = .ok (.if_icmp .le 65, 3) := by decide +kernel
theorem dX12_undoTo_8 : decode cX12_undoTo 8 = .ok (.aload_n 0, 1) := by decide +kernel
theorem dX12_undoTo_9 : decode cX12_undoTo 9 = .ok (.dup, 1) := by decide +kernel
theorem dX12_undoTo_10 : decode cX12_undoTo 10 = .ok (.getfield 484, 3) := by decide +kernel
theorem dX12_undoTo_13 : decode cX12_undoTo 13 = .ok (.iconst 1, 1) := by decide +kernel
theorem dX12_undoTo_14 : decode cX12_undoTo 14 = .ok (.isub, 1) := by decide +kernel
theorem dX12_undoTo_15 : decode cX12_undoTo 15 = .ok (.putfield 484, 3) := by decide +kernel
theorem dX12_undoTo_18 : decode cX12_undoTo 18 = .ok (.aload_n 0, 1) := by decide +kernel
theorem dX12_undoTo_19 : decode cX12_undoTo 19 = .ok (.getfield 134, 3) := by decide +kernel
theorem dX12_undoTo_22 : decode cX12_undoTo 22 = .ok (.aload_n 0, 1) := by decide +kernel
theorem dX12_undoTo_23 : decode cX12_undoTo 23 = .ok (.getfield 484, 3) := by decide +kernel
theorem dX12_undoTo_26 : decode cX12_undoTo 26 = .ok (.iaload, 1) := by decide +kernel
theorem dX12_undoTo_27 : decode cX12_undoTo 27 = .ok (.istore_n 2, 1) := by decide +kernel
theorem dX12_undoTo_28 : decode cX12_undoTo 28 = .ok (.iload_n 2, 1) := by decide +kernel
theorem dX12_undoTo_29 : decode cX12_undoTo 29 = .ok (.ifCond .ge 23, 3) := by decide +kernel
theorem dX12_undoTo_32 : decode cX12_undoTo 32 = .ok (.aload_n 0, 1) := by decide +kernel
theorem dX12_undoTo_33 : decode cX12_undoTo 33 = .ok (.getfield 89, 3) := by decide +kernel
theorem dX12_undoTo_36 : decode cX12_undoTo 36 = .ok (.iconst (-1), 1) := by decide +kernel
theorem dX12_undoTo_37 : decode cX12_undoTo 37 = .ok (.iload_n 2, 1) := by decide +kernel
theorem dX12_undoTo_38 : decode cX12_undoTo 38 = .ok (.isub, 1) := by decide +kernel
theorem dX12_undoTo_39 : decode cX12_undoTo 39 = .ok (.aload_n 0, 1) := by decide +kernel
theorem dX12_undoTo_40 : decode cX12_undoTo 40 = .ok (.getfield 137, 3) := by decide +kernel
theorem dX12_undoTo_43 : decode cX12_undoTo 43 = .ok (.aload_n 0, 1) := by decide +kernel
theorem dX12_undoTo_44 : decode cX12_undoTo 44 = .ok (.getfield 484, 3) := by decide +kernel
theorem dX12_undoTo_47 : decode cX12_undoTo 47 = .ok (.laload, 1) := by decide +kernel
theorem dX12_undoTo_48 : decode cX12_undoTo 48 = .ok (.lastore, 1) := by decide +kernel
theorem dX12_undoTo_49 : decode cX12_undoTo 49 = .ok (.goto 18, 3) := by decide +kernel
theorem dX12_undoTo_52 : decode cX12_undoTo 52 = .ok (.aload_n 0, 1) := by decide +kernel
theorem dX12_undoTo_53 : decode cX12_undoTo 53 = .ok (.getfield 26, 3) := by decide +kernel
theorem dX12_undoTo_56 : decode cX12_undoTo 56 = .ok (.iload_n 2, 1) := by decide +kernel
theorem dX12_undoTo_57 : decode cX12_undoTo 57 = .ok (.aload_n 0, 1) := by decide +kernel
theorem dX12_undoTo_58 : decode cX12_undoTo 58 = .ok (.getfield 137, 3) := by decide +kernel
theorem dX12_undoTo_61 : decode cX12_undoTo 61 = .ok (.aload_n 0, 1) := by decide +kernel
theorem dX12_undoTo_62 : decode cX12_undoTo 62 = .ok (.getfield 484, 3) := by decide +kernel
theorem dX12_undoTo_65 : decode cX12_undoTo 65 = .ok (.laload, 1) := by decide +kernel
theorem dX12_undoTo_66 : decode cX12_undoTo 66 = .ok (.lastore, 1) := by decide +kernel
theorem dX12_undoTo_67 : decode cX12_undoTo 67 = .ok (.goto (-67), 3) := by decide +kernel
theorem dX12_undoTo_70 : decode cX12_undoTo 70 = .ok (.return_, 1) := by decide +kernel
theorem dX12_fails_0 : decode cX12_fails 0 = .ok (.aload_n 0, 1) := by decide +kernel
theorem dX12_fails_1 : decode cX12_fails 1 = .ok (.iconst 1, 1) := by decide +kernel
theorem dX12_fails_2 : decode cX12_fails 2 = .ok (.putfield 491, 3) := by decide +kernel
theorem dX12_fails_5 : decode cX12_fails 5 = .ok (.aload_n 0, 1) := by decide +kernel
theorem dX12_fails_6 : decode cX12_fails 6 = .ok (.iload_n 1, 1) := by decide +kernel
theorem dX12_fails_7 : decode cX12_fails 7 = .ok (.putfield 494, 3) := by decide +kernel
theorem dX12_fails_10 : decode cX12_fails 10 = .ok (.aload_n 0, 1) := by decide +kernel
theorem dX12_fails_11 : decode cX12_fails 11 = .ok (.iload_n 1, 1) := by decide +kernel
theorem dX12_fails_12 : decode cX12_fails 12 = .ok (.bipush 8, 2) := by decide +kernel
theorem dX12_fails_14 : decode cX12_fails 14 = .ok (.if_icmp .ne 7, 3) := by decide +kernel
theorem dX12_fails_17 : decode cX12_fails 17 = .ok (.iload_n 2, 1) := by decide +kernel
theorem dX12_fails_18 : decode cX12_fails 18 = .ok (.goto 4, 3) := by decide +kernel
theorem dX12_fails_21 : decode cX12_fails 21 = .ok (.iconst 0, 1) := by decide +kernel
theorem dX12_fails_22 : decode cX12_fails 22 = .ok (.putfield 497, 3) := by decide +kernel
theorem dX12_fails_25 : decode cX12_fails 25 = .ok (.aload_n 0, 1) := by decide +kernel
theorem dX12_fails_26 : decode cX12_fails 26 = .ok (.aload_n 0, 1) := by decide +kernel
theorem dX12_fails_27 : decode cX12_fails 27 = .ok (.getfield 500, 3) := by decide +kernel
theorem dX12_fails_30 : decode cX12_fails 30 = .ok (.putfield 503, 3) := by decide +kernel
theorem dX12_fails_33 : decode cX12_fails 33 = .ok (.aload_n 0, 1) := by decide +kernel
theorem dX12_fails_34 : decode cX12_fails 34 = .ok (.iconst 0, 1) := by decide +kernel
theorem dX12_fails_35 : decode cX12_fails 35 = .ok (.putfield 506, 3) := by decide +kernel
theorem dX12_fails_38 : decode cX12_fails 38 = .ok (.aload_n 0, 1) := by decide +kernel
theorem dX12_fails_39 : decode cX12_fails 39 = .ok (.dup, 1) := by decide +kernel
theorem dX12_fails_40 : decode cX12_fails 40 = .ok (.getfield 509, 3) := by decide +kernel
theorem dX12_fails_43 : decode cX12_fails 43 = .ok (.iconst 1, 1) := by decide +kernel
theorem dX12_fails_44 : decode cX12_fails 44 = .ok (.iadd, 1) := by decide +kernel
theorem dX12_fails_45 : decode cX12_fails 45 = .ok (.putfield 509, 3) := by decide +kernel
theorem dX12_fails_48 : decode cX12_fails 48 = .ok (.aload_n 0, 1) := by decide +kernel
theorem dX12_fails_49 : decode cX12_fails 49 = .ok (.dup, 1) := by decide +kernel
theorem dX12_fails_50 : decode cX12_fails 50 = .ok (.getfield 299, 3) := by decide +kernel
theorem dX12_fails_53 : decode cX12_fails 53 = .ok (.iconst 1, 1) := by decide +kernel
theorem dX12_fails_54 : decode cX12_fails 54 = .ok (.iadd, 1) := by decide +kernel
theorem dX12_fails_55 : decode cX12_fails 55 = .ok (.putfield 299, 3) := by decide +kernel
theorem dX12_fails_58 : decode cX12_fails 58 = .ok (.return_, 1) := by decide +kernel
theorem dX12_push_0 : decode cX12_push 0 = .ok (.aload_n 0, 1) := by decide +kernel
theorem dX12_push_1 : decode cX12_push 1 = .ok (.getfield 101, 3) := by decide +kernel
theorem dX12_push_4 : decode cX12_push 4 = .ok (.aload_n 0, 1) := by decide +kernel
theorem dX12_push_5 : decode cX12_push 5 = .ok (.getfield 512, 3) := by decide +kernel
theorem dX12_push_8 : decode cX12_push 8 = .ok (.iload_n 1, 1) := by decide +kernel
theorem dX12_push_9 : decode cX12_push 9 = .ok (.iastore, 1) := by decide +kernel
theorem dX12_push_10 : decode cX12_push 10 = .ok (.aload_n 0, 1) := by decide +kernel
theorem dX12_push_11 : decode cX12_push 11 = .ok (.getfield 104, 3) := by decide +kernel
theorem dX12_push_14 : decode cX12_push 14 = .ok (.aload_n 0, 1) := by decide +kernel
theorem dX12_push_15 : decode cX12_push 15 = .ok (.getfield 512, 3) := by decide +kernel
theorem dX12_push_18 : decode cX12_push 18 = .ok (.aload_n 0, 1) := by decide +kernel
theorem dX12_push_19 : decode cX12_push 19 = .ok (.getfield 515, 3) := by decide +kernel
theorem dX12_push_22 : decode cX12_push 22 = .ok (.iastore, 1) := by decide +kernel
theorem dX12_push_23 : decode cX12_push 23 = .ok (.aload_n 0, 1) := by decide +kernel
theorem dX12_push_24 : decode cX12_push 24 = .ok (.getfield 107, 3) := by decide +kernel
theorem dX12_push_27 : decode cX12_push 27 = .ok (.aload_n 0, 1) := by decide +kernel
theorem dX12_push_28 : decode cX12_push 28 = .ok (.getfield 512, 3) := by decide +kernel
theorem dX12_push_31 : decode cX12_push 31 = .ok (.aload_n 0, 1) := by decide +kernel
theorem dX12_push_32 : decode cX12_push 32 = .ok (.getfield 500, 3) := by decide +kernel
theorem dX12_push_35 : decode cX12_push 35 = .ok (.iastore, 1) := by decide +kernel
theorem dX12_push_36 : decode cX12_push 36 = .ok (.aload_n 0, 1) := by decide +kernel
theorem dX12_push_37 : decode cX12_push 37 = .ok (.getfield 110, 3) := by decide +kernel
theorem dX12_push_40 : decode cX12_push 40 = .ok (.aload_n 0, 1) := by decide +kernel
theorem dX12_push_41 : decode cX12_push 41 = .ok (.getfield 512, 3) := by decide +kernel
theorem dX12_push_44 : decode cX12_push 44 = .ok (.aload_n 0, 1) := by decide +kernel
theorem dX12_push_45 : decode cX12_push 45 = .ok (.getfield 484, 3) := by decide +kernel
theorem dX12_push_48 : decode cX12_push 48 = .ok (.iastore, 1) := by decide +kernel
theorem dX12_push_49 : decode cX12_push 49 = .ok (.aload_n 0, 1) := by decide +kernel
theorem dX12_push_50 : decode cX12_push 50 = .ok (.getfield 113, 3) := by decide +kernel
theorem dX12_push_53 : decode cX12_push 53 = .ok (.aload_n 0, 1) := by decide +kernel
theorem dX12_push_54 : decode cX12_push 54 = .ok (.getfield 512, 3) := by decide +kernel
theorem dX12_push_57 : decode cX12_push 57 = .ok (.iconst 1, 1) := by decide +kernel
theorem dX12_push_58 : decode cX12_push 58 = .ok (.iastore, 1) := by decide +kernel
theorem dX12_push_59 : decode cX12_push 59 = .ok (.aload_n 0, 1) := by decide +kernel
theorem dX12_push_60 : decode cX12_push 60 = .ok (.dup, 1) := by decide +kernel
theorem dX12_push_61 : decode cX12_push 61 = .ok (.getfield 512, 3) := by decide +kernel
theorem dX12_push_64 : decode cX12_push 64 = .ok (.iconst 1, 1) := by decide +kernel
theorem dX12_push_65 : decode cX12_push 65 = .ok (.iadd, 1) := by decide +kernel
theorem dX12_push_66 : decode cX12_push 66 = .ok (.putfield 512, 3) := by decide +kernel
theorem dX12_push_69 : decode cX12_push 69 = .ok (.return_, 1) := by decide +kernel
theorem dX12_a_0 : decode cX12_a 0 = .ok (.aload_n 0, 1) := by decide +kernel
theorem dX12_a_1 : decode cX12_a 1 = .ok (.getfield 80, 3) := by decide +kernel
theorem dX12_a_4 : decode cX12_a 4 = .ok (.bipush 40, 2) := by decide +kernel
theorem dX12_a_6 : decode cX12_a 6 = .ok (.aload_n 0, 1) := by decide +kernel
theorem dX12_a_7 : decode cX12_a 7 = .ok (.getfield 515, 3) := by decide +kernel
theorem dX12_a_10 : decode cX12_a 10 = .ok (.imul, 1) := by decide +kernel
theorem dX12_a_11 : decode cX12_a 11 = .ok (.aload_n 0, 1) := by decide +kernel
theorem dX12_a_12 : decode cX12_a 12 = .ok (.getfield 500, 3) := by decide +kernel
theorem dX12_a_15 : decode cX12_a 15 = .ok (.iadd, 1) := by decide +kernel
theorem dX12_a_16 : decode cX12_a 16 = .ok (.iaload, 1) := by decide +kernel
theorem dX12_a_17 : decode cX12_a 17 = .ok (.ireturn, 1) := by decide +kernel
theorem dX12_b_0 : decode cX12_b 0 = .ok (.aload_n 0, 1) := by decide +kernel
theorem dX12_b_1 : decode cX12_b 1 = .ok (.getfield 83, 3) := by decide +kernel
theorem dX12_b_4 : decode cX12_b 4 = .ok (.bipush 40, 2) := by decide +kernel
theorem dX12_b_6 : decode cX12_b 6 = .ok (.aload_n 0, 1) := by decide +kernel
theorem dX12_b_7 : decode cX12_b 7 = .ok (.getfield 515, 3) := by decide +kernel
theorem dX12_b_10 : decode cX12_b 10 = .ok (.imul, 1) := by decide +kernel
theorem dX12_b_11 : decode cX12_b 11 = .ok (.aload_n 0, 1) := by decide +kernel
theorem dX12_b_12 : decode cX12_b 12 = .ok (.getfield 500, 3) := by decide +kernel
theorem dX12_b_15 : decode cX12_b 15 = .ok (.iadd, 1) := by decide +kernel
theorem dX12_b_16 : decode cX12_b 16 = .ok (.iaload, 1) := by decide +kernel
theorem dX12_b_17 : decode cX12_b 17 = .ok (.ireturn, 1) := by decide +kernel
theorem dX12_c_0 : decode cX12_c 0 = .ok (.aload_n 0, 1) := by decide +kernel
theorem dX12_c_1 : decode cX12_c 1 = .ok (.getfield 86, 3) := by decide +kernel
theorem dX12_c_4 : decode cX12_c 4 = .ok (.bipush 40, 2) := by decide +kernel
theorem dX12_c_6 : decode cX12_c 6 = .ok (.aload_n 0, 1) := by decide +kernel
theorem dX12_c_7 : decode cX12_c 7 = .ok (.getfield 515, 3) := by decide +kernel
theorem dX12_c_10 : decode cX12_c 10 = .ok (.imul, 1) := by decide +kernel
theorem dX12_c_11 : decode cX12_c 11 = .ok (.aload_n 0, 1) := by decide +kernel
theorem dX12_c_12 : decode cX12_c 12 = .ok (.getfield 500, 3) := by decide +kernel
theorem dX12_c_15 : decode cX12_c 15 = .ok (.iadd, 1) := by decide +kernel
theorem dX12_c_16 : decode cX12_c 16 = .ok (.iaload, 1) := by decide +kernel
theorem dX12_c_17 : decode cX12_c 17 = .ok (.ireturn, 1) := by decide +kernel
theorem dX12_enter_0 : decode cX12_enter 0 = .ok (.iload_n 1, 1) := by decide +kernel
theorem dX12_enter_1 : decode cX12_enter 1 = .ok (.bipush 12, 2) := by decide +kernel
theorem dX12_enter_3 : decode cX12_enter 3 = .ok (.if_icmp .eq 15, 3) := by decide +kernel
theorem dX12_enter_6 : decode cX12_enter 6 = .ok (.iload_n 1, 1) := by decide +kernel
theorem dX12_enter_7 : decode cX12_enter 7 = .ok (.bipush 19, 2) := by decide +kernel
theorem dX12_enter_9 : decode cX12_enter 9 = .ok (.if_icmp .eq 9, 3) := by decide +kernel
theorem dX12_enter_12 : decode cX12_enter 12 = .ok (.iload_n 1, 1) := by decide +kernel
theorem dX12_enter_13 : decode cX12_enter 13 = .ok (.bipush 20, 2) := by decide +kernel
theorem dX12_enter_15 : decode cX12_enter 15 = .ok (.if_icmp .ne 7, 3) := by decide +kernel
theorem dX12_enter_18 : decode cX12_enter 18 = .ok (.iconst 1, 1) := by decide +kernel
theorem dX12_enter_19 : decode cX12_enter 19 = .ok (.goto 4, 3) := by decide +kernel
theorem dX12_enter_22 : decode cX12_enter 22 = .ok (.iconst 0, 1) := by decide +kernel
theorem dX12_enter_23 : decode cX12_enter 23 = .ok (.istore_n 2, 1) := by decide +kernel
theorem dX12_enter_24 : decode cX12_enter 24 = .ok (.iload_n 1, 1) := by decide +kernel
theorem dX12_enter_25 : decode cX12_enter 25 = .ok (.bipush 11, 2) := by decide +kernel
theorem dX12_enter_27 : decode cX12_enter 27 = .ok (.if_icmp .eq 9, 3) := by decide +kernel
theorem dX12_enter_30 : decode cX12_enter 30 = .ok (.iload_n 1, 1) := by decide +kernel
theorem dX12_enter_31 : decode cX12_enter 31 = .ok (.bipush 13, 2) := by decide +kernel
theorem dX12_enter_33 : decode cX12_enter 33 = .ok (.if_icmp .ne 7, 3) := by decide +kernel
theorem dX12_enter_36 : decode cX12_enter 36 = .ok (.iconst 1, 1) := by decide +kernel
theorem dX12_enter_37 : decode cX12_enter 37 = .ok (.goto 4, 3) := by decide +kernel
theorem dX12_enter_40 : decode cX12_enter 40 = .ok (.iconst 0, 1) := by decide +kernel
theorem dX12_enter_41 : decode cX12_enter 41 = .ok (.istore_n 3, 1) := by decide +kernel
theorem dX12_enter_42 : decode cX12_enter 42 = .ok (.iload_n 2, 1) := by decide +kernel
theorem dX12_enter_43 : decode cX12_enter 43 = .ok (.ifCond .eq 15, 3) := by decide +kernel
theorem dX12_enter_46 : decode cX12_enter 46 = .ok (.aload_n 0, 1) := by decide +kernel
theorem dX12_enter_47 : decode cX12_enter 47 = .ok (.invokevirtual 518, 3) := by decide +kernel
theorem dX12_enter_50 : decode cX12_enter 50 = .ok (.iconst 0, 1) := by decide +kernel
theorem dX12_enter_51 : decode cX12_enter 51 = .ok (.iconst 5, 1) := by decide +kernel
theorem dX12_enter_52 : decode cX12_enter 52 = .ok (.invokestatic 322, 3) := by decide +kernel
theorem dX12_enter_55 : decode cX12_enter 55 = .ok (.ifCond .eq 19, 3) := by decide +kernel
theorem dX12_enter_58 : decode cX12_enter 58 = .ok (.iload_n 3, 1) := by decide +kernel
theorem dX12_enter_59 : decode cX12_enter 59 = .ok (.ifCond .eq 22, 3) := by decide +kernel
theorem dX12_enter_62 : decode cX12_enter 62 = .ok (.aload_n 0, 1) := by decide +kernel
theorem dX12_enter_63 : decode cX12_enter 63 = .ok (.invokevirtual 518, 3) := by decide +kernel
theorem dX12_enter_66 : decode cX12_enter 66 = .ok (.iconst 0, 1) := by decide +kernel
theorem dX12_enter_67 : decode cX12_enter 67 = .ok (.iconst 2, 1) := by decide +kernel
theorem dX12_enter_68 : decode cX12_enter 68 = .ok (.invokestatic 322, 3) := by decide +kernel
theorem dX12_enter_71 : decode cX12_enter 71 = .ok (.ifCond .ne 10, 3) := by decide +kernel
theorem dX12_enter_74 : decode cX12_enter 74 = .ok (.aload_n 0, 1) := by decide +kernel
theorem dX12_enter_75 : decode cX12_enter 75 = .ok (.iconst 2, 1) := by decide +kernel
theorem dX12_enter_76 : decode cX12_enter 76 = .ok (.iconst 0, 1) := by decide +kernel
theorem dX12_enter_77 : decode cX12_enter 77 = .ok (.invokevirtual 521, 3) := by decide +kernel
theorem dX12_enter_80 : decode cX12_enter 80 = .ok (.return_, 1) := by decide +kernel
theorem dX12_enter_81 : decode cX12_enter 81 = .ok (.iload_n 1, 1) := by decide +kernel
theorem dX12_enter_82 : decode cX12_enter 82 = .ok (.bipush 12, 2) := by decide +kernel
theorem dX12_enter_84 : decode cX12_enter 84 = .ok (.if_icmp .ne 37, 3) := by decide +kernel
theorem dX12_enter_87 : decode cX12_enter 87 = .ok (.aload_n 0, 1) := by decide +kernel
theorem dX12_enter_88 : decode cX12_enter 88 = .ok (.invokevirtual 525, 3) := by decide +kernel
theorem dX12_enter_91 : decode cX12_enter 91 = .ok (.ifCond .lt 21, 3) := by decide +kernel
theorem dX12_enter_94 : decode cX12_enter 94 = .ok (.aload_n 0, 1) := by decide +kernel
theorem dX12_enter_95 : decode cX12_enter 95 = .ok (.getfield 89, 3) := by decide +kernel
theorem dX12_enter_98 : decode cX12_enter 98 = .ok (.aload_n 0, 1) := by decide +kernel
theorem dX12_enter_99 : decode cX12_enter 99 = .ok (.invokevirtual 518, 3) := by decide +kernel
theorem dX12_enter_102 : decode cX12_enter 102 = .ok (.laload, 1) := by decide +kernel
theorem dX12_enter_103 : decode cX12_enter 103 = .ok (.aload_n 0, 1) := by decide +kernel
theorem dX12_enter_104 : decode cX12_enter 104 = .ok (.invokevirtual 525, 3) := by decide +kernel
theorem dX12_enter_107 : decode cX12_enter 107 = .ok (.i2l, 1) := by decide +kernel
theorem dX12_enter_108 : decode cX12_enter 108 = .ok (.lcmp, 1) := by decide +kernel
theorem dX12_enter_109 : decode cX12_enter 109 = .ok (.ifCond .ge 12, 3) := by decide +kernel
theorem dX12_enter_112 : decode cX12_enter 112 = .ok (.aload_n 0, 1) := by decide +kernel
theorem dX12_enter_113 : decode cX12_enter 113 = .ok (.bipush 8, 2) := by decide +kernel
theorem dX12_enter_115 : decode cX12_enter 115 = .ok (.bipush 97, 2) := by decide +kernel
theorem dX12_enter_117 : decode cX12_enter 117 = .ok (.invokevirtual 521, 3) := by decide +kernel
theorem dX12_enter_120 : decode cX12_enter 120 = .ok (.return_, 1) := by decide +kernel
theorem dX12_enter_121 : decode cX12_enter 121 = .ok (.iload_n 1, 1) := by decide +kernel
theorem dX12_enter_122 : decode cX12_enter 122 = .ok (.bipush 15, 2) := by decide +kernel
theorem dX12_enter_124 : decode cX12_enter 124 = .ok (.if_icmp .ne 25, 3) := by decide +kernel
theorem dX12_enter_127 : decode cX12_enter 127 = .ok (.aload_n 0, 1) := by decide +kernel
theorem dX12_enter_128 : decode cX12_enter 128 = .ok (.invokevirtual 518, 3) := by decide +kernel
theorem dX12_enter_131 : decode cX12_enter 131 = .ok (.iconst 1, 1) := by decide +kernel
theorem dX12_enter_132 : decode cX12_enter 132 = .ok (.bipush 9, 2) := by decide +kernel
theorem dX12_enter_134 : decode cX12_enter 134 = .ok (.invokestatic 322, 3) := by decide +kernel
theorem dX12_enter_137 : decode cX12_enter 137 = .ok (.ifCond .ne 12, 3) := by decide +kernel
theorem dX12_enter_140 : decode cX12_enter 140 = .ok (.aload_n 0, 1) := by decide +kernel
theorem dX12_enter_141 : decode cX12_enter 141 = .ok (.bipush 8, 2) := by decide +kernel
theorem dX12_enter_143 : decode cX12_enter 143 = .ok (.bipush 96, 2) := by decide +kernel
theorem dX12_enter_145 : decode cX12_enter 145 = .ok (.invokevirtual 521, 3) := by decide +kernel
theorem dX12_enter_148 : decode cX12_enter 148 = .ok (.return_, 1) := by decide +kernel
theorem dX12_enter_149 : decode cX12_enter 149 = .ok (.iload_n 1, 1) := by decide +kernel
theorem dX12_enter_150 : decode cX12_enter 150 = .ok (.bipush 19, 2) := by decide +kernel
theorem dX12_enter_152 : decode cX12_enter 152 = .ok (.if_icmp .eq 9, 3) := by decide +kernel
theorem dX12_enter_155 : decode cX12_enter 155 = .ok (.iload_n 1, 1) := by decide +kernel
theorem dX12_enter_156 : decode cX12_enter 156 = .ok (.bipush 20, 2) := by decide +kernel
theorem dX12_enter_158 : decode cX12_enter 158 = .ok (.if_icmp .ne 36, 3) := by decide +kernel
theorem dX12_enter_161 : decode cX12_enter 161 = .ok (.aload_n 0, 1) := by decide +kernel
theorem dX12_enter_162 : decode cX12_enter 162 = .ok (.getfield 89, 3) := by decide +kernel
theorem dX12_enter_165 : decode cX12_enter 165 = .ok (.aload_n 0, 1) := by decide +kernel
theorem dX12_enter_166 : decode cX12_enter 166 = .ok (.invokevirtual 518, 3) := by decide +kernel
theorem dX12_enter_169 : decode cX12_enter 169 = .ok (.laload, 1) := by decide +kernel
theorem dX12_enter_170 : decode cX12_enter 170 = .ok (.lconst 0, 1) := by decide +kernel
theorem dX12_enter_171 : decode cX12_enter 171 = .ok (.lcmp, 1) := by decide +kernel
theorem dX12_enter_172 : decode cX12_enter 172 = .ok (.ifCond .gt 22, 3) := by decide +kernel
theorem dX12_enter_175 : decode cX12_enter 175 = .ok (.aload_n 0, 1) := by decide +kernel
theorem dX12_enter_176 : decode cX12_enter 176 = .ok (.aload_n 0, 1) := by decide +kernel
theorem dX12_enter_177 : decode cX12_enter 177 = .ok (.aload_n 0, 1) := by decide +kernel
theorem dX12_enter_178 : decode cX12_enter 178 = .ok (.getfield 515, 3) := by decide +kernel
theorem dX12_enter_181 : decode cX12_enter 181 = .ok (.aload_n 0, 1) := by decide +kernel
theorem dX12_enter_182 : decode cX12_enter 182 = .ok (.getfield 500, 3) := by decide +kernel
theorem dX12_enter_185 : decode cX12_enter 185 = .ok (.invokevirtual 528, 3) := by decide +kernel
theorem dX12_enter_188 : decode cX12_enter 188 = .ok (.iconst 1, 1) := by decide +kernel
theorem dX12_enter_189 : decode cX12_enter 189 = .ok (.iadd, 1) := by decide +kernel
theorem dX12_enter_190 : decode cX12_enter 190 = .ok (.putfield 500, 3) := by decide +kernel
theorem dX12_enter_193 : decode cX12_enter 193 = .ok (.return_, 1) := by decide +kernel
theorem dX12_enter_194 : decode cX12_enter 194 = .ok (.aload_n 0, 1) := by decide +kernel
theorem dX12_enter_195 : decode cX12_enter 195 = .ok (.iload_n 1, 1) := by decide +kernel
theorem dX12_enter_196 : decode cX12_enter 196 = .ok (.invokevirtual 531, 3) := by decide +kernel
theorem dX12_enter_199 : decode cX12_enter 199 = .ok (.iload_n 1, 1) := by decide +kernel
theorem dX12_enter_200 : decode cX12_enter 200 = .ok (.bipush 11, 2) := by decide +kernel
theorem dX12_enter_202 : decode cX12_enter 202 = .ok (.if_icmp .ne 63, 3) := by decide +kernel
theorem dX12_enter_205 : decode cX12_enter 205 = .ok (.aload_n 0, 1) := by decide +kernel
theorem dX12_enter_206 : decode cX12_enter 206 = .ok (.getfield 95, 3) := by decide +kernel
theorem dX12_enter_209 : decode cX12_enter 209 = .ok (.aload_n 0, 1) := by decide +kernel
theorem dX12_enter_210 : decode cX12_enter 210 = .ok (.invokevirtual 518, 3) := by decide +kernel
theorem dX12_enter_213 : decode cX12_enter 213 = .ok (.dup2, 1) := by decide +kernel
theorem dX12_enter_214 : decode cX12_enter 214 = .ok (.iaload, 1) := by decide +kernel
theorem dX12_enter_215 : decode cX12_enter 215 = .ok (.iconst 1, 1) := by decide +kernel
theorem dX12_enter_216 : decode cX12_enter 216 = .ok (.iadd, 1) := by decide +kernel
theorem dX12_enter_217 : decode cX12_enter 217 = .ok (.iastore, 1) := by decide +kernel
theorem dX12_enter_218 : decode cX12_enter 218 = .ok (.aload_n 0, 1) := by decide +kernel
theorem dX12_enter_219 : decode cX12_enter 219 = .ok (.getfield 95, 3) := by decide +kernel
theorem dX12_enter_222 : decode cX12_enter 222 = .ok (.iconst 0, 1) := by decide +kernel
theorem dX12_enter_223 : decode cX12_enter 223 = .ok (.iaload, 1) := by decide +kernel
theorem dX12_enter_224 : decode cX12_enter 224 = .ok (.aload_n 0, 1) := by decide +kernel
theorem dX12_enter_225 : decode cX12_enter 225 = .ok (.getfield 95, 3) := by decide +kernel
theorem dX12_enter_228 : decode cX12_enter 228 = .ok (.iconst 1, 1) := by decide +kernel
theorem dX12_enter_229 : decode cX12_enter 229 = .ok (.iaload, 1) := by decide +kernel
theorem dX12_enter_230 : decode cX12_enter 230 = .ok (.iadd, 1) := by decide +kernel
theorem dX12_enter_231 : decode cX12_enter 231 = .ok (.aload_n 0, 1) := by decide +kernel
theorem dX12_enter_232 : decode cX12_enter 232 = .ok (.getfield 95, 3) := by decide +kernel
theorem dX12_enter_235 : decode cX12_enter 235 = .ok (.iconst 2, 1) := by decide +kernel
theorem dX12_enter_236 : decode cX12_enter 236 = .ok (.iaload, 1) := by decide +kernel
theorem dX12_enter_237 : decode cX12_enter 237 = .ok (.iadd, 1) := by decide +kernel
theorem dX12_enter_238 : decode cX12_enter 238 = .ok (.istore 4, 2) := by decide +kernel
theorem dX12_enter_240 : decode cX12_enter 240 = .ok (.aload_n 0, 1) := by decide +kernel
theorem dX12_enter_241 : decode cX12_enter 241 = .ok (.iload 4, 2) := by decide +kernel
theorem dX12_enter_243 : decode cX12_enter 243 = .ok (.aload_n 0, 1) := by decide +kernel
theorem dX12_enter_244 : decode cX12_enter 244 = .ok (.getfield 534, 3) := by decide +kernel
theorem dX12_enter_247 : decode cX12_enter 247 = .ok (.if_icmp .le 8, 3) := by decide +kernel
theorem dX12_enter_250 : decode cX12_enter 250 = .ok (.iload 4, 2) := by decide +kernel
theorem dX12_enter_252 : decode cX12_enter 252 = .ok (.goto 7, 3) := by decide +kernel
theorem dX12_enter_255 : decode cX12_enter 255 = .ok (.aload_n 0, 1) := by decide +kernel
theorem dX12_enter_256 : decode cX12_enter 256 = .ok (.getfield 534, 3) := by decide +kernel
theorem dX12_enter_259 : decode cX12_enter 259 = .ok (.putfield 534, 3) := by decide +kernel
theorem dX12_enter_262 : decode cX12_enter 262 = .ok (.goto 54, 3) := by decide +kernel
theorem dX12_enter_265 : decode cX12_enter 265 = .ok (.iload_n 1, 1) := by decide +kernel
theorem dX12_enter_266 : decode cX12_enter 266 = .ok (.bipush 12, 2) := by decide +kernel
theorem dX12_enter_268 : decode cX12_enter 268 = .ok (.if_icmp .ne 29, 3) := by decide +kernel
theorem dX12_enter_271 : decode cX12_enter 271 = .ok (.aload_n 0, 1) := by decide +kernel
theorem dX12_enter_272 : decode cX12_enter 272 = .ok (.aload_n 0, 1) := by decide +kernel
theorem dX12_enter_273 : decode cX12_enter 273 = .ok (.invokevirtual 518, 3) := by decide +kernel
theorem dX12_enter_276 : decode cX12_enter 276 = .ok (.aload_n 0, 1) := by decide +kernel
theorem dX12_enter_277 : decode cX12_enter 277 = .ok (.getfield 89, 3) := by decide +kernel
theorem dX12_enter_280 : decode cX12_enter 280 = .ok (.aload_n 0, 1) := by decide +kernel
theorem dX12_enter_281 : decode cX12_enter 281 = .ok (.invokevirtual 518, 3) := by decide +kernel
theorem dX12_enter_284 : decode cX12_enter 284 = .ok (.laload, 1) := by decide +kernel
theorem dX12_enter_285 : decode cX12_enter 285 = .ok (.aload_n 0, 1) := by decide +kernel
theorem dX12_enter_286 : decode cX12_enter 286 = .ok (.invokevirtual 525, 3) := by decide +kernel
theorem dX12_enter_289 : decode cX12_enter 289 = .ok (.i2l, 1) := by decide +kernel
theorem dX12_enter_290 : decode cX12_enter 290 = .ok (.lsub, 1) := by decide +kernel
theorem dX12_enter_291 : decode cX12_enter 291 = .ok (.invokevirtual 537, 3) := by decide +kernel
theorem dX12_enter_294 : decode cX12_enter 294 = .ok (.goto 22, 3) := by decide +kernel
theorem dX12_enter_297 : decode cX12_enter 297 = .ok (.iload_n 1, 1) := by decide +kernel
theorem dX12_enter_298 : decode cX12_enter 298 = .ok (.bipush 13, 2) := by decide +kernel
theorem dX12_enter_300 : decode cX12_enter 300 = .ok (.if_icmp .ne 16, 3) := by decide +kernel
theorem dX12_enter_303 : decode cX12_enter 303 = .ok (.aload_n 0, 1) := by decide +kernel
theorem dX12_enter_304 : decode cX12_enter 304 = .ok (.getfield 92, 3) := by decide +kernel
theorem dX12_enter_307 : decode cX12_enter 307 = .ok (.aload_n 0, 1) := by decide +kernel
theorem dX12_enter_308 : decode cX12_enter 308 = .ok (.invokevirtual 518, 3) := by decide +kernel
theorem dX12_enter_311 : decode cX12_enter 311 = .ok (.aload_n 0, 1) := by decide +kernel
theorem dX12_enter_312 : decode cX12_enter 312 = .ok (.invokevirtual 525, 3) := by decide +kernel
theorem dX12_enter_315 : decode cX12_enter 315 = .ok (.iastore, 1) := by decide +kernel
theorem dX12_enter_316 : decode cX12_enter 316 = .ok (.aload_n 0, 1) := by decide +kernel
theorem dX12_enter_317 : decode cX12_enter 317 = .ok (.dup, 1) := by decide +kernel
theorem dX12_enter_318 : decode cX12_enter 318 = .ok (.getfield 500, 3) := by decide +kernel
theorem dX12_enter_321 : decode cX12_enter 321 = .ok (.iconst 1, 1) := by decide +kernel
theorem dX12_enter_322 : decode cX12_enter 322 = .ok (.iadd, 1) := by decide +kernel
theorem dX12_enter_323 : decode cX12_enter 323 = .ok (.putfield 500, 3) := by decide +kernel
theorem dX12_enter_326 : decode cX12_enter 326 = .ok (.return_, 1) := by decide +kernel
theorem dX12_areNumbers_0 : decode cX12_areNumbers 0 = .ok (.iload_n 1, 1) := by decide +kernel
theorem dX12_areNumbers_1 : decode cX12_areNumbers 1 = .ok (.tableswitch 161 1 10 #[55, 55, 65, 73, 65, 101, 161, 161, 141, 151], 55) := by decide +kernel
theorem dX12_areNumbers_56 : decode cX12_areNumbers 56 = .ok (.aload_n 0, 1) := by decide +kernel
theorem dX12_areNumbers_57 : decode cX12_areNumbers 57 = .ok (.invokevirtual 518, 3) := by decide +kernel
theorem dX12_areNumbers_60 : decode cX12_areNumbers 60 = .ok (.iconst 0, 1) := by decide +kernel
theorem dX12_areNumbers_61 : decode cX12_areNumbers 61 = .ok (.iconst 5, 1) := by decide +kernel
theorem dX12_areNumbers_62 : decode cX12_areNumbers 62 = .ok (.invokestatic 322, 3) := by decide +kernel
theorem dX12_areNumbers_65 : decode cX12_areNumbers 65 = .ok (.ireturn, 1) := by decide +kernel
theorem dX12_areNumbers_66 : decode cX12_areNumbers 66 = .ok (.aload_n 0, 1) := by decide +kernel
theorem dX12_areNumbers_67 : decode cX12_areNumbers 67 = .ok (.invokevirtual 518, 3) := by decide +kernel
theorem dX12_areNumbers_70 : decode cX12_areNumbers 70 = .ok (.invokestatic 345, 3) := by decide +kernel
theorem dX12_areNumbers_73 : decode cX12_areNumbers 73 = .ok (.ireturn, 1) := by decide +kernel
theorem dX12_areNumbers_74 : decode cX12_areNumbers 74 = .ok (.aload_n 0, 1) := by decide +kernel
theorem dX12_areNumbers_75 : decode cX12_areNumbers 75 = .ok (.invokevirtual 518, 3) := by decide +kernel
theorem dX12_areNumbers_78 : decode cX12_areNumbers 78 = .ok (.invokestatic 345, 3) := by decide +kernel
theorem dX12_areNumbers_81 : decode cX12_areNumbers 81 = .ok (.ifCond .eq 19, 3) := by decide +kernel
theorem dX12_areNumbers_84 : decode cX12_areNumbers 84 = .ok (.aload_n 0, 1) := by decide +kernel
theorem dX12_areNumbers_85 : decode cX12_areNumbers 85 = .ok (.invokevirtual 540, 3) := by decide +kernel
theorem dX12_areNumbers_88 : decode cX12_areNumbers 88 = .ok (.iconst 0, 1) := by decide +kernel
theorem dX12_areNumbers_89 : decode cX12_areNumbers 89 = .ok (.iconst 5, 1) := by decide +kernel
theorem dX12_areNumbers_90 : decode cX12_areNumbers 90 = .ok (.invokestatic 322, 3) := by decide +kernel
theorem dX12_areNumbers_93 : decode cX12_areNumbers 93 = .ok (.ifCond .eq 7, 3) := by decide +kernel
theorem dX12_areNumbers_96 : decode cX12_areNumbers 96 = .ok (.iconst 1, 1) := by decide +kernel
theorem dX12_areNumbers_97 : decode cX12_areNumbers 97 = .ok (.goto 4, 3) := by decide +kernel
theorem dX12_areNumbers_100 : decode cX12_areNumbers 100 = .ok (.iconst 0, 1) := by decide +kernel
theorem dX12_areNumbers_101 : decode cX12_areNumbers 101 = .ok (.ireturn, 1) := by decide +kernel
theorem dX12_areNumbers_102 : decode cX12_areNumbers 102 = .ok (.aload_n 0, 1) := by decide +kernel
theorem dX12_areNumbers_103 : decode cX12_areNumbers 103 = .ok (.invokevirtual 518, 3) := by decide +kernel
theorem dX12_areNumbers_106 : decode cX12_areNumbers 106 = .ok (.invokestatic 345, 3) := by decide +kernel
theorem dX12_areNumbers_109 : decode cX12_areNumbers 109 = .ok (.ifCond .eq 31, 3) := by decide +kernel
theorem dX12_areNumbers_112 : decode cX12_areNumbers 112 = .ok (.aload_n 0, 1) := by decide +kernel
theorem dX12_areNumbers_113 : decode cX12_areNumbers 113 = .ok (.invokevirtual 525, 3) := by decide +kernel
theorem dX12_areNumbers_116 : decode cX12_areNumbers 116 = .ok (.iconst 0, 1) := by decide +kernel
theorem dX12_areNumbers_117 : decode cX12_areNumbers 117 = .ok (.iconst 3, 1) := by decide +kernel
theorem dX12_areNumbers_118 : decode cX12_areNumbers 118 = .ok (.invokestatic 322, 3) := by decide +kernel
theorem dX12_areNumbers_121 : decode cX12_areNumbers 121 = .ok (.ifCond .eq 19, 3) := by decide +kernel
theorem dX12_areNumbers_124 : decode cX12_areNumbers 124 = .ok (.aload_n 0, 1) := by decide +kernel
theorem dX12_areNumbers_125 : decode cX12_areNumbers 125 = .ok (.invokevirtual 540, 3) := by decide +kernel
theorem dX12_areNumbers_128 : decode cX12_areNumbers 128 = .ok (.iconst 0, 1) := by decide +kernel
theorem dX12_areNumbers_129 : decode cX12_areNumbers 129 = .ok (.iconst 5, 1) := by decide +kernel
theorem dX12_areNumbers_130 : decode cX12_areNumbers 130 = .ok (.invokestatic 322, 3) := by decide +kernel
theorem dX12_areNumbers_133 : decode cX12_areNumbers 133 = .ok (.ifCond .eq 7, 3) := by decide +kernel
theorem dX12_areNumbers_136 : decode cX12_areNumbers 136 = .ok (.iconst 1, 1) := by decide +kernel
theorem dX12_areNumbers_137 : decode cX12_areNumbers 137 = .ok (.goto 4, 3) := by decide +kernel
theorem dX12_areNumbers_140 : decode cX12_areNumbers 140 = .ok (.iconst 0, 1) := by decide +kernel
theorem dX12_areNumbers_141 : decode cX12_areNumbers 141 = .ok (.ireturn, 1) := by decide +kernel
theorem dX12_areNumbers_142 : decode cX12_areNumbers 142 = .ok (.aload_n 0, 1) := by decide +kernel
theorem dX12_areNumbers_143 : decode cX12_areNumbers 143 = .ok (.invokevirtual 518, 3) := by decide +kernel
theorem dX12_areNumbers_146 : decode cX12_areNumbers 146 = .ok (.iconst 0, 1) := by decide +kernel
theorem dX12_areNumbers_147 : decode cX12_areNumbers 147 = .ok (.iconst 2, 1) := by decide +kernel
theorem dX12_areNumbers_148 : decode cX12_areNumbers 148 = .ok (.invokestatic 322, 3) := by decide +kernel
theorem dX12_areNumbers_151 : decode cX12_areNumbers 151 = .ok (.ireturn, 1) := by decide +kernel
theorem dX12_areNumbers_152 : decode cX12_areNumbers 152 = .ok (.aload_n 0, 1) := by decide +kernel
theorem dX12_areNumbers_153 : decode cX12_areNumbers 153 = .ok (.invokevirtual 518, 3) := by decide +kernel
theorem dX12_areNumbers_156 : decode cX12_areNumbers 156 = .ok (.iconst 0, 1) := by decide +kernel
theorem dX12_areNumbers_157 : decode cX12_areNumbers 157 = .ok (.iconst 3, 1) := by decide +kernel
theorem dX12_areNumbers_158 : decode cX12_areNumbers 158 = .ok (.invokestatic 322, 3) := by decide +kernel
theorem dX12_areNumbers_161 : decode cX12_areNumbers 161 = .ok (.ireturn, 1) := by decide +kernel
theorem dX12_areNumbers_162 : decode cX12_areNumbers 162 = .ok (.iconst 1, 1) := by decide +kernel
theorem dX12_areNumbers_163 : decode cX12_areNumbers 163 = .ok (.ireturn, 1) := by decide +kernel
theorem dX12_plain_0 : decode cX12_plain 0 = .ok (.iload_n 1, 1) := by decide +kernel
theorem dX12_plain_1 : decode cX12_plain 1 = .ok (.tableswitch 265 1 6 #[39, 64, 99, 99, 180, 225], 39) := by decide +kernel
theorem dX12_plain_40 : decode cX12_plain 40 = .ok (.aload_n 0, 1) := by decide +kernel
theorem dX12_plain_41 : decode cX12_plain 41 = .ok (.aload_n 0, 1) := by decide +kernel
theorem dX12_plain_42 : decode cX12_plain 42 = .ok (.invokevirtual 518, 3) := by decide +kernel
theorem dX12_plain_45 : decode cX12_plain 45 = .ok (.aload_n 0, 1) := by decide +kernel
theorem dX12_plain_46 : decode cX12_plain 46 = .ok (.getfield 89, 3) := by decide +kernel
theorem dX12_plain_49 : decode cX12_plain 49 = .ok (.aload_n 0, 1) := by decide +kernel
theorem dX12_plain_50 : decode cX12_plain 50 = .ok (.invokevirtual 518, 3) := by decide +kernel
theorem dX12_plain_53 : decode cX12_plain 53 = .ok (.laload, 1) := by decide +kernel
theorem dX12_plain_54 : decode cX12_plain 54 = .ok (.aload_n 0, 1) := by decide +kernel
theorem dX12_plain_55 : decode cX12_plain 55 = .ok (.invokevirtual 525, 3) := by decide +kernel
theorem dX12_plain_58 : decode cX12_plain 58 = .ok (.i2l, 1) := by decide +kernel
theorem dX12_plain_59 : decode cX12_plain 59 = .ok (.ladd, 1) := by decide +kernel
theorem dX12_plain_60 : decode cX12_plain 60 = .ok (.invokevirtual 537, 3) := by decide +kernel
theorem dX12_plain_63 : decode cX12_plain 63 = .ok (.iconst 0, 1) := by decide +kernel
theorem dX12_plain_64 : decode cX12_plain 64 = .ok (.ireturn, 1) := by decide +kernel
theorem dX12_plain_65 : decode cX12_plain 65 = .ok (.aload_n 0, 1) := by decide +kernel
theorem dX12_plain_66 : decode cX12_plain 66 = .ok (.invokevirtual 525, 3) := by decide +kernel
theorem dX12_plain_69 : decode cX12_plain 69 = .ok (.ifCond .ne 6, 3) := by decide +kernel
theorem dX12_plain_72 : decode cX12_plain 72 = .ok (.bipush 6, 2) := by decide +kernel
theorem dX12_plain_74 : decode cX12_plain 74 = .ok (.ireturn, 1) := by decide +kernel
theorem dX12_plain_75 : decode cX12_plain 75 = .ok (.aload_n 0, 1) := by decide +kernel
theorem dX12_plain_76 : decode cX12_plain 76 = .ok (.aload_n 0, 1) := by decide +kernel
theorem dX12_plain_77 : decode cX12_plain 77 = .ok (.invokevirtual 518, 3) := by decide +kernel
theorem dX12_plain_80 : decode cX12_plain 80 = .ok (.aload_n 0, 1) := by decide +kernel
theorem dX12_plain_81 : decode cX12_plain 81 = .ok (.getfield 89, 3) := by decide +kernel
theorem dX12_plain_84 : decode cX12_plain 84 = .ok (.aload_n 0, 1) := by decide +kernel
theorem dX12_plain_85 : decode cX12_plain 85 = .ok (.invokevirtual 518, 3) := by decide +kernel
theorem dX12_plain_88 : decode cX12_plain 88 = .ok (.laload, 1) := by decide +kernel
theorem dX12_plain_89 : decode cX12_plain 89 = .ok (.aload_n 0, 1) := by decide +kernel
theorem dX12_plain_90 : decode cX12_plain 90 = .ok (.invokevirtual 525, 3) := by decide +kernel
theorem dX12_plain_93 : decode cX12_plain 93 = .ok (.i2l, 1) := by decide +kernel
theorem dX12_plain_94 : decode cX12_plain 94 = .ok (.ldiv, 1) := by decide +kernel
theorem dX12_plain_95 : decode cX12_plain 95 = .ok (.invokevirtual 537, 3) := by decide +kernel
theorem dX12_plain_98 : decode cX12_plain 98 = .ok (.iconst 0, 1) := by decide +kernel
theorem dX12_plain_99 : decode cX12_plain 99 = .ok (.ireturn, 1) := by decide +kernel
theorem dX12_plain_100 : decode cX12_plain 100 = .ok (.aload_n 0, 1) := by decide +kernel
theorem dX12_plain_101 : decode cX12_plain 101 = .ok (.getfield 9, 3) := by decide +kernel
theorem dX12_plain_104 : decode cX12_plain 104 = .ok (.aload_n 0, 1) := by decide +kernel
theorem dX12_plain_105 : decode cX12_plain 105 = .ok (.invokevirtual 518, 3) := by decide +kernel
theorem dX12_plain_108 : decode cX12_plain 108 = .ok (.iaload, 1) := by decide +kernel
theorem dX12_plain_109 : decode cX12_plain 109 = .ok (.istore_n 2, 1) := by decide +kernel
theorem dX12_plain_110 : decode cX12_plain 110 = .ok (.aload_n 0, 1) := by decide +kernel
theorem dX12_plain_111 : decode cX12_plain 111 = .ok (.iload_n 2, 1) := by decide +kernel
theorem dX12_plain_112 : decode cX12_plain 112 = .ok (.iconst 4, 1) := by decide +kernel
theorem dX12_plain_113 : decode cX12_plain 113 = .ok (.aload_n 0, 1) := by decide +kernel
theorem dX12_plain_114 : decode cX12_plain 114 = .ok (.invokevirtual 525, 3) := by decide +kernel
theorem dX12_plain_117 : decode cX12_plain 117 = .ok (.invokevirtual 369, 3) := by decide +kernel
theorem dX12_plain_120 : decode cX12_plain 120 = .ok (.istore_n 3, 1) := by decide +kernel
theorem dX12_plain_121 : decode cX12_plain 121 = .ok (.iload_n 3, 1) := by decide +kernel
theorem dX12_plain_122 : decode cX12_plain 122 = .ok (.ifCond .eq 5, 3) := by decide +kernel
theorem dX12_plain_125 : decode cX12_plain 125 = .ok (.iload_n 3, 1) := by decide +kernel
theorem dX12_plain_126 : decode cX12_plain 126 = .ok (.ireturn, 1) := by decide +kernel
theorem dX12_plain_127 : decode cX12_plain 127 = .ok (.iload_n 1, 1) := by decide +kernel
theorem dX12_plain_128 : decode cX12_plain 128 = .ok (.iconst 3, 1) := by decide +kernel
theorem dX12_plain_129 : decode cX12_plain 129 = .ok (.if_icmp .ne 26, 3) := by decide +kernel
theorem dX12_plain_132 : decode cX12_plain 132 = .ok (.aload_n 0, 1) := by decide +kernel
theorem dX12_plain_133 : decode cX12_plain 133 = .ok (.aload_n 0, 1) := by decide +kernel
theorem dX12_plain_134 : decode cX12_plain 134 = .ok (.getfield 22, 3) := by decide +kernel
theorem dX12_plain_137 : decode cX12_plain 137 = .ok (.iload_n 2, 1) := by decide +kernel
theorem dX12_plain_138 : decode cX12_plain 138 = .ok (.iaload, 1) := by decide +kernel
theorem dX12_plain_139 : decode cX12_plain 139 = .ok (.aload_n 0, 1) := by decide +kernel
theorem dX12_plain_140 : decode cX12_plain 140 = .ok (.invokevirtual 525, 3) := by decide +kernel
theorem dX12_plain_143 : decode cX12_plain 143 = .ok (.iadd, 1) := by decide +kernel
theorem dX12_plain_144 : decode cX12_plain 144 = .ok (.aload_n 0, 1) := by decide +kernel
theorem dX12_plain_145 : decode cX12_plain 145 = .ok (.invokevirtual 540, 3) := by decide +kernel
theorem dX12_plain_148 : decode cX12_plain 148 = .ok (.i2l, 1) := by decide +kernel
theorem dX12_plain_149 : decode cX12_plain 149 = .ok (.invokevirtual 543, 3) := by decide +kernel
theorem dX12_plain_152 : decode cX12_plain 152 = .ok (.goto 27, 3) := by decide +kernel
theorem dX12_plain_155 : decode cX12_plain 155 = .ok (.aload_n 0, 1) := by decide +kernel
theorem dX12_plain_156 : decode cX12_plain 156 = .ok (.aload_n 0, 1) := by decide +kernel
theorem dX12_plain_157 : decode cX12_plain 157 = .ok (.invokevirtual 540, 3) := by decide +kernel
theorem dX12_plain_160 : decode cX12_plain 160 = .ok (.aload_n 0, 1) := by decide +kernel
theorem dX12_plain_161 : decode cX12_plain 161 = .ok (.getfield 26, 3) := by decide +kernel
theorem dX12_plain_164 : decode cX12_plain 164 = .ok (.aload_n 0, 1) := by decide +kernel
theorem dX12_plain_165 : decode cX12_plain 165 = .ok (.getfield 22, 3) := by decide +kernel
theorem dX12_plain_168 : decode cX12_plain 168 = .ok (.iload_n 2, 1) := by decide +kernel
theorem dX12_plain_169 : decode cX12_plain 169 = .ok (.iaload, 1) := by decide +kernel
theorem dX12_plain_170 : decode cX12_plain 170 = .ok (.aload_n 0, 1) := by decide +kernel
theorem dX12_plain_171 : decode cX12_plain 171 = .ok (.invokevirtual 525, 3) := by decide +kernel
theorem dX12_plain_174 : decode cX12_plain 174 = .ok (.iadd, 1) := by decide +kernel
theorem dX12_plain_175 : decode cX12_plain 175 = .ok (.laload, 1) := by decide +kernel
theorem dX12_plain_176 : decode cX12_plain 176 = .ok (.invokevirtual 537, 3) := by decide +kernel
theorem dX12_plain_179 : decode cX12_plain 179 = .ok (.iconst 0, 1) := by decide +kernel
theorem dX12_plain_180 : decode cX12_plain 180 = .ok (.ireturn, 1) := by decide +kernel
theorem dX12_plain_181 : decode cX12_plain 181 = .ok (.aload_n 0, 1) := by decide +kernel
theorem dX12_plain_182 : decode cX12_plain 182 = .ok (.getfield 9, 3) := by decide +kernel
theorem dX12_plain_185 : decode cX12_plain 185 = .ok (.aload_n 0, 1) := by decide +kernel
theorem dX12_plain_186 : decode cX12_plain 186 = .ok (.invokevirtual 518, 3) := by decide +kernel
theorem dX12_plain_189 : decode cX12_plain 189 = .ok (.iaload, 1) := by decide +kernel
theorem dX12_plain_190 : decode cX12_plain 190 = .ok (.istore 4, 2) := by decide +kernel
theorem dX12_plain_192 : decode cX12_plain 192 = .ok (.aload_n 0, 1) := by decide +kernel
theorem dX12_plain_193 : decode cX12_plain 193 = .ok (.iload 4, 2) := by decide +kernel
theorem dX12_plain_195 : decode cX12_plain 195 = .ok (.invokevirtual 472, 3) := by decide +kernel
theorem dX12_plain_198 : decode cX12_plain 198 = .ok (.istore 5, 2) := by decide +kernel
theorem dX12_plain_200 : decode cX12_plain 200 = .ok (.iload 5, 2) := by decide +kernel
theorem dX12_plain_202 : decode cX12_plain 202 = .ok (.ifCond .ne 21, 3) := by decide +kernel
theorem dX12_plain_205 : decode cX12_plain 205 = .ok (.aload_n 0, 1) := by decide +kernel
theorem dX12_plain_206 : decode cX12_plain 206 = .ok (.aload_n 0, 1) := by decide +kernel
theorem dX12_plain_207 : decode cX12_plain 207 = .ok (.getfield 22, 3) := by decide +kernel
theorem dX12_plain_210 : decode cX12_plain 210 = .ok (.iload 4, 2) := by decide +kernel
theorem dX12_plain_212 : decode cX12_plain 212 = .ok (.iaload, 1) := by decide +kernel
theorem dX12_plain_213 : decode cX12_plain 213 = .ok (.iconst 4, 1) := by decide +kernel
theorem dX12_plain_214 : decode cX12_plain 214 = .ok (.iadd, 1) := by decide +kernel
theorem dX12_plain_215 : decode cX12_plain 215 = .ok (.aload_n 0, 1) := by decide +kernel
theorem dX12_plain_216 : decode cX12_plain 216 = .ok (.invokevirtual 525, 3) := by decide +kernel
theorem dX12_plain_219 : decode cX12_plain 219 = .ok (.i2l, 1) := by decide +kernel
theorem dX12_plain_220 : decode cX12_plain 220 = .ok (.invokevirtual 543, 3) := by decide +kernel
theorem dX12_plain_223 : decode cX12_plain 223 = .ok (.iload 5, 2) := by decide +kernel
theorem dX12_plain_225 : decode cX12_plain 225 = .ok (.ireturn, 1) := by decide +kernel
theorem dX12_plain_226 : decode cX12_plain 226 = .ok (.aload_n 0, 1) := by decide +kernel
theorem dX12_plain_227 : decode cX12_plain 227 = .ok (.aload_n 0, 1) := by decide +kernel
theorem dX12_plain_228 : decode cX12_plain 228 = .ok (.getfield 9, 3) := by decide +kernel
theorem dX12_plain_231 : decode cX12_plain 231 = .ok (.aload_n 0, 1) := by decide +kernel
theorem dX12_plain_232 : decode cX12_plain 232 = .ok (.invokevirtual 518, 3) := by decide +kernel
theorem dX12_plain_235 : decode cX12_plain 235 = .ok (.iaload, 1) := by decide +kernel
theorem dX12_plain_236 : decode cX12_plain 236 = .ok (.aload_n 0, 1) := by decide +kernel
theorem dX12_plain_237 : decode cX12_plain 237 = .ok (.invokevirtual 525, 3) := by decide +kernel
theorem dX12_plain_240 : decode cX12_plain 240 = .ok (.invokevirtual 463, 3) := by decide +kernel
theorem dX12_plain_243 : decode cX12_plain 243 = .ok (.istore 6, 2) := by decide +kernel
theorem dX12_plain_245 : decode cX12_plain 245 = .ok (.iload 6, 2) := by decide +kernel
theorem dX12_plain_247 : decode cX12_plain 247 = .ok (.ifCond .ne 16, 3) := by decide +kernel
theorem dX12_plain_250 : decode cX12_plain 250 = .ok (.aload_n 0, 1) := by decide +kernel
theorem dX12_plain_251 : decode cX12_plain 251 = .ok (.aload_n 0, 1) := by decide +kernel
theorem dX12_plain_252 : decode cX12_plain 252 = .ok (.invokevirtual 540, 3) := by decide +kernel
theorem dX12_plain_255 : decode cX12_plain 255 = .ok (.aload_n 0, 1) := by decide +kernel
theorem dX12_plain_256 : decode cX12_plain 256 = .ok (.getfield 457, 3) := by decide +kernel
theorem dX12_plain_259 : decode cX12_plain 259 = .ok (.i2l, 1) := by decide +kernel
theorem dX12_plain_260 : decode cX12_plain 260 = .ok (.invokevirtual 537, 3) := by decide +kernel
theorem dX12_plain_263 : decode cX12_plain 263 = .ok (.iload 6, 2) := by decide +kernel
theorem dX12_plain_265 : decode cX12_plain 265 = .ok (.ireturn, 1) := by decide +kernel
theorem dX12_plain_266 : decode cX12_plain 266 = .ok (.aload_n 0, 1) := by decide +kernel
theorem dX12_plain_267 : decode cX12_plain 267 = .ok (.getfield 95, 3) := by decide +kernel
theorem dX12_plain_270 : decode cX12_plain 270 = .ok (.aload_n 0, 1) := by decide +kernel
theorem dX12_plain_271 : decode cX12_plain 271 = .ok (.invokevirtual 518, 3) := by decide +kernel
theorem dX12_plain_274 : decode cX12_plain 274 = .ok (.iaload, 1) := by decide +kernel
theorem dX12_plain_275 : decode cX12_plain 275 = .ok (.ifCond .ne 8, 3) := by decide +kernel
theorem dX12_plain_278 : decode cX12_plain 278 = .ok (.bipush 7, 2) := by decide +kernel
theorem dX12_plain_280 : decode cX12_plain 280 = .ok (.goto 4, 3) := by decide +kernel
theorem dX12_plain_283 : decode cX12_plain 283 = .ok (.iconst 0, 1) := by decide +kernel
theorem dX12_plain_284 : decode cX12_plain 284 = .ok (.ireturn, 1) := by decide +kernel
theorem dX12_isStep_0 : decode cX12_isStep 0 = .ok (.aload_n 0, 1) := by decide +kernel
theorem dX12_isStep_1 : decode cX12_isStep 1 = .ok (.getfield 546, 3) := by decide +kernel
theorem dX12_isStep_4 : decode cX12_isStep 4 = .ok (.sipush 300, 3) := by decide +kernel
theorem dX12_isStep_7 : decode cX12_isStep 7 = .ok (.if_icmp .ne 10, 3) := by decide +kernel
theorem dX12_isStep_10 : decode cX12_isStep 10 = .ok (.aload_n 0, 1) := by decide +kernel
theorem dX12_isStep_11 : decode cX12_isStep 11 = .ok (.iconst 3, 1) := by decide +kernel
theorem dX12_isStep_12 : decode cX12_isStep 12 = .ok (.putfield 491, 3) := by decide +kernel
theorem dX12_isStep_15 : decode cX12_isStep 15 = .ok (.iconst 0, 1) := by decide +kernel
theorem dX12_isStep_16 : decode cX12_isStep 16 = .ok (.ireturn, 1) := by decide +kernel
theorem dX12_isStep_17 : decode cX12_isStep 17 = .ok (.aload_n 0, 1) := by decide +kernel
theorem dX12_isStep_18 : decode cX12_isStep 18 = .ok (.dup, 1) := by decide +kernel
theorem dX12_isStep_19 : decode cX12_isStep 19 = .ok (.getfield 546, 3) := by decide +kernel
theorem dX12_isStep_22 : decode cX12_isStep 22 = .ok (.iconst 1, 1) := by decide +kernel
theorem dX12_isStep_23 : decode cX12_isStep 23 = .ok (.iadd, 1) := by decide +kernel
theorem dX12_isStep_24 : decode cX12_isStep 24 = .ok (.putfield 546, 3) := by decide +kernel
theorem dX12_isStep_27 : decode cX12_isStep 27 = .ok (.iconst 1, 1) := by decide +kernel
theorem dX12_isStep_28 : decode cX12_isStep 28 = .ok (.ireturn, 1) := by decide +kernel
theorem dX12_begin_0 : decode cX12_begin 0 = .ok (.aload_n 0, 1) := by decide +kernel
theorem dX12_begin_1 : decode cX12_begin 1 = .ok (.invokevirtual 549, 3) := by decide +kernel
theorem dX12_begin_4 : decode cX12_begin 4 = .ok (.ifCond .ne 4, 3) := by decide +kernel
theorem dX12_begin_7 : decode cX12_begin 7 = .ok (.return_, 1) := by decide +kernel
theorem dX12_begin_8 : decode cX12_begin 8 = .ok (.iload_n 1, 1) := by decide +kernel
theorem dX12_begin_9 : decode cX12_begin 9 = .ok (.invokestatic 478, 3) := by decide +kernel
theorem dX12_begin_12 : decode cX12_begin 12 = .ok (.ifCond .eq 9, 3) := by decide +kernel
theorem dX12_begin_15 : decode cX12_begin 15 = .ok (.aload_n 0, 1) := by decide +kernel
theorem dX12_begin_16 : decode cX12_begin 16 = .ok (.iload_n 1, 1) := by decide +kernel
theorem dX12_begin_17 : decode cX12_begin 17 = .ok (.invokevirtual 552, 3) := by decide +kernel
theorem dX12_begin_20 : decode cX12_begin 20 = .ok (.return_, 1) := by decide +kernel
theorem dX12_begin_21 : decode cX12_begin 21 = .ok (.aload_n 0, 1) := by decide +kernel
theorem dX12_begin_22 : decode cX12_begin 22 = .ok (.iload_n 1, 1) := by decide +kernel
theorem dX12_begin_23 : decode cX12_begin 23 = .ok (.invokevirtual 555, 3) := by decide +kernel
theorem dX12_begin_26 : decode cX12_begin 26 = .ok (.ifCond .ne 10, 3) := by decide +kernel
theorem dX12_begin_29 : decode cX12_begin 29 = .ok (.aload_n 0, 1) := by decide +kernel
theorem dX12_begin_30 : decode cX12_begin 30 = .ok (.iconst 2, 1) := by decide +kernel
theorem dX12_begin_31 : decode cX12_begin 31 = .ok (.iconst 0, 1) := by decide +kernel
theorem dX12_begin_32 : decode cX12_begin 32 = .ok (.invokevirtual 521, 3) := by decide +kernel
theorem dX12_begin_35 : decode cX12_begin 35 = .ok (.return_, 1) := by decide +kernel
theorem dX12_begin_36 : decode cX12_begin 36 = .ok (.iload_n 1, 1) := by decide +kernel
theorem dX12_begin_37 : decode cX12_begin 37 = .ok (.bipush 7, 2) := by decide +kernel
theorem dX12_begin_39 : decode cX12_begin 39 = .ok (.if_icmp .ne 16, 3) := by decide +kernel
theorem dX12_begin_42 : decode cX12_begin 42 = .ok (.aload_n 0, 1) := by decide +kernel
theorem dX12_begin_43 : decode cX12_begin 43 = .ok (.bipush 8, 2) := by decide +kernel
theorem dX12_begin_45 : decode cX12_begin 45 = .ok (.aload_n 0, 1) := by decide +kernel
theorem dX12_begin_46 : decode cX12_begin 46 = .ok (.invokevirtual 518, 3) := by decide +kernel
theorem dX12_begin_49 : decode cX12_begin 49 = .ok (.invokevirtual 521, 3) := by decide +kernel
theorem dX12_begin_52 : decode cX12_begin 52 = .ok (.goto 67, 3) := by decide +kernel
theorem dX12_begin_55 : decode cX12_begin 55 = .ok (.iload_n 1, 1) := by decide +kernel
theorem dX12_begin_56 : decode cX12_begin 56 = .ok (.bipush 8, 2) := by decide +kernel
theorem dX12_begin_58 : decode cX12_begin 58 = .ok (.if_icmp .ne 19, 3) := by decide +kernel
theorem dX12_begin_61 : decode cX12_begin 61 = .ok (.aload_n 0, 1) := by decide +kernel
theorem dX12_begin_62 : decode cX12_begin 62 = .ok (.iconst 2, 1) := by decide +kernel
theorem dX12_begin_63 : decode cX12_begin 63 = .ok (.putfield 491, 3) := by decide +kernel
theorem dX12_begin_66 : decode cX12_begin 66 = .ok (.aload_n 0, 1) := by decide +kernel
theorem dX12_begin_67 : decode cX12_begin 67 = .ok (.aload_n 0, 1) := by decide +kernel
theorem dX12_begin_68 : decode cX12_begin 68 = .ok (.invokevirtual 518, 3) := by decide +kernel
theorem dX12_begin_71 : decode cX12_begin 71 = .ok (.putfield 558, 3) := by decide +kernel
theorem dX12_begin_74 : decode cX12_begin 74 = .ok (.goto 45, 3) := by decide +kernel
theorem dX12_begin_77 : decode cX12_begin 77 = .ok (.iload_n 1, 1) := by decide +kernel
theorem dX12_begin_78 : decode cX12_begin 78 = .ok (.bipush 10, 2) := by decide +kernel
theorem dX12_begin_80 : decode cX12_begin 80 = .ok (.if_icmp .ne 10, 3) := by decide +kernel
theorem dX12_begin_83 : decode cX12_begin 83 = .ok (.aload_n 0, 1) := by decide +kernel
theorem dX12_begin_84 : decode cX12_begin 84 = .ok (.invokevirtual 561, 3) := by decide +kernel
theorem dX12_begin_87 : decode cX12_begin 87 = .ok (.goto 32, 3) := by decide +kernel
theorem dX12_begin_90 : decode cX12_begin 90 = .ok (.aload_n 0, 1) := by decide +kernel
theorem dX12_begin_91 : decode cX12_begin 91 = .ok (.iload_n 1, 1) := by decide +kernel
theorem dX12_begin_92 : decode cX12_begin 92 = .ok (.invokevirtual 564, 3) := by decide +kernel
theorem dX12_begin_95 : decode cX12_begin 95 = .ok (.istore_n 2, 1) := by decide +kernel
theorem dX12_begin_96 : decode cX12_begin 96 = .ok (.iload_n 2, 1) := by decide +kernel
theorem dX12_begin_97 : decode cX12_begin 97 = .ok (.ifCond .eq 12, 3) := by decide +kernel
theorem dX12_begin_100 : decode cX12_begin 100 = .ok (.aload_n 0, 1) := by decide +kernel
theorem dX12_begin_101 : decode cX12_begin 101 = .ok (.iload_n 2, 1) := by decide +kernel
theorem dX12_begin_102 : decode cX12_begin 102 = .ok (.iconst 0, 1) := by decide +kernel
theorem dX12_begin_103 : decode cX12_begin 103 = .ok (.invokevirtual 521, 3) := by decide +kernel
theorem dX12_begin_106 : decode cX12_begin 106 = .ok (.goto 13, 3) := by decide +kernel
theorem dX12_begin_109 : decode cX12_begin 109 = .ok (.aload_n 0, 1) := by decide +kernel
theorem dX12_begin_110 : decode cX12_begin 110 = .ok (.dup, 1) := by decide +kernel
theorem dX12_begin_111 : decode cX12_begin 111 = .ok (.getfield 500, 3) := by decide +kernel
theorem dX12_begin_114 : decode cX12_begin 114 = .ok (.iconst 1, 1) := by decide +kernel
theorem dX12_begin_115 : decode cX12_begin 115 = .ok (.iadd, 1) := by decide +kernel
theorem dX12_begin_116 : decode cX12_begin 116 = .ok (.putfield 500, 3) := by decide +kernel
theorem dX12_begin_119 : decode cX12_begin 119 = .ok (.return_, 1) := by decide +kernel
theorem dX12_call_0 : decode cX12_call 0 = .ok (.aload_n 0, 1) := by decide +kernel
theorem dX12_call_1 : decode cX12_call 1 = .ok (.aload_n 0, 1) := by decide +kernel
theorem dX12_call_2 : decode cX12_call 2 = .ok (.invokevirtual 518, 3) := by decide +kernel
theorem dX12_call_5 : decode cX12_call 5 = .ok (.invokevirtual 481, 3) := by decide +kernel
theorem dX12_call_8 : decode cX12_call 8 = .ok (.iconst (-1), 1) := by decide +kernel
theorem dX12_call_9 : decode cX12_call 9 = .ok (.if_icmp .eq 14, 3) := by decide +kernel
theorem dX12_call_12 : decode cX12_call 12 = .ok (.aload_n 0, 1) := by decide +kernel
theorem dX12_call_13 : decode cX12_call 13 = .ok (.bipush 8, 2) := by decide +kernel
theorem dX12_call_15 : decode cX12_call 15 = .ok (.bipush 98, 2) := by decide +kernel
theorem dX12_call_17 : decode cX12_call 17 = .ok (.invokevirtual 521, 3) := by decide +kernel
theorem dX12_call_20 : decode cX12_call 20 = .ok (.goto 54, 3) := by decide +kernel
theorem dX12_call_23 : decode cX12_call 23 = .ok (.aload_n 0, 1) := by decide +kernel
theorem dX12_call_24 : decode cX12_call 24 = .ok (.getfield 567, 3) := by decide +kernel
theorem dX12_call_27 : decode cX12_call 27 = .ok (.bipush 6, 2) := by decide +kernel
theorem dX12_call_29 : decode cX12_call 29 = .ok (.if_icmp .ne 14, 3) := by decide +kernel
theorem dX12_call_32 : decode cX12_call 32 = .ok (.aload_n 0, 1) := by decide +kernel
theorem dX12_call_33 : decode cX12_call 33 = .ok (.bipush 8, 2) := by decide +kernel
theorem dX12_call_35 : decode cX12_call 35 = .ok (.bipush 99, 2) := by decide +kernel
theorem dX12_call_37 : decode cX12_call 37 = .ok (.invokevirtual 521, 3) := by decide +kernel
theorem dX12_call_40 : decode cX12_call 40 = .ok (.goto 34, 3) := by decide +kernel
theorem dX12_call_43 : decode cX12_call 43 = .ok (.aload_n 0, 1) := by decide +kernel
theorem dX12_call_44 : decode cX12_call 44 = .ok (.invokevirtual 518, 3) := by decide +kernel
theorem dX12_call_47 : decode cX12_call 47 = .ok (.istore_n 1, 1) := by decide +kernel
theorem dX12_call_48 : decode cX12_call 48 = .ok (.aload_n 0, 1) := by decide +kernel
theorem dX12_call_49 : decode cX12_call 49 = .ok (.bipush 10, 2) := by decide +kernel
theorem dX12_call_51 : decode cX12_call 51 = .ok (.invokevirtual 531, 3) := by decide +kernel
theorem dX12_call_54 : decode cX12_call 54 = .ok (.aload_n 0, 1) := by decide +kernel
theorem dX12_call_55 : decode cX12_call 55 = .ok (.dup, 1) := by decide +kernel
theorem dX12_call_56 : decode cX12_call 56 = .ok (.getfield 567, 3) := by decide +kernel
theorem dX12_call_59 : decode cX12_call 59 = .ok (.iconst 1, 1) := by decide +kernel
theorem dX12_call_60 : decode cX12_call 60 = .ok (.iadd, 1) := by decide +kernel
theorem dX12_call_61 : decode cX12_call 61 = .ok (.putfield 567, 3) := by decide +kernel
theorem dX12_call_64 : decode cX12_call 64 = .ok (.aload_n 0, 1) := by decide +kernel
theorem dX12_call_65 : decode cX12_call 65 = .ok (.iload_n 1, 1) := by decide +kernel
theorem dX12_call_66 : decode cX12_call 66 = .ok (.putfield 515, 3) := by decide +kernel
theorem dX12_call_69 : decode cX12_call 69 = .ok (.aload_n 0, 1) := by decide +kernel
theorem dX12_call_70 : decode cX12_call 70 = .ok (.iconst 0, 1) := by decide +kernel
theorem dX12_call_71 : decode cX12_call 71 = .ok (.putfield 500, 3) := by decide +kernel
theorem dX12_call_74 : decode cX12_call 74 = .ok (.return_, 1) := by decide +kernel
theorem dX12_giveBack_0 : decode cX12_giveBack 0 = .ok (.bipush 40, 2) := by decide +kernel
theorem dX12_giveBack_2 : decode cX12_giveBack 2 = .ok (.aload_n 0, 1) := by decide +kernel
theorem dX12_giveBack_3 : decode cX12_giveBack 3 = .ok (.getfield 104, 3) := by decide +kernel
theorem dX12_giveBack_6 : decode cX12_giveBack 6 = .ok (.iload_n 1, 1) := by decide +kernel
theorem dX12_giveBack_7 : decode cX12_giveBack 7 = .ok (.iaload, 1) := by decide +kernel
theorem dX12_giveBack_8 : decode cX12_giveBack 8 = .ok (.imul, 1) := by decide +kernel
theorem dX12_giveBack_9 : decode cX12_giveBack 9 = .ok (.aload_n 0, 1) := by decide +kernel
theorem dX12_giveBack_10 : decode cX12_giveBack 10 = .ok (.getfield 107, 3) := by decide +kernel
theorem dX12_giveBack_13 : decode cX12_giveBack 13 = .ok (.iload_n 1, 1) := by decide +kernel
theorem dX12_giveBack_14 : decode cX12_giveBack 14 = .ok (.iaload, 1) := by decide +kernel
theorem dX12_giveBack_15 : decode cX12_giveBack 15 = .ok (.iadd, 1) := by decide +kernel
theorem dX12_giveBack_16 : decode cX12_giveBack 16 = .ok (.istore_n 2, 1) := by decide +kernel
theorem dX12_giveBack_17 : decode cX12_giveBack 17 = .ok (.aload_n 0, 1) := by decide +kernel
theorem dX12_giveBack_18 : decode cX12_giveBack 18 = .ok (.getfield 101, 3) := by decide +kernel
theorem dX12_giveBack_21 : decode cX12_giveBack 21 = .ok (.iload_n 1, 1) := by decide +kernel
theorem dX12_giveBack_22 : decode cX12_giveBack 22 = .ok (.iaload, 1) := by decide +kernel
theorem dX12_giveBack_23 : decode cX12_giveBack 23 = .ok (.bipush 11, 2) := by decide +kernel
theorem dX12_giveBack_25 : decode cX12_giveBack 25 = .ok (.if_icmp .ne 21, 3) := by decide +kernel
theorem dX12_giveBack_28 : decode cX12_giveBack 28 = .ok (.aload_n 0, 1) := by decide +kernel
theorem dX12_giveBack_29 : decode cX12_giveBack 29 = .ok (.getfield 95, 3) := by decide +kernel
theorem dX12_giveBack_32 : decode cX12_giveBack 32 = .ok (.aload_n 0, 1) := by decide +kernel
theorem dX12_giveBack_33 : decode cX12_giveBack 33 = .ok (.getfield 80, 3) := by decide +kernel
theorem dX12_giveBack_36 : decode cX12_giveBack 36 = .ok (.iload_n 2, 1) := by decide +kernel
theorem dX12_giveBack_37 : decode cX12_giveBack 37 = .ok (.iaload, 1) := by decide +kernel
theorem dX12_giveBack_38 : decode cX12_giveBack 38 = .ok (.dup2, 1) := by decide +kernel
theorem dX12_giveBack_39 : decode cX12_giveBack 39 = .ok (.iaload, 1) := by decide +kernel
theorem dX12_giveBack_40 : decode cX12_giveBack 40 = .ok (.iconst 1, 1) := by decide +kernel
theorem dX12_giveBack_41 : decode cX12_giveBack 41 = .ok (.isub, 1) := by decide +kernel
theorem dX12_giveBack_42 : decode cX12_giveBack 42 = .ok (.iastore, 1) := by decide +kernel
theorem dX12_giveBack_43 : decode cX12_giveBack 43 = .ok (.goto 74, 3) := by decide +kernel
theorem dX12_giveBack_46 : decode cX12_giveBack 46 = .ok (.aload_n 0, 1) := by decide +kernel
theorem dX12_giveBack_47 : decode cX12_giveBack 47 = .ok (.getfield 101, 3) := by decide +kernel
theorem dX12_giveBack_50 : decode cX12_giveBack 50 = .ok (.iload_n 1, 1) := by decide +kernel
theorem dX12_giveBack_51 : decode cX12_giveBack 51 = .ok (.iaload, 1) := by decide +kernel
theorem dX12_giveBack_52 : decode cX12_giveBack 52 = .ok (.bipush 12, 2) := by decide +kernel
theorem dX12_giveBack_54 : decode cX12_giveBack 54 = .ok (.if_icmp .ne 35, 3) := by decide +kernel
theorem dX12_giveBack_57 : decode cX12_giveBack 57 = .ok (.aload_n 0, 1) := by decide +kernel
theorem dX12_giveBack_58 : decode cX12_giveBack 58 = .ok (.aload_n 0, 1) := by decide +kernel
theorem dX12_giveBack_59 : decode cX12_giveBack 59 = .ok (.getfield 80, 3) := by decide +kernel
theorem dX12_giveBack_62 : decode cX12_giveBack 62 = .ok (.iload_n 2, 1) := by decide +kernel
theorem dX12_giveBack_63 : decode cX12_giveBack 63 = .ok (.iaload, 1) := by decide +kernel
theorem dX12_giveBack_64 : decode cX12_giveBack 64 = .ok (.aload_n 0, 1) := by decide +kernel
theorem dX12_giveBack_65 : decode cX12_giveBack 65 = .ok (.getfield 89, 3) := by decide +kernel
theorem dX12_giveBack_68 : decode cX12_giveBack 68 = .ok (.aload_n 0, 1) := by decide +kernel
theorem dX12_giveBack_69 : decode cX12_giveBack 69 = .ok (.getfield 80, 3) := by decide +kernel
theorem dX12_giveBack_72 : decode cX12_giveBack 72 = .ok (.iload_n 2, 1) := by decide +kernel
theorem dX12_giveBack_73 : decode cX12_giveBack 73 = .ok (.iaload, 1) := by decide +kernel
theorem dX12_giveBack_74 : decode cX12_giveBack 74 = .ok (.laload, 1) := by decide +kernel
theorem dX12_giveBack_75 : decode cX12_giveBack 75 = .ok (.aload_n 0, 1) := by decide +kernel
theorem dX12_giveBack_76 : decode cX12_giveBack 76 = .ok (.getfield 83, 3) := by decide +kernel
theorem dX12_giveBack_79 : decode cX12_giveBack 79 = .ok (.iload_n 2, 1) := by decide +kernel
theorem dX12_giveBack_80 : decode cX12_giveBack 80 = .ok (.iaload, 1) := by decide +kernel
theorem dX12_giveBack_81 : decode cX12_giveBack 81 = .ok (.i2l, 1) := by decide +kernel
theorem dX12_giveBack_82 : decode cX12_giveBack 82 = .ok (.ladd, 1) := by decide +kernel
theorem dX12_giveBack_83 : decode cX12_giveBack 83 = .ok (.invokevirtual 537, 3) := by decide +kernel
theorem dX12_giveBack_86 : decode cX12_giveBack 86 = .ok (.goto 31, 3) := by decide +kernel
theorem dX12_giveBack_89 : decode cX12_giveBack 89 = .ok (.aload_n 0, 1) := by decide +kernel
theorem dX12_giveBack_90 : decode cX12_giveBack 90 = .ok (.getfield 101, 3) := by decide +kernel
theorem dX12_giveBack_93 : decode cX12_giveBack 93 = .ok (.iload_n 1, 1) := by decide +kernel
theorem dX12_giveBack_94 : decode cX12_giveBack 94 = .ok (.iaload, 1) := by decide +kernel
theorem dX12_giveBack_95 : decode cX12_giveBack 95 = .ok (.bipush 13, 2) := by decide +kernel
theorem dX12_giveBack_97 : decode cX12_giveBack 97 = .ok (.if_icmp .ne 20, 3) := by decide +kernel
theorem dX12_giveBack_100 : decode cX12_giveBack 100 = .ok (.aload_n 0, 1) := by decide +kernel
theorem dX12_giveBack_101 : decode cX12_giveBack 101 = .ok (.getfield 92, 3) := by decide +kernel
theorem dX12_giveBack_104 : decode cX12_giveBack 104 = .ok (.aload_n 0, 1) := by decide +kernel
theorem dX12_giveBack_105 : decode cX12_giveBack 105 = .ok (.getfield 80, 3) := by decide +kernel
theorem dX12_giveBack_108 : decode cX12_giveBack 108 = .ok (.iload_n 2, 1) := by decide +kernel
theorem dX12_giveBack_109 : decode cX12_giveBack 109 = .ok (.iaload, 1) := by decide +kernel
theorem dX12_giveBack_110 : decode cX12_giveBack 110 = .ok (.aload_n 0, 1) := by decide +kernel
theorem dX12_giveBack_111 : decode cX12_giveBack 111 = .ok (.getfield 86, 3) := by decide +kernel
theorem dX12_giveBack_114 : decode cX12_giveBack 114 = .ok (.iload_n 2, 1) := by decide +kernel
theorem dX12_giveBack_115 : decode cX12_giveBack 115 = .ok (.iaload, 1) := by decide +kernel
theorem dX12_giveBack_116 : decode cX12_giveBack 116 = .ok (.iastore, 1) := by decide +kernel
theorem dX12_giveBack_117 : decode cX12_giveBack 117 = .ok (.return_, 1) := by decide +kernel
theorem dX12_behind_0 : decode cX12_behind 0 = .ok (.iload_n 2, 1) := by decide +kernel
theorem dX12_behind_1 : decode cX12_behind 1 = .ok (.istore_n 3, 1) := by decide +kernel
theorem dX12_behind_2 : decode cX12_behind 2 = .ok (.iload_n 3, 1) := by decide +kernel
theorem dX12_behind_3 : decode cX12_behind 3 = .ok (.aload_n 0, 1) := by decide +kernel
theorem dX12_behind_4 : decode cX12_behind 4 = .ok (.getfield 74, 3) := by decide +kernel
theorem dX12_behind_7 : decode cX12_behind 7 = .ok (.iload_n 1, 1) := by decide +kernel
theorem dX12_behind_8 : decode cX12_behind 8 = .ok (.iaload, 1) := by decide +kernel
theorem dX12_behind_9 : decode cX12_behind 9 = .ok (.if_icmp .ge 31, 3) := by decide +kernel
theorem dX12_behind_12 : decode cX12_behind 12 = .ok (.aload_n 0, 1) := by decide +kernel
theorem dX12_behind_13 : decode cX12_behind 13 = .ok (.getfield 77, 3) := by decide +kernel
theorem dX12_behind_16 : decode cX12_behind 16 = .ok (.bipush 40, 2) := by decide +kernel
theorem dX12_behind_18 : decode cX12_behind 18 = .ok (.iload_n 1, 1) := by decide +kernel
theorem dX12_behind_19 : decode cX12_behind 19 = .ok (.imul, 1) := by decide +kernel
theorem dX12_behind_20 : decode cX12_behind 20 = .ok (.iload_n 3, 1) := by decide +kernel
theorem dX12_behind_21 : decode cX12_behind 21 = .ok (.iadd, 1) := by decide +kernel
theorem dX12_behind_22 : decode cX12_behind 22 = .ok (.iaload, 1) := by decide +kernel
theorem dX12_behind_23 : decode cX12_behind 23 = .ok (.bipush 17, 2) := by decide +kernel
theorem dX12_behind_25 : decode cX12_behind 25 = .ok (.if_icmp .ne 15, 3) := by decide +kernel
theorem dX12_behind_28 : decode cX12_behind 28 = .ok (.aload_n 0, 1) := by decide +kernel
theorem dX12_behind_29 : decode cX12_behind 29 = .ok (.iload_n 1, 1) := by decide +kernel
theorem dX12_behind_30 : decode cX12_behind 30 = .ok (.iload_n 3, 1) := by decide +kernel
theorem dX12_behind_31 : decode cX12_behind 31 = .ok (.invokevirtual 528, 3) := by decide +kernel
theorem dX12_behind_34 : decode cX12_behind 34 = .ok (.iconst 1, 1) := by decide +kernel
theorem dX12_behind_35 : decode cX12_behind 35 = .ok (.iadd, 1) := by decide +kernel
theorem dX12_behind_36 : decode cX12_behind 36 = .ok (.istore_n 3, 1) := by decide +kernel
theorem dX12_behind_37 : decode cX12_behind 37 = .ok (.goto (-35), 3) := by decide +kernel
theorem dX12_behind_40 : decode cX12_behind 40 = .ok (.aload_n 0, 1) := by decide +kernel
theorem dX12_behind_41 : decode cX12_behind 41 = .ok (.iload_n 1, 1) := by decide +kernel
theorem dX12_behind_42 : decode cX12_behind 42 = .ok (.putfield 515, 3) := by decide +kernel
theorem dX12_behind_45 : decode cX12_behind 45 = .ok (.aload_n 0, 1) := by decide +kernel
theorem dX12_behind_46 : decode cX12_behind 46 = .ok (.iload_n 3, 1) := by decide +kernel
theorem dX12_behind_47 : decode cX12_behind 47 = .ok (.putfield 500, 3) := by decide +kernel
theorem dX12_behind_50 : decode cX12_behind 50 = .ok (.iload_n 3, 1) := by decide +kernel
theorem dX12_behind_51 : decode cX12_behind 51 = .ok (.aload_n 0, 1) := by decide +kernel
theorem dX12_behind_52 : decode cX12_behind 52 = .ok (.getfield 74, 3) := by decide +kernel
theorem dX12_behind_55 : decode cX12_behind 55 = .ok (.iload_n 1, 1) := by decide +kernel
theorem dX12_behind_56 : decode cX12_behind 56 = .ok (.iaload, 1) := by decide +kernel
theorem dX12_behind_57 : decode cX12_behind 57 = .ok (.if_icmp .ge 121, 3) := by decide +kernel
theorem dX12_behind_60 : decode cX12_behind 60 = .ok (.aload_n 0, 1) := by decide +kernel
theorem dX12_behind_61 : decode cX12_behind 61 = .ok (.getfield 77, 3) := by decide +kernel
theorem dX12_behind_64 : decode cX12_behind 64 = .ok (.bipush 40, 2) := by decide +kernel
theorem dX12_behind_66 : decode cX12_behind 66 = .ok (.iload_n 1, 1) := by decide +kernel
theorem dX12_behind_67 : decode cX12_behind 67 = .ok (.imul, 1) := by decide +kernel
theorem dX12_behind_68 : decode cX12_behind 68 = .ok (.iload_n 3, 1) := by decide +kernel
theorem dX12_behind_69 : decode cX12_behind 69 = .ok (.iadd, 1) := by decide +kernel
theorem dX12_behind_70 : decode cX12_behind 70 = .ok (.iaload, 1) := by decide +kernel
theorem dX12_behind_71 : decode cX12_behind 71 = .ok (.bipush 18, 2) := by decide +kernel
theorem dX12_behind_73 : decode cX12_behind 73 = .ok (.if_icmp .ne 105, 3) := by decide +kernel
theorem dX12_behind_76 : decode cX12_behind 76 = .ok (.aload_n 0, 1) := by decide +kernel
theorem dX12_behind_77 : decode cX12_behind 77 = .ok (.bipush 18, 2) := by decide +kernel
theorem dX12_behind_79 : decode cX12_behind 79 = .ok (.invokevirtual 531, 3) := by decide +kernel
theorem dX12_behind_82 : decode cX12_behind 82 = .ok (.aload_n 0, 1) := by decide +kernel
theorem dX12_behind_83 : decode cX12_behind 83 = .ok (.getfield 512, 3) := by decide +kernel
theorem dX12_behind_86 : decode cX12_behind 86 = .ok (.iconst 1, 1) := by decide +kernel
theorem dX12_behind_87 : decode cX12_behind 87 = .ok (.isub, 1) := by decide +kernel
theorem dX12_behind_88 : decode cX12_behind 88 = .ok (.istore 4, 2) := by decide +kernel
theorem dX12_behind_90 : decode cX12_behind 90 = .ok (.aload_n 0, 1) := by decide +kernel
theorem dX12_behind_91 : decode cX12_behind 91 = .ok (.getfield 116, 3) := by decide +kernel
theorem dX12_behind_94 : decode cX12_behind 94 = .ok (.iload 4, 2) := by decide +kernel
theorem dX12_behind_96 : decode cX12_behind 96 = .ok (.aload_n 0, 1) := by decide +kernel
theorem dX12_behind_97 : decode cX12_behind 97 = .ok (.getfield 491, 3) := by decide +kernel
theorem dX12_behind_100 : decode cX12_behind 100 = .ok (.iastore, 1) := by decide +kernel
theorem dX12_behind_101 : decode cX12_behind 101 = .ok (.aload_n 0, 1) := by decide +kernel
theorem dX12_behind_102 : decode cX12_behind 102 = .ok (.getfield 119, 3) := by decide +kernel
theorem dX12_behind_105 : decode cX12_behind 105 = .ok (.iload 4, 2) := by decide +kernel
theorem dX12_behind_107 : decode cX12_behind 107 = .ok (.aload_n 0, 1) := by decide +kernel
theorem dX12_behind_108 : decode cX12_behind 108 = .ok (.getfield 494, 3) := by decide +kernel
theorem dX12_behind_111 : decode cX12_behind 111 = .ok (.iastore, 1) := by decide +kernel
theorem dX12_behind_112 : decode cX12_behind 112 = .ok (.aload_n 0, 1) := by decide +kernel
theorem dX12_behind_113 : decode cX12_behind 113 = .ok (.getfield 122, 3) := by decide +kernel
theorem dX12_behind_116 : decode cX12_behind 116 = .ok (.iload 4, 2) := by decide +kernel
theorem dX12_behind_118 : decode cX12_behind 118 = .ok (.aload_n 0, 1) := by decide +kernel
theorem dX12_behind_119 : decode cX12_behind 119 = .ok (.getfield 497, 3) := by decide +kernel
theorem dX12_behind_122 : decode cX12_behind 122 = .ok (.iastore, 1) := by decide +kernel
theorem dX12_behind_123 : decode cX12_behind 123 = .ok (.aload_n 0, 1) := by decide +kernel
theorem dX12_behind_124 : decode cX12_behind 124 = .ok (.getfield 125, 3) := by decide +kernel
theorem dX12_behind_127 : decode cX12_behind 127 = .ok (.iload 4, 2) := by decide +kernel
theorem dX12_behind_129 : decode cX12_behind 129 = .ok (.aload_n 0, 1) := by decide +kernel
theorem dX12_behind_130 : decode cX12_behind 130 = .ok (.getfield 503, 3) := by decide +kernel
theorem dX12_behind_133 : decode cX12_behind 133 = .ok (.iastore, 1) := by decide +kernel
theorem dX12_behind_134 : decode cX12_behind 134 = .ok (.aload_n 0, 1) := by decide +kernel
theorem dX12_behind_135 : decode cX12_behind 135 = .ok (.getfield 128, 3) := by decide +kernel
theorem dX12_behind_138 : decode cX12_behind 138 = .ok (.iload 4, 2) := by decide +kernel
theorem dX12_behind_140 : decode cX12_behind 140 = .ok (.aload_n 0, 1) := by decide +kernel
theorem dX12_behind_141 : decode cX12_behind 141 = .ok (.getfield 506, 3) := by decide +kernel
theorem dX12_behind_144 : decode cX12_behind 144 = .ok (.iastore, 1) := by decide +kernel
theorem dX12_behind_145 : decode cX12_behind 145 = .ok (.aload_n 0, 1) := by decide +kernel
theorem dX12_behind_146 : decode cX12_behind 146 = .ok (.getfield 131, 3) := by decide +kernel
theorem dX12_behind_149 : decode cX12_behind 149 = .ok (.iload 4, 2) := by decide +kernel
theorem dX12_behind_151 : decode cX12_behind 151 = .ok (.aload_n 0, 1) := by decide +kernel
theorem dX12_behind_152 : decode cX12_behind 152 = .ok (.getfield 558, 3) := by decide +kernel
theorem dX12_behind_155 : decode cX12_behind 155 = .ok (.iastore, 1) := by decide +kernel
theorem dX12_behind_156 : decode cX12_behind 156 = .ok (.aload_n 0, 1) := by decide +kernel
theorem dX12_behind_157 : decode cX12_behind 157 = .ok (.iconst 0, 1) := by decide +kernel
theorem dX12_behind_158 : decode cX12_behind 158 = .ok (.putfield 491, 3) := by decide +kernel
theorem dX12_behind_161 : decode cX12_behind 161 = .ok (.aload_n 0, 1) := by decide +kernel
theorem dX12_behind_162 : decode cX12_behind 162 = .ok (.dup, 1) := by decide +kernel
theorem dX12_behind_163 : decode cX12_behind 163 = .ok (.getfield 570, 3) := by decide +kernel
theorem dX12_behind_166 : decode cX12_behind 166 = .ok (.iconst 1, 1) := by decide +kernel
theorem dX12_behind_167 : decode cX12_behind 167 = .ok (.iadd, 1) := by decide +kernel
theorem dX12_behind_168 : decode cX12_behind 168 = .ok (.putfield 570, 3) := by decide +kernel
theorem dX12_behind_171 : decode cX12_behind 171 = .ok (.aload_n 0, 1) := by decide +kernel
theorem dX12_behind_172 : decode cX12_behind 172 = .ok (.iload_n 3, 1) := by decide +kernel
theorem dX12_behind_173 : decode cX12_behind 173 = .ok (.iconst 1, 1) := by decide +kernel
theorem dX12_behind_174 : decode cX12_behind 174 = .ok (.iadd, 1) := by decide +kernel
theorem dX12_behind_175 : decode cX12_behind 175 = .ok (.putfield 500, 3) := by decide +kernel
theorem dX12_behind_178 : decode cX12_behind 178 = .ok (.return_, 1) := by decide +kernel
theorem dX12_close_0 : decode cX12_close 0 = .ok (.aload_n 0, 1) := by decide +kernel
theorem dX12_close_1 : decode cX12_close 1 = .ok (.getfield 512, 3) := by decide +kernel
theorem dX12_close_4 : decode cX12_close 4 = .ok (.iconst 1, 1) := by decide +kernel
theorem dX12_close_5 : decode cX12_close 5 = .ok (.isub, 1) := by decide +kernel
theorem dX12_close_6 : decode cX12_close 6 = .ok (.istore_n 1, 1) := by decide +kernel
theorem dX12_close_7 : decode cX12_close 7 = .ok (.aload_n 0, 1) := by decide +kernel
theorem dX12_close_8 : decode cX12_close 8 = .ok (.getfield 101, 3) := by decide +kernel
theorem dX12_close_11 : decode cX12_close 11 = .ok (.iload_n 1, 1) := by decide +kernel
theorem dX12_close_12 : decode cX12_close 12 = .ok (.iaload, 1) := by decide +kernel
theorem dX12_close_13 : decode cX12_close 13 = .ok (.istore_n 2, 1) := by decide +kernel
theorem dX12_close_14 : decode cX12_close 14 = .ok (.aload_n 0, 1) := by decide +kernel
theorem dX12_close_15 : decode cX12_close 15 = .ok (.iload_n 1, 1) := by decide +kernel
theorem dX12_close_16 : decode cX12_close 16 = .ok (.invokevirtual 573, 3) := by decide +kernel
theorem dX12_close_19 : decode cX12_close 19 = .ok (.aload_n 0, 1) := by decide +kernel
theorem dX12_close_20 : decode cX12_close 20 = .ok (.dup, 1) := by decide +kernel
theorem dX12_close_21 : decode cX12_close 21 = .ok (.getfield 512, 3) := by decide +kernel
theorem dX12_close_24 : decode cX12_close 24 = .ok (.iconst 1, 1) := by decide +kernel
theorem dX12_close_25 : decode cX12_close 25 = .ok (.isub, 1) := by decide +kernel
theorem dX12_close_26 : decode cX12_close 26 = .ok (.putfield 512, 3) := by decide +kernel
theorem dX12_close_29 : decode cX12_close 29 = .ok (.aload_n 0, 1) := by decide +kernel
theorem dX12_close_30 : decode cX12_close 30 = .ok (.getfield 500, 3) := by decide +kernel
theorem dX12_close_33 : decode cX12_close 33 = .ok (.istore_n 3, 1) := by decide +kernel
theorem dX12_close_34 : decode cX12_close 34 = .ok (.iload_n 2, 1) := by decide +kernel
theorem dX12_close_35 : decode cX12_close 35 = .ok (.tableswitch 130 16 20 #[46, 46, 60, 130, 33], 33) := by decide +kernel
theorem dX12_close_68 : decode cX12_close 68 = .ok (.aload_n 0, 1) := by decide +kernel
theorem dX12_close_69 : decode cX12_close 69 = .ok (.aload_n 0, 1) := by decide +kernel
theorem dX12_close_70 : decode cX12_close 70 = .ok (.getfield 107, 3) := by decide +kernel
theorem dX12_close_73 : decode cX12_close 73 = .ok (.iload_n 1, 1) := by decide +kernel
theorem dX12_close_74 : decode cX12_close 74 = .ok (.iaload, 1) := by decide +kernel
theorem dX12_close_75 : decode cX12_close 75 = .ok (.putfield 500, 3) := by decide +kernel
theorem dX12_close_78 : decode cX12_close 78 = .ok (.goto 94, 3) := by decide +kernel
theorem dX12_close_81 : decode cX12_close 81 = .ok (.aload_n 0, 1) := by decide +kernel
theorem dX12_close_82 : decode cX12_close 82 = .ok (.aload_n 0, 1) := by decide +kernel
theorem dX12_close_83 : decode cX12_close 83 = .ok (.getfield 515, 3) := by decide +kernel
theorem dX12_close_86 : decode cX12_close 86 = .ok (.iload_n 3, 1) := by decide +kernel
theorem dX12_close_87 : decode cX12_close 87 = .ok (.iconst 1, 1) := by decide +kernel
theorem dX12_close_88 : decode cX12_close 88 = .ok (.iadd, 1) := by decide +kernel
theorem dX12_close_89 : decode cX12_close 89 = .ok (.invokevirtual 576, 3) := by decide +kernel
theorem dX12_close_92 : decode cX12_close 92 = .ok (.goto 80, 3) := by decide +kernel
theorem dX12_close_95 : decode cX12_close 95 = .ok (.aload_n 0, 1) := by decide +kernel
theorem dX12_close_96 : decode cX12_close 96 = .ok (.iload_n 3, 1) := by decide +kernel
theorem dX12_close_97 : decode cX12_close 97 = .ok (.iconst 1, 1) := by decide +kernel
theorem dX12_close_98 : decode cX12_close 98 = .ok (.iadd, 1) := by decide +kernel
theorem dX12_close_99 : decode cX12_close 99 = .ok (.putfield 500, 3) := by decide +kernel
theorem dX12_close_102 : decode cX12_close 102 = .ok (.aload_n 0, 1) := by decide +kernel
theorem dX12_close_103 : decode cX12_close 103 = .ok (.aload_n 0, 1) := by decide +kernel
theorem dX12_close_104 : decode cX12_close 104 = .ok (.getfield 116, 3) := by decide +kernel
theorem dX12_close_107 : decode cX12_close 107 = .ok (.iload_n 1, 1) := by decide +kernel
theorem dX12_close_108 : decode cX12_close 108 = .ok (.iaload, 1) := by decide +kernel
theorem dX12_close_109 : decode cX12_close 109 = .ok (.putfield 491, 3) := by decide +kernel
theorem dX12_close_112 : decode cX12_close 112 = .ok (.aload_n 0, 1) := by decide +kernel
theorem dX12_close_113 : decode cX12_close 113 = .ok (.aload_n 0, 1) := by decide +kernel
theorem dX12_close_114 : decode cX12_close 114 = .ok (.getfield 119, 3) := by decide +kernel
theorem dX12_close_117 : decode cX12_close 117 = .ok (.iload_n 1, 1) := by decide +kernel
theorem dX12_close_118 : decode cX12_close 118 = .ok (.iaload, 1) := by decide +kernel
theorem dX12_close_119 : decode cX12_close 119 = .ok (.putfield 494, 3) := by decide +kernel
theorem dX12_close_122 : decode cX12_close 122 = .ok (.aload_n 0, 1) := by decide +kernel
theorem dX12_close_123 : decode cX12_close 123 = .ok (.aload_n 0, 1) := by decide +kernel
theorem dX12_close_124 : decode cX12_close 124 = .ok (.getfield 122, 3) := by decide +kernel
theorem dX12_close_127 : decode cX12_close 127 = .ok (.iload_n 1, 1) := by decide +kernel
theorem dX12_close_128 : decode cX12_close 128 = .ok (.iaload, 1) := by decide +kernel
theorem dX12_close_129 : decode cX12_close 129 = .ok (.putfield 497, 3) := by decide +kernel
theorem dX12_close_132 : decode cX12_close 132 = .ok (.aload_n 0, 1) := by decide +kernel
theorem dX12_close_133 : decode cX12_close 133 = .ok (.aload_n 0, 1) := by decide +kernel
theorem dX12_close_134 : decode cX12_close 134 = .ok (.getfield 125, 3) := by decide +kernel
theorem dX12_close_137 : decode cX12_close 137 = .ok (.iload_n 1, 1) := by decide +kernel
theorem dX12_close_138 : decode cX12_close 138 = .ok (.iaload, 1) := by decide +kernel
theorem dX12_close_139 : decode cX12_close 139 = .ok (.putfield 503, 3) := by decide +kernel
theorem dX12_close_142 : decode cX12_close 142 = .ok (.aload_n 0, 1) := by decide +kernel
theorem dX12_close_143 : decode cX12_close 143 = .ok (.aload_n 0, 1) := by decide +kernel
theorem dX12_close_144 : decode cX12_close 144 = .ok (.getfield 128, 3) := by decide +kernel
theorem dX12_close_147 : decode cX12_close 147 = .ok (.iload_n 1, 1) := by decide +kernel
theorem dX12_close_148 : decode cX12_close 148 = .ok (.iaload, 1) := by decide +kernel
theorem dX12_close_149 : decode cX12_close 149 = .ok (.putfield 506, 3) := by decide +kernel
theorem dX12_close_152 : decode cX12_close 152 = .ok (.aload_n 0, 1) := by decide +kernel
theorem dX12_close_153 : decode cX12_close 153 = .ok (.aload_n 0, 1) := by decide +kernel
theorem dX12_close_154 : decode cX12_close 154 = .ok (.getfield 131, 3) := by decide +kernel
theorem dX12_close_157 : decode cX12_close 157 = .ok (.iload_n 1, 1) := by decide +kernel
theorem dX12_close_158 : decode cX12_close 158 = .ok (.iaload, 1) := by decide +kernel
theorem dX12_close_159 : decode cX12_close 159 = .ok (.putfield 558, 3) := by decide +kernel
theorem dX12_close_162 : decode cX12_close 162 = .ok (.goto 10, 3) := by decide +kernel
theorem dX12_close_165 : decode cX12_close 165 = .ok (.aload_n 0, 1) := by decide +kernel
theorem dX12_close_166 : decode cX12_close 166 = .ok (.iload_n 3, 1) := by decide +kernel
theorem dX12_close_167 : decode cX12_close 167 = .ok (.iconst 1, 1) := by decide +kernel
theorem dX12_close_168 : decode cX12_close 168 = .ok (.iadd, 1) := by decide +kernel
theorem dX12_close_169 : decode cX12_close 169 = .ok (.putfield 500, 3) := by decide +kernel
theorem dX12_close_172 : decode cX12_close 172 = .ok (.return_, 1) := by decide +kernel
theorem dX12_isMet_0 : decode cX12_isMet 0 = .ok (.aload_n 0, 1) := by decide +kernel
theorem dX12_isMet_1 : decode cX12_isMet 1 = .ok (.iload_n 1, 1) := by decide +kernel
theorem dX12_isMet_2 : decode cX12_isMet 2 = .ok (.iload_n 2, 1) := by decide +kernel
theorem dX12_isMet_3 : decode cX12_isMet 3 = .ok (.invokevirtual 528, 3) := by decide +kernel
theorem dX12_isMet_6 : decode cX12_isMet 6 = .ok (.iconst 1, 1) := by decide +kernel
theorem dX12_isMet_7 : decode cX12_isMet 7 = .ok (.iadd, 1) := by decide +kernel
theorem dX12_isMet_8 : decode cX12_isMet 8 = .ok (.istore_n 3, 1) := by decide +kernel
theorem dX12_isMet_9 : decode cX12_isMet 9 = .ok (.iload_n 3, 1) := by decide +kernel
theorem dX12_isMet_10 : decode cX12_isMet 10 = .ok (.aload_n 0, 1) := by decide +kernel
theorem dX12_isMet_11 : decode cX12_isMet 11 = .ok (.getfield 74, 3) := by decide +kernel
theorem dX12_isMet_14 : decode cX12_isMet 14 = .ok (.iload_n 1, 1) := by decide +kernel
theorem dX12_isMet_15 : decode cX12_isMet 15 = .ok (.iaload, 1) := by decide +kernel
theorem dX12_isMet_16 : decode cX12_isMet 16 = .ok (.if_icmp .ge 116, 3) := by decide +kernel
theorem dX12_isMet_19 : decode cX12_isMet 19 = .ok (.aload_n 0, 1) := by decide +kernel
theorem dX12_isMet_20 : decode cX12_isMet 20 = .ok (.getfield 77, 3) := by decide +kernel
theorem dX12_isMet_23 : decode cX12_isMet 23 = .ok (.bipush 40, 2) := by decide +kernel
theorem dX12_isMet_25 : decode cX12_isMet 25 = .ok (.iload_n 1, 1) := by decide +kernel
theorem dX12_isMet_26 : decode cX12_isMet 26 = .ok (.imul, 1) := by decide +kernel
theorem dX12_isMet_27 : decode cX12_isMet 27 = .ok (.iload_n 3, 1) := by decide +kernel
theorem dX12_isMet_28 : decode cX12_isMet 28 = .ok (.iadd, 1) := by decide +kernel
theorem dX12_isMet_29 : decode cX12_isMet 29 = .ok (.iaload, 1) := by decide +kernel
theorem dX12_isMet_30 : decode cX12_isMet 30 = .ok (.bipush 17, 2) := by decide +kernel
theorem dX12_isMet_32 : decode cX12_isMet 32 = .ok (.if_icmp .ne 100, 3) := by decide +kernel
theorem dX12_isMet_35 : decode cX12_isMet 35 = .ok (.aload_n 0, 1) := by decide +kernel
theorem dX12_isMet_36 : decode cX12_isMet 36 = .ok (.getfield 80, 3) := by decide +kernel
theorem dX12_isMet_39 : decode cX12_isMet 39 = .ok (.bipush 40, 2) := by decide +kernel
theorem dX12_isMet_41 : decode cX12_isMet 41 = .ok (.iload_n 1, 1) := by decide +kernel
theorem dX12_isMet_42 : decode cX12_isMet 42 = .ok (.imul, 1) := by decide +kernel
theorem dX12_isMet_43 : decode cX12_isMet 43 = .ok (.iload_n 3, 1) := by decide +kernel
theorem dX12_isMet_44 : decode cX12_isMet 44 = .ok (.iadd, 1) := by decide +kernel
theorem dX12_isMet_45 : decode cX12_isMet 45 = .ok (.iaload, 1) := by decide +kernel
theorem dX12_isMet_46 : decode cX12_isMet 46 = .ok (.istore 4, 2) := by decide +kernel
theorem dX12_isMet_48 : decode cX12_isMet 48 = .ok (.iload 4, 2) := by decide +kernel
theorem dX12_isMet_50 : decode cX12_isMet 50 = .ok (.ifCond .eq 12, 3) := by decide +kernel
theorem dX12_isMet_53 : decode cX12_isMet 53 = .ok (.iload 4, 2) := by decide +kernel
theorem dX12_isMet_55 : decode cX12_isMet 55 = .ok (.aload_n 0, 1) := by decide +kernel
theorem dX12_isMet_56 : decode cX12_isMet 56 = .ok (.getfield 494, 3) := by decide +kernel
theorem dX12_isMet_59 : decode cX12_isMet 59 = .ok (.if_icmp .ne 61, 3) := by decide +kernel
theorem dX12_isMet_62 : decode cX12_isMet 62 = .ok (.aload_n 0, 1) := by decide +kernel
theorem dX12_isMet_63 : decode cX12_isMet 63 = .ok (.iload_n 1, 1) := by decide +kernel
theorem dX12_isMet_64 : decode cX12_isMet 64 = .ok (.putfield 515, 3) := by decide +kernel
theorem dX12_isMet_67 : decode cX12_isMet 67 = .ok (.aload_n 0, 1) := by decide +kernel
theorem dX12_isMet_68 : decode cX12_isMet 68 = .ok (.iload_n 3, 1) := by decide +kernel
theorem dX12_isMet_69 : decode cX12_isMet 69 = .ok (.putfield 500, 3) := by decide +kernel
theorem dX12_isMet_72 : decode cX12_isMet 72 = .ok (.aload_n 0, 1) := by decide +kernel
theorem dX12_isMet_73 : decode cX12_isMet 73 = .ok (.bipush 17, 2) := by decide +kernel
theorem dX12_isMet_75 : decode cX12_isMet 75 = .ok (.invokevirtual 531, 3) := by decide +kernel
theorem dX12_isMet_78 : decode cX12_isMet 78 = .ok (.aload_n 0, 1) := by decide +kernel
theorem dX12_isMet_79 : decode cX12_isMet 79 = .ok (.getfield 119, 3) := by decide +kernel
theorem dX12_isMet_82 : decode cX12_isMet 82 = .ok (.aload_n 0, 1) := by decide +kernel
theorem dX12_isMet_83 : decode cX12_isMet 83 = .ok (.getfield 512, 3) := by decide +kernel
theorem dX12_isMet_86 : decode cX12_isMet 86 = .ok (.iconst 1, 1) := by decide +kernel
theorem dX12_isMet_87 : decode cX12_isMet 87 = .ok (.isub, 1) := by decide +kernel
theorem dX12_isMet_88 : decode cX12_isMet 88 = .ok (.aload_n 0, 1) := by decide +kernel
theorem dX12_isMet_89 : decode cX12_isMet 89 = .ok (.getfield 494, 3) := by decide +kernel
theorem dX12_isMet_92 : decode cX12_isMet 92 = .ok (.iastore, 1) := by decide +kernel
theorem dX12_isMet_93 : decode cX12_isMet 93 = .ok (.aload_n 0, 1) := by decide +kernel
theorem dX12_isMet_94 : decode cX12_isMet 94 = .ok (.dup, 1) := by decide +kernel
theorem dX12_isMet_95 : decode cX12_isMet 95 = .ok (.getfield 579, 3) := by decide +kernel
theorem dX12_isMet_98 : decode cX12_isMet 98 = .ok (.iconst 1, 1) := by decide +kernel
theorem dX12_isMet_99 : decode cX12_isMet 99 = .ok (.iadd, 1) := by decide +kernel
theorem dX12_isMet_100 : decode cX12_isMet 100 = .ok (.putfield 579, 3) := by decide +kernel
theorem dX12_isMet_103 : decode cX12_isMet 103 = .ok (.aload_n 0, 1) := by decide +kernel
theorem dX12_isMet_104 : decode cX12_isMet 104 = .ok (.iconst 0, 1) := by decide +kernel
theorem dX12_isMet_105 : decode cX12_isMet 105 = .ok (.putfield 491, 3) := by decide +kernel
theorem dX12_isMet_108 : decode cX12_isMet 108 = .ok (.aload_n 0, 1) := by decide +kernel
theorem dX12_isMet_109 : decode cX12_isMet 109 = .ok (.dup, 1) := by decide +kernel
theorem dX12_isMet_110 : decode cX12_isMet 110 = .ok (.getfield 500, 3) := by decide +kernel
theorem dX12_isMet_113 : decode cX12_isMet 113 = .ok (.iconst 1, 1) := by decide +kernel
theorem dX12_isMet_114 : decode cX12_isMet 114 = .ok (.iadd, 1) := by decide +kernel
theorem dX12_isMet_115 : decode cX12_isMet 115 = .ok (.putfield 500, 3) := by decide +kernel
theorem dX12_isMet_118 : decode cX12_isMet 118 = .ok (.iconst 1, 1) := by decide +kernel
theorem dX12_isMet_119 : decode cX12_isMet 119 = .ok (.ireturn, 1) := by decide +kernel
theorem dX12_isMet_120 : decode cX12_isMet 120 = .ok (.aload_n 0, 1) := by decide +kernel
theorem dX12_isMet_121 : decode cX12_isMet 121 = .ok (.iload_n 1, 1) := by decide +kernel
theorem dX12_isMet_122 : decode cX12_isMet 122 = .ok (.iload_n 3, 1) := by decide +kernel
theorem dX12_isMet_123 : decode cX12_isMet 123 = .ok (.invokevirtual 528, 3) := by decide +kernel
theorem dX12_isMet_126 : decode cX12_isMet 126 = .ok (.iconst 1, 1) := by decide +kernel
theorem dX12_isMet_127 : decode cX12_isMet 127 = .ok (.iadd, 1) := by decide +kernel
theorem dX12_isMet_128 : decode cX12_isMet 128 = .ok (.istore_n 3, 1) := by decide +kernel
theorem dX12_isMet_129 : decode cX12_isMet 129 = .ok (.goto (-120), 3) := by decide +kernel
theorem dX12_isMet_132 : decode cX12_isMet 132 = .ok (.iconst 0, 1) := by decide +kernel
theorem dX12_isMet_133 : decode cX12_isMet 133 = .ok (.ireturn, 1) := by decide +kernel
theorem dX12_unwind_0 : decode cX12_unwind 0 = .ok (.aload_n 0, 1) := by decide +kernel
theorem dX12_unwind_1 : decode cX12_unwind 1 = .ok (.dup, 1) := by decide +kernel
theorem dX12_unwind_2 : decode cX12_unwind 2 = .ok (.getfield 512, 3) := by decide +kernel
theorem dX12_unwind_5 : decode cX12_unwind 5 = .ok (.iconst 1, 1) := by decide +kernel
theorem dX12_unwind_6 : decode cX12_unwind 6 = .ok (.isub, 1) := by decide +kernel
theorem dX12_unwind_7 : decode cX12_unwind 7 = .ok (.putfield 512, 3) := by decide +kernel
theorem dX12_unwind_10 : decode cX12_unwind 10 = .ok (.aload_n 0, 1) := by decide +kernel
theorem dX12_unwind_11 : decode cX12_unwind 11 = .ok (.getfield 512, 3) := by decide +kernel
theorem dX12_unwind_14 : decode cX12_unwind 14 = .ok (.istore_n 1, 1) := by decide +kernel
theorem dX12_unwind_15 : decode cX12_unwind 15 = .ok (.aload_n 0, 1) := by decide +kernel
theorem dX12_unwind_16 : decode cX12_unwind 16 = .ok (.getfield 104, 3) := by decide +kernel
theorem dX12_unwind_19 : decode cX12_unwind 19 = .ok (.iload_n 1, 1) := by decide +kernel
theorem dX12_unwind_20 : decode cX12_unwind 20 = .ok (.iaload, 1) := by decide +kernel
theorem dX12_unwind_21 : decode cX12_unwind 21 = .ok (.istore_n 2, 1) := by decide +kernel
theorem dX12_unwind_22 : decode cX12_unwind 22 = .ok (.aload_n 0, 1) := by decide +kernel
theorem dX12_unwind_23 : decode cX12_unwind 23 = .ok (.getfield 107, 3) := by decide +kernel
theorem dX12_unwind_26 : decode cX12_unwind 26 = .ok (.iload_n 1, 1) := by decide +kernel
theorem dX12_unwind_27 : decode cX12_unwind 27 = .ok (.iaload, 1) := by decide +kernel
theorem dX12_unwind_28 : decode cX12_unwind 28 = .ok (.istore_n 3, 1) := by decide +kernel
theorem dX12_unwind_29 : decode cX12_unwind 29 = .ok (.aload_n 0, 1) := by decide +kernel
theorem dX12_unwind_30 : decode cX12_unwind 30 = .ok (.iload_n 1, 1) := by decide +kernel
theorem dX12_unwind_31 : decode cX12_unwind 31 = .ok (.invokevirtual 573, 3) := by decide +kernel
theorem dX12_unwind_34 : decode cX12_unwind 34 = .ok (.aload_n 0, 1) := by decide +kernel
theorem dX12_unwind_35 : decode cX12_unwind 35 = .ok (.getfield 101, 3) := by decide +kernel
theorem dX12_unwind_38 : decode cX12_unwind 38 = .ok (.iload_n 1, 1) := by decide +kernel
theorem dX12_unwind_39 : decode cX12_unwind 39 = .ok (.iaload, 1) := by decide +kernel
theorem dX12_unwind_40 : decode cX12_unwind 40 = .ok (.tableswitch 234 10 21 #[80, 234, 234, 234, 93, 93, 119, 154, 196, 234, 234, 64], 64) := by decide +kernel
theorem dX12_unwind_104 : decode cX12_unwind 104 = .ok (.aload_n 0, 1) := by decide +kernel
theorem dX12_unwind_105 : decode cX12_unwind 105 = .ok (.getfield 491, 3) := by decide +kernel
theorem dX12_unwind_108 : decode cX12_unwind 108 = .ok (.iconst 1, 1) := by decide +kernel
theorem dX12_unwind_109 : decode cX12_unwind 109 = .ok (.if_icmp .ne 165, 3) := by decide +kernel
theorem dX12_unwind_112 : decode cX12_unwind 112 = .ok (.aload_n 0, 1) := by decide +kernel
theorem dX12_unwind_113 : decode cX12_unwind 113 = .ok (.iconst 0, 1) := by decide +kernel
theorem dX12_unwind_114 : decode cX12_unwind 114 = .ok (.invokevirtual 582, 3) := by decide +kernel
theorem dX12_unwind_117 : decode cX12_unwind 117 = .ok (.goto 157, 3) := by decide +kernel
theorem dX12_unwind_120 : decode cX12_unwind 120 = .ok (.aload_n 0, 1) := by decide +kernel
theorem dX12_unwind_121 : decode cX12_unwind 121 = .ok (.dup, 1) := by decide +kernel
theorem dX12_unwind_122 : decode cX12_unwind 122 = .ok (.getfield 567, 3) := by decide +kernel
theorem dX12_unwind_125 : decode cX12_unwind 125 = .ok (.iconst 1, 1) := by decide +kernel
theorem dX12_unwind_126 : decode cX12_unwind 126 = .ok (.isub, 1) := by decide +kernel
theorem dX12_unwind_127 : decode cX12_unwind 127 = .ok (.putfield 567, 3) := by decide +kernel
theorem dX12_unwind_130 : decode cX12_unwind 130 = .ok (.goto 144, 3) := by decide +kernel
theorem dX12_unwind_133 : decode cX12_unwind 133 = .ok (.aload_n 0, 1) := by decide +kernel
theorem dX12_unwind_134 : decode cX12_unwind 134 = .ok (.getfield 491, 3) := by decide +kernel
theorem dX12_unwind_137 : decode cX12_unwind 137 = .ok (.iconst 1, 1) := by decide +kernel
theorem dX12_unwind_138 : decode cX12_unwind 138 = .ok (.if_icmp .ne 136, 3) := by decide +kernel
theorem dX12_unwind_141 : decode cX12_unwind 141 = .ok (.aload_n 0, 1) := by decide +kernel
theorem dX12_unwind_142 : decode cX12_unwind 142 = .ok (.aload_n 0, 1) := by decide +kernel
theorem dX12_unwind_143 : decode cX12_unwind 143 = .ok (.getfield 110, 3) := by decide +kernel
theorem dX12_unwind_146 : decode cX12_unwind 146 = .ok (.iload_n 1, 1) := by decide +kernel
theorem dX12_unwind_147 : decode cX12_unwind 147 = .ok (.iaload, 1) := by decide +kernel
theorem dX12_unwind_148 : decode cX12_unwind 148 = .ok (.invokevirtual 582, 3) := by decide +kernel
theorem dX12_unwind_151 : decode cX12_unwind 151 = .ok (.aload_n 0, 1) := by decide +kernel
theorem dX12_unwind_152 : decode cX12_unwind 152 = .ok (.iload_n 1, 1) := by decide +kernel
theorem dX12_unwind_153 : decode cX12_unwind 153 = .ok (.invokevirtual 585, 3) := by decide +kernel
theorem dX12_unwind_156 : decode cX12_unwind 156 = .ok (.goto 118, 3) := by decide +kernel
theorem dX12_unwind_159 : decode cX12_unwind 159 = .ok (.aload_n 0, 1) := by decide +kernel
theorem dX12_unwind_160 : decode cX12_unwind 160 = .ok (.getfield 491, 3) := by decide +kernel
theorem dX12_unwind_163 : decode cX12_unwind 163 = .ok (.iconst 1, 1) := by decide +kernel
theorem dX12_unwind_164 : decode cX12_unwind 164 = .ok (.if_icmp .ne 13, 3) := by decide +kernel
theorem dX12_unwind_167 : decode cX12_unwind 167 = .ok (.aload_n 0, 1) := by decide +kernel
theorem dX12_unwind_168 : decode cX12_unwind 168 = .ok (.iload_n 2, 1) := by decide +kernel
theorem dX12_unwind_169 : decode cX12_unwind 169 = .ok (.iload_n 3, 1) := by decide +kernel
theorem dX12_unwind_170 : decode cX12_unwind 170 = .ok (.invokevirtual 588, 3) := by decide +kernel
theorem dX12_unwind_173 : decode cX12_unwind 173 = .ok (.ifCond .eq 4, 3) := by decide +kernel
theorem dX12_unwind_176 : decode cX12_unwind 176 = .ok (.return_, 1) := by decide +kernel
theorem dX12_unwind_177 : decode cX12_unwind 177 = .ok (.aload_n 0, 1) := by decide +kernel
theorem dX12_unwind_178 : decode cX12_unwind 178 = .ok (.getfield 491, 3) := by decide +kernel
theorem dX12_unwind_181 : decode cX12_unwind 181 = .ok (.iconst 3, 1) := by decide +kernel
theorem dX12_unwind_182 : decode cX12_unwind 182 = .ok (.if_icmp .eq 92, 3) := by decide +kernel
theorem dX12_unwind_185 : decode cX12_unwind 185 = .ok (.aload_n 0, 1) := by decide +kernel
theorem dX12_unwind_186 : decode cX12_unwind 186 = .ok (.iload_n 2, 1) := by decide +kernel
theorem dX12_unwind_187 : decode cX12_unwind 187 = .ok (.iload_n 3, 1) := by decide +kernel
theorem dX12_unwind_188 : decode cX12_unwind 188 = .ok (.invokevirtual 591, 3) := by decide +kernel
theorem dX12_unwind_191 : decode cX12_unwind 191 = .ok (.goto 83, 3) := by decide +kernel
theorem dX12_unwind_194 : decode cX12_unwind 194 = .ok (.aload_n 0, 1) := by decide +kernel
theorem dX12_unwind_195 : decode cX12_unwind 195 = .ok (.aload_n 0, 1) := by decide +kernel
theorem dX12_unwind_196 : decode cX12_unwind 196 = .ok (.getfield 491, 3) := by decide +kernel
theorem dX12_unwind_199 : decode cX12_unwind 199 = .ok (.iconst 1, 1) := by decide +kernel
theorem dX12_unwind_200 : decode cX12_unwind 200 = .ok (.if_icmp .ne 12, 3) := by decide +kernel
theorem dX12_unwind_203 : decode cX12_unwind 203 = .ok (.aload_n 0, 1) := by decide +kernel
theorem dX12_unwind_204 : decode cX12_unwind 204 = .ok (.getfield 119, 3) := by decide +kernel
theorem dX12_unwind_207 : decode cX12_unwind 207 = .ok (.iload_n 1, 1) := by decide +kernel
theorem dX12_unwind_208 : decode cX12_unwind 208 = .ok (.iaload, 1) := by decide +kernel
theorem dX12_unwind_209 : decode cX12_unwind 209 = .ok (.goto 7, 3) := by decide +kernel
theorem dX12_unwind_212 : decode cX12_unwind 212 = .ok (.aload_n 0, 1) := by decide +kernel
theorem dX12_unwind_213 : decode cX12_unwind 213 = .ok (.getfield 506, 3) := by decide +kernel
theorem dX12_unwind_216 : decode cX12_unwind 216 = .ok (.putfield 506, 3) := by decide +kernel
theorem dX12_unwind_219 : decode cX12_unwind 219 = .ok (.aload_n 0, 1) := by decide +kernel
theorem dX12_unwind_220 : decode cX12_unwind 220 = .ok (.getfield 491, 3) := by decide +kernel
theorem dX12_unwind_223 : decode cX12_unwind 223 = .ok (.iconst 3, 1) := by decide +kernel
theorem dX12_unwind_224 : decode cX12_unwind 224 = .ok (.if_icmp .eq 50, 3) := by decide +kernel
theorem dX12_unwind_227 : decode cX12_unwind 227 = .ok (.aload_n 0, 1) := by decide +kernel
theorem dX12_unwind_228 : decode cX12_unwind 228 = .ok (.iload_n 2, 1) := by decide +kernel
theorem dX12_unwind_229 : decode cX12_unwind 229 = .ok (.iload_n 3, 1) := by decide +kernel
theorem dX12_unwind_230 : decode cX12_unwind 230 = .ok (.invokevirtual 591, 3) := by decide +kernel
theorem dX12_unwind_233 : decode cX12_unwind 233 = .ok (.goto 41, 3) := by decide +kernel
theorem dX12_unwind_236 : decode cX12_unwind 236 = .ok (.aload_n 0, 1) := by decide +kernel
theorem dX12_unwind_237 : decode cX12_unwind 237 = .ok (.aload_n 0, 1) := by decide +kernel
theorem dX12_unwind_238 : decode cX12_unwind 238 = .ok (.getfield 491, 3) := by decide +kernel
theorem dX12_unwind_241 : decode cX12_unwind 241 = .ok (.iconst 1, 1) := by decide +kernel
theorem dX12_unwind_242 : decode cX12_unwind 242 = .ok (.if_icmp .ne 22, 3) := by decide +kernel
theorem dX12_unwind_245 : decode cX12_unwind 245 = .ok (.aload_n 0, 1) := by decide +kernel
theorem dX12_unwind_246 : decode cX12_unwind 246 = .ok (.getfield 116, 3) := by decide +kernel
theorem dX12_unwind_249 : decode cX12_unwind 249 = .ok (.iload_n 1, 1) := by decide +kernel
theorem dX12_unwind_250 : decode cX12_unwind 250 = .ok (.iaload, 1) := by decide +kernel
theorem dX12_unwind_251 : decode cX12_unwind 251 = .ok (.iconst 1, 1) := by decide +kernel
theorem dX12_unwind_252 : decode cX12_unwind 252 = .ok (.if_icmp .ne 12, 3) := by decide +kernel
theorem dX12_unwind_255 : decode cX12_unwind 255 = .ok (.aload_n 0, 1) := by decide +kernel
theorem dX12_unwind_256 : decode cX12_unwind 256 = .ok (.getfield 119, 3) := by decide +kernel
theorem dX12_unwind_259 : decode cX12_unwind 259 = .ok (.iload_n 1, 1) := by decide +kernel
theorem dX12_unwind_260 : decode cX12_unwind 260 = .ok (.iaload, 1) := by decide +kernel
theorem dX12_unwind_261 : decode cX12_unwind 261 = .ok (.goto 7, 3) := by decide +kernel
theorem dX12_unwind_264 : decode cX12_unwind 264 = .ok (.aload_n 0, 1) := by decide +kernel
theorem dX12_unwind_265 : decode cX12_unwind 265 = .ok (.getfield 506, 3) := by decide +kernel
theorem dX12_unwind_268 : decode cX12_unwind 268 = .ok (.putfield 506, 3) := by decide +kernel
theorem dX12_unwind_271 : decode cX12_unwind 271 = .ok (.goto 3, 3) := by decide +kernel
theorem dX12_unwind_274 : decode cX12_unwind 274 = .ok (.return_, 1) := by decide +kernel
theorem dX12_leave_0 : decode cX12_leave 0 = .ok (.aload_n 0, 1) := by decide +kernel
theorem dX12_leave_1 : decode cX12_leave 1 = .ok (.iload_n 1, 1) := by decide +kernel
theorem dX12_leave_2 : decode cX12_leave 2 = .ok (.iload_n 2, 1) := by decide +kernel
theorem dX12_leave_3 : decode cX12_leave 3 = .ok (.invokevirtual 528, 3) := by decide +kernel
theorem dX12_leave_6 : decode cX12_leave 6 = .ok (.iconst 1, 1) := by decide +kernel
theorem dX12_leave_7 : decode cX12_leave 7 = .ok (.iadd, 1) := by decide +kernel
theorem dX12_leave_8 : decode cX12_leave 8 = .ok (.istore_n 3, 1) := by decide +kernel
theorem dX12_leave_9 : decode cX12_leave 9 = .ok (.iload_n 3, 1) := by decide +kernel
theorem dX12_leave_10 : decode cX12_leave 10 = .ok (.aload_n 0, 1) := by decide +kernel
theorem dX12_leave_11 : decode cX12_leave 11 = .ok (.getfield 74, 3) := by decide +kernel
theorem dX12_leave_14 : decode cX12_leave 14 = .ok (.iload_n 1, 1) := by decide +kernel
theorem dX12_leave_15 : decode cX12_leave 15 = .ok (.iaload, 1) := by decide +kernel
theorem dX12_leave_16 : decode cX12_leave 16 = .ok (.if_icmp .ge 31, 3) := by decide +kernel
theorem dX12_leave_19 : decode cX12_leave 19 = .ok (.aload_n 0, 1) := by decide +kernel
theorem dX12_leave_20 : decode cX12_leave 20 = .ok (.getfield 77, 3) := by decide +kernel
theorem dX12_leave_23 : decode cX12_leave 23 = .ok (.bipush 40, 2) := by decide +kernel
theorem dX12_leave_25 : decode cX12_leave 25 = .ok (.iload_n 1, 1) := by decide +kernel
theorem dX12_leave_26 : decode cX12_leave 26 = .ok (.imul, 1) := by decide +kernel
theorem dX12_leave_27 : decode cX12_leave 27 = .ok (.iload_n 3, 1) := by decide +kernel
theorem dX12_leave_28 : decode cX12_leave 28 = .ok (.iadd, 1) := by decide +kernel
theorem dX12_leave_29 : decode cX12_leave 29 = .ok (.iaload, 1) := by decide +kernel
theorem dX12_leave_30 : decode cX12_leave 30 = .ok (.bipush 17, 2) := by decide +kernel
theorem dX12_leave_32 : decode cX12_leave 32 = .ok (.if_icmp .ne 15, 3) := by decide +kernel
theorem dX12_leave_35 : decode cX12_leave 35 = .ok (.aload_n 0, 1) := by decide +kernel
theorem dX12_leave_36 : decode cX12_leave 36 = .ok (.iload_n 1, 1) := by decide +kernel
theorem dX12_leave_37 : decode cX12_leave 37 = .ok (.iload_n 3, 1) := by decide +kernel
theorem dX12_leave_38 : decode cX12_leave 38 = .ok (.invokevirtual 528, 3) := by decide +kernel
theorem dX12_leave_41 : decode cX12_leave 41 = .ok (.iconst 1, 1) := by decide +kernel
theorem dX12_leave_42 : decode cX12_leave 42 = .ok (.iadd, 1) := by decide +kernel
theorem dX12_leave_43 : decode cX12_leave 43 = .ok (.istore_n 3, 1) := by decide +kernel
theorem dX12_leave_44 : decode cX12_leave 44 = .ok (.goto (-35), 3) := by decide +kernel
theorem dX12_leave_47 : decode cX12_leave 47 = .ok (.iload_n 3, 1) := by decide +kernel
theorem dX12_leave_48 : decode cX12_leave 48 = .ok (.aload_n 0, 1) := by decide +kernel
theorem dX12_leave_49 : decode cX12_leave 49 = .ok (.getfield 74, 3) := by decide +kernel
theorem dX12_leave_52 : decode cX12_leave 52 = .ok (.iload_n 1, 1) := by decide +kernel
theorem dX12_leave_53 : decode cX12_leave 53 = .ok (.iaload, 1) := by decide +kernel
theorem dX12_leave_54 : decode cX12_leave 54 = .ok (.if_icmp .ge 25, 3) := by decide +kernel
theorem dX12_leave_57 : decode cX12_leave 57 = .ok (.aload_n 0, 1) := by decide +kernel
theorem dX12_leave_58 : decode cX12_leave 58 = .ok (.getfield 77, 3) := by decide +kernel
theorem dX12_leave_61 : decode cX12_leave 61 = .ok (.bipush 40, 2) := by decide +kernel
theorem dX12_leave_63 : decode cX12_leave 63 = .ok (.iload_n 1, 1) := by decide +kernel
theorem dX12_leave_64 : decode cX12_leave 64 = .ok (.imul, 1) := by decide +kernel
theorem dX12_leave_65 : decode cX12_leave 65 = .ok (.iload_n 3, 1) := by decide +kernel
theorem dX12_leave_66 : decode cX12_leave 66 = .ok (.iadd, 1) := by decide +kernel
theorem dX12_leave_67 : decode cX12_leave 67 = .ok (.iaload, 1) := by decide +kernel
theorem dX12_leave_68 : decode cX12_leave 68 = .ok (.bipush 18, 2) := by decide +kernel
theorem dX12_leave_70 : decode cX12_leave 70 = .ok (.if_icmp .ne 9, 3) := by decide +kernel
theorem dX12_leave_73 : decode cX12_leave 73 = .ok (.aload_n 0, 1) := by decide +kernel
theorem dX12_leave_74 : decode cX12_leave 74 = .ok (.iload_n 1, 1) := by decide +kernel
theorem dX12_leave_75 : decode cX12_leave 75 = .ok (.iload_n 3, 1) := by decide +kernel
theorem dX12_leave_76 : decode cX12_leave 76 = .ok (.invokevirtual 576, 3) := by decide +kernel
theorem dX12_leave_79 : decode cX12_leave 79 = .ok (.return_, 1) := by decide +kernel
theorem dX12_again_0 : decode cX12_again 0 = .ok (.bipush 40, 2) := by decide +kernel
theorem dX12_again_2 : decode cX12_again 2 = .ok (.aload_n 0, 1) := by decide +kernel
theorem dX12_again_3 : decode cX12_again 3 = .ok (.getfield 104, 3) := by decide +kernel
theorem dX12_again_6 : decode cX12_again 6 = .ok (.iload_n 1, 1) := by decide +kernel
theorem dX12_again_7 : decode cX12_again 7 = .ok (.iaload, 1) := by decide +kernel
theorem dX12_again_8 : decode cX12_again 8 = .ok (.imul, 1) := by decide +kernel
theorem dX12_again_9 : decode cX12_again 9 = .ok (.aload_n 0, 1) := by decide +kernel
theorem dX12_again_10 : decode cX12_again 10 = .ok (.getfield 107, 3) := by decide +kernel
theorem dX12_again_13 : decode cX12_again 13 = .ok (.iload_n 1, 1) := by decide +kernel
theorem dX12_again_14 : decode cX12_again 14 = .ok (.iaload, 1) := by decide +kernel
theorem dX12_again_15 : decode cX12_again 15 = .ok (.iadd, 1) := by decide +kernel
theorem dX12_again_16 : decode cX12_again 16 = .ok (.istore_n 2, 1) := by decide +kernel
theorem dX12_again_17 : decode cX12_again 17 = .ok (.aload_n 0, 1) := by decide +kernel
theorem dX12_again_18 : decode cX12_again 18 = .ok (.getfield 101, 3) := by decide +kernel
theorem dX12_again_21 : decode cX12_again 21 = .ok (.iload_n 1, 1) := by decide +kernel
theorem dX12_again_22 : decode cX12_again 22 = .ok (.iaload, 1) := by decide +kernel
theorem dX12_again_23 : decode cX12_again 23 = .ok (.bipush 15, 2) := by decide +kernel
theorem dX12_again_25 : decode cX12_again 25 = .ok (.if_icmp .ne 25, 3) := by decide +kernel
theorem dX12_again_28 : decode cX12_again 28 = .ok (.aload_n 0, 1) := by decide +kernel
theorem dX12_again_29 : decode cX12_again 29 = .ok (.getfield 113, 3) := by decide +kernel
theorem dX12_again_32 : decode cX12_again 32 = .ok (.iload_n 1, 1) := by decide +kernel
theorem dX12_again_33 : decode cX12_again 33 = .ok (.iaload, 1) := by decide +kernel
theorem dX12_again_34 : decode cX12_again 34 = .ok (.aload_n 0, 1) := by decide +kernel
theorem dX12_again_35 : decode cX12_again 35 = .ok (.getfield 80, 3) := by decide +kernel
theorem dX12_again_38 : decode cX12_again 38 = .ok (.iload_n 2, 1) := by decide +kernel
theorem dX12_again_39 : decode cX12_again 39 = .ok (.iaload, 1) := by decide +kernel
theorem dX12_again_40 : decode cX12_again 40 = .ok (.if_icmp .ge 10, 3) := by decide +kernel
theorem dX12_again_43 : decode cX12_again 43 = .ok (.aload_n 0, 1) := by decide +kernel
theorem dX12_again_44 : decode cX12_again 44 = .ok (.invokevirtual 549, 3) := by decide +kernel
theorem dX12_again_47 : decode cX12_again 47 = .ok (.ifCond .ne 4, 3) := by decide +kernel
theorem dX12_again_50 : decode cX12_again 50 = .ok (.return_, 1) := by decide +kernel
theorem dX12_again_51 : decode cX12_again 51 = .ok (.aload_n 0, 1) := by decide +kernel
theorem dX12_again_52 : decode cX12_again 52 = .ok (.getfield 113, 3) := by decide +kernel
theorem dX12_again_55 : decode cX12_again 55 = .ok (.iload_n 1, 1) := by decide +kernel
theorem dX12_again_56 : decode cX12_again 56 = .ok (.dup2, 1) := by decide +kernel
theorem dX12_again_57 : decode cX12_again 57 = .ok (.iaload, 1) := by decide +kernel
theorem dX12_again_58 : decode cX12_again 58 = .ok (.iconst 1, 1) := by decide +kernel
theorem dX12_again_59 : decode cX12_again 59 = .ok (.iadd, 1) := by decide +kernel
theorem dX12_again_60 : decode cX12_again 60 = .ok (.iastore, 1) := by decide +kernel
theorem dX12_again_61 : decode cX12_again 61 = .ok (.aload_n 0, 1) := by decide +kernel
theorem dX12_again_62 : decode cX12_again 62 = .ok (.dup, 1) := by decide +kernel
theorem dX12_again_63 : decode cX12_again 63 = .ok (.getfield 512, 3) := by decide +kernel
theorem dX12_again_66 : decode cX12_again 66 = .ok (.iconst 1, 1) := by decide +kernel
theorem dX12_again_67 : decode cX12_again 67 = .ok (.iadd, 1) := by decide +kernel
theorem dX12_again_68 : decode cX12_again 68 = .ok (.putfield 512, 3) := by decide +kernel
theorem dX12_again_71 : decode cX12_again 71 = .ok (.aload_n 0, 1) := by decide +kernel
theorem dX12_again_72 : decode cX12_again 72 = .ok (.iconst 0, 1) := by decide +kernel
theorem dX12_again_73 : decode cX12_again 73 = .ok (.putfield 491, 3) := by decide +kernel
theorem dX12_again_76 : decode cX12_again 76 = .ok (.aload_n 0, 1) := by decide +kernel
theorem dX12_again_77 : decode cX12_again 77 = .ok (.aload_n 0, 1) := by decide +kernel
theorem dX12_again_78 : decode cX12_again 78 = .ok (.getfield 104, 3) := by decide +kernel
theorem dX12_again_81 : decode cX12_again 81 = .ok (.iload_n 1, 1) := by decide +kernel
theorem dX12_again_82 : decode cX12_again 82 = .ok (.iaload, 1) := by decide +kernel
theorem dX12_again_83 : decode cX12_again 83 = .ok (.putfield 515, 3) := by decide +kernel
theorem dX12_again_86 : decode cX12_again 86 = .ok (.aload_n 0, 1) := by decide +kernel
theorem dX12_again_87 : decode cX12_again 87 = .ok (.aload_n 0, 1) := by decide +kernel
theorem dX12_again_88 : decode cX12_again 88 = .ok (.getfield 107, 3) := by decide +kernel
theorem dX12_again_91 : decode cX12_again 91 = .ok (.iload_n 1, 1) := by decide +kernel
theorem dX12_again_92 : decode cX12_again 92 = .ok (.iaload, 1) := by decide +kernel
theorem dX12_again_93 : decode cX12_again 93 = .ok (.iconst 1, 1) := by decide +kernel
theorem dX12_again_94 : decode cX12_again 94 = .ok (.iadd, 1) := by decide +kernel
theorem dX12_again_95 : decode cX12_again 95 = .ok (.putfield 500, 3) := by decide +kernel
theorem dX12_again_98 : decode cX12_again 98 = .ok (.return_, 1) := by decide +kernel
theorem dX12_run_0 : decode cX12_run 0 = .ok (.iload_n 1, 1) := by decide +kernel
theorem dX12_run_1 : decode cX12_run 1 = .ok (.iconst 0, 1) := by decide +kernel
theorem dX12_run_2 : decode cX12_run 2 = .ok (.iconst 3, 1) := by decide +kernel
theorem dX12_run_3 : decode cX12_run 3 = .ok (.invokestatic 322, 3) := by decide +kernel
theorem dX12_run_6 : decode cX12_run 6 = .ok (.ifCond .ne 6, 3) := by decide +kernel
theorem dX12_run_9 : decode cX12_run 9 = .ok (.bipush (-2), 2) := by decide +kernel
theorem dX12_run_11 : decode cX12_run 11 = .ok (.ireturn, 1) := by decide +kernel
theorem dX12_run_12 : decode cX12_run 12 = .ok (.aload_n 0, 1) := by decide +kernel
theorem dX12_run_13 : decode cX12_run 13 = .ok (.iload_n 1, 1) := by decide +kernel
theorem dX12_run_14 : decode cX12_run 14 = .ok (.invokevirtual 481, 3) := by decide +kernel
theorem dX12_run_17 : decode cX12_run 17 = .ok (.iconst (-1), 1) := by decide +kernel
theorem dX12_run_18 : decode cX12_run 18 = .ok (.if_icmp .eq 6, 3) := by decide +kernel
theorem dX12_run_21 : decode cX12_run 21 = .ok (.bipush (-3), 2) := by decide +kernel
theorem dX12_run_23 : decode cX12_run 23 = .ok (.ireturn, 1) := by decide +kernel
theorem dX12_run_24 : decode cX12_run 24 = .ok (.aload_n 0, 1) := by decide +kernel
theorem dX12_run_25 : decode cX12_run 25 = .ok (.invokevirtual 349, 3) := by decide +kernel
theorem dX12_run_28 : decode cX12_run 28 = .ok (.ifCond .eq 6, 3) := by decide +kernel
theorem dX12_run_31 : decode cX12_run 31 = .ok (.bipush (-4), 2) := by decide +kernel
theorem dX12_run_33 : decode cX12_run 33 = .ok (.ireturn, 1) := by decide +kernel
theorem dX12_run_34 : decode cX12_run 34 = .ok (.aload_n 0, 1) := by decide +kernel
theorem dX12_run_35 : decode cX12_run 35 = .ok (.iconst 0, 1) := by decide +kernel
theorem dX12_run_36 : decode cX12_run 36 = .ok (.putfield 491, 3) := by decide +kernel
theorem dX12_run_39 : decode cX12_run 39 = .ok (.aload_n 0, 1) := by decide +kernel
theorem dX12_run_40 : decode cX12_run 40 = .ok (.iload_n 1, 1) := by decide +kernel
theorem dX12_run_41 : decode cX12_run 41 = .ok (.putfield 515, 3) := by decide +kernel
theorem dX12_run_44 : decode cX12_run 44 = .ok (.aload_n 0, 1) := by decide +kernel
theorem dX12_run_45 : decode cX12_run 45 = .ok (.iconst 0, 1) := by decide +kernel
theorem dX12_run_46 : decode cX12_run 46 = .ok (.putfield 500, 3) := by decide +kernel
theorem dX12_run_49 : decode cX12_run 49 = .ok (.aload_n 0, 1) := by decide +kernel
theorem dX12_run_50 : decode cX12_run 50 = .ok (.iconst 0, 1) := by decide +kernel
theorem dX12_run_51 : decode cX12_run 51 = .ok (.putfield 546, 3) := by decide +kernel
theorem dX12_run_54 : decode cX12_run 54 = .ok (.aload_n 0, 1) := by decide +kernel
theorem dX12_run_55 : decode cX12_run 55 = .ok (.iconst 0, 1) := by decide +kernel
theorem dX12_run_56 : decode cX12_run 56 = .ok (.putfield 567, 3) := by decide +kernel
theorem dX12_run_59 : decode cX12_run 59 = .ok (.aload_n 0, 1) := by decide +kernel
theorem dX12_run_60 : decode cX12_run 60 = .ok (.iconst 0, 1) := by decide +kernel
theorem dX12_run_61 : decode cX12_run 61 = .ok (.putfield 579, 3) := by decide +kernel
theorem dX12_run_64 : decode cX12_run 64 = .ok (.aload_n 0, 1) := by decide +kernel
theorem dX12_run_65 : decode cX12_run 65 = .ok (.iconst 0, 1) := by decide +kernel
theorem dX12_run_66 : decode cX12_run 66 = .ok (.putfield 570, 3) := by decide +kernel
theorem dX12_run_69 : decode cX12_run 69 = .ok (.aload_n 0, 1) := by decide +kernel
theorem dX12_run_70 : decode cX12_run 70 = .ok (.iconst 0, 1) := by decide +kernel
theorem dX12_run_71 : decode cX12_run 71 = .ok (.putfield 534, 3) := by decide +kernel
theorem dX12_run_74 : decode cX12_run 74 = .ok (.aload_n 0, 1) := by decide +kernel
theorem dX12_run_75 : decode cX12_run 75 = .ok (.iconst 0, 1) := by decide +kernel
theorem dX12_run_76 : decode cX12_run 76 = .ok (.putfield 509, 3) := by decide +kernel
theorem dX12_run_79 : decode cX12_run 79 = .ok (.aload_n 0, 1) := by decide +kernel
theorem dX12_run_80 : decode cX12_run 80 = .ok (.iconst 0, 1) := by decide +kernel
theorem dX12_run_81 : decode cX12_run 81 = .ok (.putfield 484, 3) := by decide +kernel
theorem dX12_run_84 : decode cX12_run 84 = .ok (.aload_n 0, 1) := by decide +kernel
theorem dX12_run_85 : decode cX12_run 85 = .ok (.iconst 0, 1) := by decide +kernel
theorem dX12_run_86 : decode cX12_run 86 = .ok (.putfield 512, 3) := by decide +kernel
theorem dX12_run_89 : decode cX12_run 89 = .ok (.aload_n 0, 1) := by decide +kernel
theorem dX12_run_90 : decode cX12_run 90 = .ok (.bipush 21, 2) := by decide +kernel
theorem dX12_run_92 : decode cX12_run 92 = .ok (.invokevirtual 531, 3) := by decide +kernel
theorem dX12_run_95 : decode cX12_run 95 = .ok (.aload_n 0, 1) := by decide +kernel
theorem dX12_run_96 : decode cX12_run 96 = .ok (.getfield 512, 3) := by decide +kernel
theorem dX12_run_99 : decode cX12_run 99 = .ok (.ifCond .le 153, 3) := by decide +kernel
theorem dX12_run_102 : decode cX12_run 102 = .ok (.aload_n 0, 1) := by decide +kernel
theorem dX12_run_103 : decode cX12_run 103 = .ok (.getfield 491, 3) := by decide +kernel
theorem dX12_run_106 : decode cX12_run 106 = .ok (.ifCond .eq 10, 3) := by decide +kernel
theorem dX12_run_109 : decode cX12_run 109 = .ok (.aload_n 0, 1) := by decide +kernel
theorem dX12_run_110 : decode cX12_run 110 = .ok (.invokevirtual 594, 3) := by decide +kernel
theorem dX12_run_113 : decode cX12_run 113 = .ok (.goto (-18), 3) := by decide +kernel
theorem dX12_run_116 : decode cX12_run 116 = .ok (.aload_n 0, 1) := by decide +kernel
theorem dX12_run_117 : decode cX12_run 117 = .ok (.getfield 500, 3) := by decide +kernel
theorem dX12_run_120 : decode cX12_run 120 = .ok (.aload_n 0, 1) := by decide +kernel
theorem dX12_run_121 : decode cX12_run 121 = .ok (.getfield 74, 3) := by decide +kernel
theorem dX12_run_124 : decode cX12_run 124 = .ok (.aload_n 0, 1) := by decide +kernel
theorem dX12_run_125 : decode cX12_run 125 = .ok (.getfield 515, 3) := by decide +kernel
theorem dX12_run_128 : decode cX12_run 128 = .ok (.iaload, 1) := by decide +kernel
theorem dX12_run_129 : decode cX12_run 129 = .ok (.if_icmp .ne 72, 3) := by decide +kernel
theorem dX12_run_132 : decode cX12_run 132 = .ok (.aload_n 0, 1) := by decide +kernel
theorem dX12_run_133 : decode cX12_run 133 = .ok (.dup, 1) := by decide +kernel
theorem dX12_run_134 : decode cX12_run 134 = .ok (.getfield 512, 3) := by decide +kernel
theorem dX12_run_137 : decode cX12_run 137 = .ok (.iconst 1, 1) := by decide +kernel
theorem dX12_run_138 : decode cX12_run 138 = .ok (.isub, 1) := by decide +kernel
theorem dX12_run_139 : decode cX12_run 139 = .ok (.putfield 512, 3) := by decide +kernel
theorem dX12_run_142 : decode cX12_run 142 = .ok (.aload_n 0, 1) := by decide +kernel
theorem dX12_run_143 : decode cX12_run 143 = .ok (.dup, 1) := by decide +kernel
theorem dX12_run_144 : decode cX12_run 144 = .ok (.getfield 567, 3) := by decide +kernel
theorem dX12_run_147 : decode cX12_run 147 = .ok (.aload_n 0, 1) := by decide +kernel
theorem dX12_run_148 : decode cX12_run 148 = .ok (.getfield 101, 3) := by decide +kernel
theorem dX12_run_151 : decode cX12_run 151 = .ok (.aload_n 0, 1) := by decide +kernel
theorem dX12_run_152 : decode cX12_run 152 = .ok (.getfield 512, 3) := by decide +kernel
theorem dX12_run_155 : decode cX12_run 155 = .ok (.iaload, 1) := by decide +kernel
theorem dX12_run_156 : decode cX12_run 156 = .ok (.bipush 10, 2) := by decide +kernel
theorem dX12_run_158 : decode cX12_run 158 = .ok (.if_icmp .ne 7, 3) := by decide +kernel
theorem dX12_run_161 : decode cX12_run 161 = .ok (.iconst 1, 1) := by decide +kernel
theorem dX12_run_162 : decode cX12_run 162 = .ok (.goto 4, 3) := by decide +kernel
theorem dX12_run_165 : decode cX12_run 165 = .ok (.iconst 0, 1) := by decide +kernel
theorem dX12_run_166 : decode cX12_run 166 = .ok (.isub, 1) := by decide +kernel
theorem dX12_run_167 : decode cX12_run 167 = .ok (.putfield 567, 3) := by decide +kernel
theorem dX12_run_170 : decode cX12_run 170 = .ok (.aload_n 0, 1) := by decide +kernel
theorem dX12_run_171 : decode cX12_run 171 = .ok (.aload_n 0, 1) := by decide +kernel
theorem dX12_run_172 : decode cX12_run 172 = .ok (.getfield 104, 3) := by decide +kernel
theorem dX12_run_175 : decode cX12_run 175 = .ok (.aload_n 0, 1) := by decide +kernel
theorem dX12_run_176 : decode cX12_run 176 = .ok (.getfield 512, 3) := by decide +kernel
theorem dX12_run_179 : decode cX12_run 179 = .ok (.iaload, 1) := by decide +kernel
theorem dX12_run_180 : decode cX12_run 180 = .ok (.putfield 515, 3) := by decide +kernel
theorem dX12_run_183 : decode cX12_run 183 = .ok (.aload_n 0, 1) := by decide +kernel
theorem dX12_run_184 : decode cX12_run 184 = .ok (.aload_n 0, 1) := by decide +kernel
theorem dX12_run_185 : decode cX12_run 185 = .ok (.getfield 107, 3) := by decide +kernel
theorem dX12_run_188 : decode cX12_run 188 = .ok (.aload_n 0, 1) := by decide +kernel
theorem dX12_run_189 : decode cX12_run 189 = .ok (.getfield 512, 3) := by decide +kernel
theorem dX12_run_192 : decode cX12_run 192 = .ok (.iaload, 1) := by decide +kernel
theorem dX12_run_193 : decode cX12_run 193 = .ok (.iconst 1, 1) := by decide +kernel
theorem dX12_run_194 : decode cX12_run 194 = .ok (.iadd, 1) := by decide +kernel
theorem dX12_run_195 : decode cX12_run 195 = .ok (.putfield 500, 3) := by decide +kernel
theorem dX12_run_198 : decode cX12_run 198 = .ok (.goto (-103), 3) := by decide +kernel
theorem dX12_run_201 : decode cX12_run 201 = .ok (.aload_n 0, 1) := by decide +kernel
theorem dX12_run_202 : decode cX12_run 202 = .ok (.getfield 77, 3) := by decide +kernel
theorem dX12_run_205 : decode cX12_run 205 = .ok (.bipush 40, 2) := by decide +kernel
theorem dX12_run_207 : decode cX12_run 207 = .ok (.aload_n 0, 1) := by decide +kernel
theorem dX12_run_208 : decode cX12_run 208 = .ok (.getfield 515, 3) := by decide +kernel
theorem dX12_run_211 : decode cX12_run 211 = .ok (.imul, 1) := by decide +kernel
theorem dX12_run_212 : decode cX12_run 212 = .ok (.aload_n 0, 1) := by decide +kernel
theorem dX12_run_213 : decode cX12_run 213 = .ok (.getfield 500, 3) := by decide +kernel
theorem dX12_run_216 : decode cX12_run 216 = .ok (.iadd, 1) := by decide +kernel
theorem dX12_run_217 : decode cX12_run 217 = .ok (.iaload, 1) := by decide +kernel
theorem dX12_run_218 : decode cX12_run 218 = .ok (.ifCond .ne 10, 3) := by decide +kernel
theorem dX12_run_221 : decode cX12_run 221 = .ok (.aload_n 0, 1) := by decide +kernel
theorem dX12_run_222 : decode cX12_run 222 = .ok (.invokevirtual 597, 3) := by decide +kernel
theorem dX12_run_225 : decode cX12_run 225 = .ok (.goto (-130), 3) := by decide +kernel
theorem dX12_run_228 : decode cX12_run 228 = .ok (.aload_n 0, 1) := by decide +kernel
theorem dX12_run_229 : decode cX12_run 229 = .ok (.aload_n 0, 1) := by decide +kernel
theorem dX12_run_230 : decode cX12_run 230 = .ok (.getfield 77, 3) := by decide +kernel
theorem dX12_run_233 : decode cX12_run 233 = .ok (.bipush 40, 2) := by decide +kernel
theorem dX12_run_235 : decode cX12_run 235 = .ok (.aload_n 0, 1) := by decide +kernel
theorem dX12_run_236 : decode cX12_run 236 = .ok (.getfield 515, 3) := by decide +kernel
theorem dX12_run_239 : decode cX12_run 239 = .ok (.imul, 1) := by decide +kernel
theorem dX12_run_240 : decode cX12_run 240 = .ok (.aload_n 0, 1) := by decide +kernel
theorem dX12_run_241 : decode cX12_run 241 = .ok (.getfield 500, 3) := by decide +kernel
theorem dX12_run_244 : decode cX12_run 244 = .ok (.iadd, 1) := by decide +kernel
theorem dX12_run_245 : decode cX12_run 245 = .ok (.iaload, 1) := by decide +kernel
theorem dX12_run_246 : decode cX12_run 246 = .ok (.invokevirtual 600, 3) := by decide +kernel
theorem dX12_run_249 : decode cX12_run 249 = .ok (.goto (-154), 3) := by decide +kernel
theorem dX12_run_252 : decode cX12_run 252 = .ok (.aload_n 0, 1) := by decide +kernel
theorem dX12_run_253 : decode cX12_run 253 = .ok (.getfield 491, 3) := by decide +kernel
theorem dX12_run_256 : decode cX12_run 256 = .ok (.iconst 1, 1) := by decide +kernel
theorem dX12_run_257 : decode cX12_run 257 = .ok (.if_icmp .ne 7, 3) := by decide +kernel
theorem dX12_run_260 : decode cX12_run 260 = .ok (.iconst 1, 1) := by decide +kernel
theorem dX12_run_261 : decode cX12_run 261 = .ok (.goto 4, 3) := by decide +kernel
theorem dX12_run_264 : decode cX12_run 264 = .ok (.iconst 0, 1) := by decide +kernel
theorem dX12_run_265 : decode cX12_run 265 = .ok (.istore_n 2, 1) := by decide +kernel
theorem dX12_run_266 : decode cX12_run 266 = .ok (.aload_n 0, 1) := by decide +kernel
theorem dX12_run_267 : decode cX12_run 267 = .ok (.iload_n 2, 1) := by decide +kernel
theorem dX12_run_268 : decode cX12_run 268 = .ok (.ifCond .eq 10, 3) := by decide +kernel
theorem dX12_run_271 : decode cX12_run 271 = .ok (.aload_n 0, 1) := by decide +kernel
theorem dX12_run_272 : decode cX12_run 272 = .ok (.getfield 503, 3) := by decide +kernel
theorem dX12_run_275 : decode cX12_run 275 = .ok (.goto 4, 3) := by decide +kernel
theorem dX12_run_278 : decode cX12_run 278 = .ok (.iconst (-1), 1) := by decide +kernel
theorem dX12_run_279 : decode cX12_run 279 = .ok (.putfield 140, 3) := by decide +kernel
theorem dX12_run_282 : decode cX12_run 282 = .ok (.aload_n 0, 1) := by decide +kernel
theorem dX12_run_283 : decode cX12_run 283 = .ok (.iload_n 2, 1) := by decide +kernel
theorem dX12_run_284 : decode cX12_run 284 = .ok (.ifCond .eq 10, 3) := by decide +kernel
theorem dX12_run_287 : decode cX12_run 287 = .ok (.aload_n 0, 1) := by decide +kernel
theorem dX12_run_288 : decode cX12_run 288 = .ok (.getfield 506, 3) := by decide +kernel
theorem dX12_run_291 : decode cX12_run 291 = .ok (.goto 4, 3) := by decide +kernel
theorem dX12_run_294 : decode cX12_run 294 = .ok (.iconst 0, 1) := by decide +kernel
theorem dX12_run_295 : decode cX12_run 295 = .ok (.putfield 603, 3) := by decide +kernel
theorem dX12_run_298 : decode cX12_run 298 = .ok (.aload_n 0, 1) := by decide +kernel
theorem dX12_run_299 : decode cX12_run 299 = .ok (.iload_n 2, 1) := by decide +kernel
theorem dX12_run_300 : decode cX12_run 300 = .ok (.ifCond .eq 10, 3) := by decide +kernel
theorem dX12_run_303 : decode cX12_run 303 = .ok (.aload_n 0, 1) := by decide +kernel
theorem dX12_run_304 : decode cX12_run 304 = .ok (.getfield 497, 3) := by decide +kernel
theorem dX12_run_307 : decode cX12_run 307 = .ok (.goto 4, 3) := by decide +kernel
theorem dX12_run_310 : decode cX12_run 310 = .ok (.iconst 0, 1) := by decide +kernel
theorem dX12_run_311 : decode cX12_run 311 = .ok (.putfield 606, 3) := by decide +kernel
theorem dX12_run_314 : decode cX12_run 314 = .ok (.aload_n 0, 1) := by decide +kernel
theorem dX12_run_315 : decode cX12_run 315 = .ok (.aload_n 0, 1) := by decide +kernel
theorem dX12_run_316 : decode cX12_run 316 = .ok (.getfield 491, 3) := by decide +kernel
theorem dX12_run_319 : decode cX12_run 319 = .ok (.iconst 2, 1) := by decide +kernel
theorem dX12_run_320 : decode cX12_run 320 = .ok (.if_icmp .ne 10, 3) := by decide +kernel
theorem dX12_run_323 : decode cX12_run 323 = .ok (.aload_n 0, 1) := by decide +kernel
theorem dX12_run_324 : decode cX12_run 324 = .ok (.getfield 558, 3) := by decide +kernel
theorem dX12_run_327 : decode cX12_run 327 = .ok (.goto 4, 3) := by decide +kernel
theorem dX12_run_330 : decode cX12_run 330 = .ok (.iconst 0, 1) := by decide +kernel
theorem dX12_run_331 : decode cX12_run 331 = .ok (.putfield 609, 3) := by decide +kernel
theorem dX12_run_334 : decode cX12_run 334 = .ok (.iload_n 2, 1) := by decide +kernel
theorem dX12_run_335 : decode cX12_run 335 = .ok (.ifCond .eq 19, 3) := by decide +kernel
theorem dX12_run_338 : decode cX12_run 338 = .ok (.aload_n 0, 1) := by decide +kernel
theorem dX12_run_339 : decode cX12_run 339 = .ok (.aload_n 0, 1) := by decide +kernel
theorem dX12_run_340 : decode cX12_run 340 = .ok (.getfield 494, 3) := by decide +kernel
theorem dX12_run_343 : decode cX12_run 343 = .ok (.putfield 305, 3) := by decide +kernel
theorem dX12_run_346 : decode cX12_run 346 = .ok (.bipush (-10), 2) := by decide +kernel
theorem dX12_run_348 : decode cX12_run 348 = .ok (.aload_n 0, 1) := by decide +kernel
theorem dX12_run_349 : decode cX12_run 349 = .ok (.getfield 494, 3) := by decide +kernel
theorem dX12_run_352 : decode cX12_run 352 = .ok (.isub, 1) := by decide +kernel
theorem dX12_run_353 : decode cX12_run 353 = .ok (.ireturn, 1) := by decide +kernel
theorem dX12_run_354 : decode cX12_run 354 = .ok (.aload_n 0, 1) := by decide +kernel
theorem dX12_run_355 : decode cX12_run 355 = .ok (.getfield 491, 3) := by decide +kernel
theorem dX12_run_358 : decode cX12_run 358 = .ok (.iconst 2, 1) := by decide +kernel
theorem dX12_run_359 : decode cX12_run 359 = .ok (.if_icmp .ne 7, 3) := by decide +kernel
theorem dX12_run_362 : decode cX12_run 362 = .ok (.iconst 1, 1) := by decide +kernel
theorem dX12_run_363 : decode cX12_run 363 = .ok (.goto 17, 3) := by decide +kernel
theorem dX12_run_366 : decode cX12_run 366 = .ok (.aload_n 0, 1) := by decide +kernel
theorem dX12_run_367 : decode cX12_run 367 = .ok (.getfield 491, 3) := by decide +kernel
theorem dX12_run_370 : decode cX12_run 370 = .ok (.iconst 3, 1) := by decide +kernel
theorem dX12_run_371 : decode cX12_run 371 = .ok (.if_icmp .ne 8, 3) := by decide +kernel
theorem dX12_run_374 : decode cX12_run 374 = .ok (.bipush (-30), 2) := by decide +kernel
theorem dX12_run_376 : decode cX12_run 376 = .ok (.goto 4, 3) := by decide +kernel
theorem dX12_run_379 : decode cX12_run 379 = .ok (.iconst 0, 1) := by decide +kernel
theorem dX12_run_380 : decode cX12_run 380 = .ok (.ireturn, 1) := by decide +kernel
theorem dX12_ran_0 : decode cX12_ran 0 = .ok (.iload_n 1, 1) := by decide +kernel
theorem dX12_ran_1 : decode cX12_ran 1 = .ok (.tableswitch 96 0 8 #[51, 56, 61, 66, 71, 76, 81, 86, 91], 51) := by decide +kernel
theorem dX12_ran_52 : decode cX12_ran 52 = .ok (.aload_n 0, 1) := by decide +kernel
theorem dX12_ran_53 : decode cX12_ran 53 = .ok (.getfield 609, 3) := by decide +kernel
theorem dX12_ran_56 : decode cX12_ran 56 = .ok (.ireturn, 1) := by decide +kernel
theorem dX12_ran_57 : decode cX12_ran 57 = .ok (.aload_n 0, 1) := by decide +kernel
theorem dX12_ran_58 : decode cX12_ran 58 = .ok (.getfield 546, 3) := by decide +kernel
theorem dX12_ran_61 : decode cX12_ran 61 = .ok (.ireturn, 1) := by decide +kernel
theorem dX12_ran_62 : decode cX12_ran 62 = .ok (.aload_n 0, 1) := by decide +kernel
theorem dX12_ran_63 : decode cX12_ran 63 = .ok (.getfield 140, 3) := by decide +kernel
theorem dX12_ran_66 : decode cX12_ran 66 = .ok (.ireturn, 1) := by decide +kernel
theorem dX12_ran_67 : decode cX12_ran 67 = .ok (.aload_n 0, 1) := by decide +kernel
theorem dX12_ran_68 : decode cX12_ran 68 = .ok (.getfield 603, 3) := by decide +kernel
theorem dX12_ran_71 : decode cX12_ran 71 = .ok (.ireturn, 1) := by decide +kernel
theorem dX12_ran_72 : decode cX12_ran 72 = .ok (.aload_n 0, 1) := by decide +kernel
theorem dX12_ran_73 : decode cX12_ran 73 = .ok (.getfield 579, 3) := by decide +kernel
theorem dX12_ran_76 : decode cX12_ran 76 = .ok (.ireturn, 1) := by decide +kernel
theorem dX12_ran_77 : decode cX12_ran 77 = .ok (.aload_n 0, 1) := by decide +kernel
theorem dX12_ran_78 : decode cX12_ran 78 = .ok (.getfield 570, 3) := by decide +kernel
theorem dX12_ran_81 : decode cX12_ran 81 = .ok (.ireturn, 1) := by decide +kernel
theorem dX12_ran_82 : decode cX12_ran 82 = .ok (.aload_n 0, 1) := by decide +kernel
theorem dX12_ran_83 : decode cX12_ran 83 = .ok (.getfield 534, 3) := by decide +kernel
theorem dX12_ran_86 : decode cX12_ran 86 = .ok (.ireturn, 1) := by decide +kernel
theorem dX12_ran_87 : decode cX12_ran 87 = .ok (.aload_n 0, 1) := by decide +kernel
theorem dX12_ran_88 : decode cX12_ran 88 = .ok (.getfield 606, 3) := by decide +kernel
theorem dX12_ran_91 : decode cX12_ran 91 = .ok (.ireturn, 1) := by decide +kernel
theorem dX12_ran_92 : decode cX12_ran 92 = .ok (.aload_n 0, 1) := by decide +kernel
theorem dX12_ran_93 : decode cX12_ran 93 = .ok (.getfield 509, 3) := by decide +kernel
theorem dX12_ran_96 : decode cX12_ran 96 = .ok (.ireturn, 1) := by decide +kernel
theorem dX12_ran_97 : decode cX12_ran 97 = .ok (.bipush (-2), 2) := by decide +kernel
theorem dX12_ran_99 : decode cX12_ran 99 = .ok (.ireturn, 1) := by decide +kernel
theorem dX12_stock_0 : decode cX12_stock 0 = .ok (.iload_n 1, 1) := by decide +kernel
theorem dX12_stock_1 : decode cX12_stock 1 = .ok (.iconst 0, 1) := by decide +kernel
theorem dX12_stock_2 : decode cX12_stock 2 = .ok (.iconst 5, 1) := by decide +kernel
theorem dX12_stock_3 : decode cX12_stock 3 = .ok (.invokestatic 322, 3) := by decide +kernel
theorem dX12_stock_6 : decode cX12_stock 6 = .ok (.ifCond .eq 12, 3) := by decide +kernel
theorem dX12_stock_9 : decode cX12_stock 9 = .ok (.aload_n 0, 1) := by decide +kernel
theorem dX12_stock_10 : decode cX12_stock 10 = .ok (.getfield 89, 3) := by decide +kernel
theorem dX12_stock_13 : decode cX12_stock 13 = .ok (.iload_n 1, 1) := by decide +kernel
theorem dX12_stock_14 : decode cX12_stock 14 = .ok (.laload, 1) := by decide +kernel
theorem dX12_stock_15 : decode cX12_stock 15 = .ok (.goto 4, 3) := by decide +kernel
theorem dX12_stock_18 : decode cX12_stock 18 = .ok (.lconst 0, 1) := by decide +kernel
theorem dX12_stock_19 : decode cX12_stock 19 = .ok (.lreturn, 1) := by decide +kernel
theorem dX12_setStock_0 : decode cX12_setStock 0 = .ok (.iload_n 1, 1) := by decide +kernel
theorem dX12_setStock_1 : decode cX12_setStock 1 = .ok (.iconst 0, 1) := by decide +kernel
theorem dX12_setStock_2 : decode cX12_setStock 2 = .ok (.iconst 5, 1) := by decide +kernel
theorem dX12_setStock_3 : decode cX12_setStock 3 = .ok (.invokestatic 322, 3) := by decide +kernel
theorem dX12_setStock_6 : decode cX12_setStock 6 = .ok (.ifCond .ne 6, 3) := by decide +kernel
theorem dX12_setStock_9 : decode cX12_setStock 9 = .ok (.bipush (-2), 2) := by decide +kernel
theorem dX12_setStock_11 : decode cX12_setStock 11 = .ok (.ireturn, 1) := by decide +kernel
theorem dX12_setStock_12 : decode cX12_setStock 12 = .ok (.aload_n 0, 1) := by decide +kernel
theorem dX12_setStock_13 : decode cX12_setStock 13 = .ok (.getfield 89, 3) := by decide +kernel
theorem dX12_setStock_16 : decode cX12_setStock 16 = .ok (.iload_n 1, 1) := by decide +kernel
theorem dX12_setStock_17 : decode cX12_setStock 17 = .ok (.lload_n 2, 1) := by decide +kernel
theorem dX12_setStock_18 : decode cX12_setStock 18 = .ok (.lastore, 1) := by decide +kernel
theorem dX12_setStock_19 : decode cX12_setStock 19 = .ok (.iconst 1, 1) := by decide +kernel
theorem dX12_setStock_20 : decode cX12_setStock 20 = .ok (.ireturn, 1) := by decide +kernel
theorem dX12_valve_0 : decode cX12_valve 0 = .ok (.iload_n 1, 1) := by decide +kernel
theorem dX12_valve_1 : decode cX12_valve 1 = .ok (.iconst 0, 1) := by decide +kernel
theorem dX12_valve_2 : decode cX12_valve 2 = .ok (.iconst 2, 1) := by decide +kernel
theorem dX12_valve_3 : decode cX12_valve 3 = .ok (.invokestatic 322, 3) := by decide +kernel
theorem dX12_valve_6 : decode cX12_valve 6 = .ok (.ifCond .eq 34, 3) := by decide +kernel
theorem dX12_valve_9 : decode cX12_valve 9 = .ok (.iload_n 2, 1) := by decide +kernel
theorem dX12_valve_10 : decode cX12_valve 10 = .ok (.iconst 0, 1) := by decide +kernel
theorem dX12_valve_11 : decode cX12_valve 11 = .ok (.iconst 1, 1) := by decide +kernel
theorem dX12_valve_12 : decode cX12_valve 12 = .ok (.invokestatic 322, 3) := by decide +kernel
theorem dX12_valve_15 : decode cX12_valve 15 = .ok (.ifCond .eq 25, 3) := by decide +kernel
theorem dX12_valve_18 : decode cX12_valve 18 = .ok (.iload_n 2, 1) := by decide +kernel
theorem dX12_valve_19 : decode cX12_valve 19 = .ok (.ifCond .ne 12, 3) := by decide +kernel
theorem dX12_valve_22 : decode cX12_valve 22 = .ok (.aload_n 0, 1) := by decide +kernel
theorem dX12_valve_23 : decode cX12_valve 23 = .ok (.getfield 92, 3) := by decide +kernel
theorem dX12_valve_26 : decode cX12_valve 26 = .ok (.iload_n 1, 1) := by decide +kernel
theorem dX12_valve_27 : decode cX12_valve 27 = .ok (.iaload, 1) := by decide +kernel
theorem dX12_valve_28 : decode cX12_valve 28 = .ok (.goto 13, 3) := by decide +kernel
theorem dX12_valve_31 : decode cX12_valve 31 = .ok (.aload_n 0, 1) := by decide +kernel
theorem dX12_valve_32 : decode cX12_valve 32 = .ok (.getfield 95, 3) := by decide +kernel
theorem dX12_valve_35 : decode cX12_valve 35 = .ok (.iload_n 1, 1) := by decide +kernel
theorem dX12_valve_36 : decode cX12_valve 36 = .ok (.iaload, 1) := by decide +kernel
theorem dX12_valve_37 : decode cX12_valve 37 = .ok (.goto 4, 3) := by decide +kernel
theorem dX12_valve_40 : decode cX12_valve 40 = .ok (.iconst 0, 1) := by decide +kernel
theorem dX12_valve_41 : decode cX12_valve 41 = .ok (.ireturn, 1) := by decide +kernel
theorem dX12_isTable_0 : decode cX12_isTable 0 = .ok (.iload_n 0, 1) := by decide +kernel
theorem dX12_isTable_1 : decode cX12_isTable 1 = .ok (.ifCond .lt 12, 3) := by decide +kernel
theorem dX12_isTable_4 : decode cX12_isTable 4 = .ok (.iload_n 0, 1) := by decide +kernel
theorem dX12_isTable_5 : decode cX12_isTable 5 = .ok (.iconst 2, 1) := by decide +kernel
theorem dX12_isTable_6 : decode cX12_isTable 6 = .ok (.if_icmp .gt 7, 3) := by decide +kernel
theorem dX12_isTable_9 : decode cX12_isTable 9 = .ok (.iconst 1, 1) := by decide +kernel
theorem dX12_isTable_10 : decode cX12_isTable 10 = .ok (.goto 4, 3) := by decide +kernel
theorem dX12_isTable_13 : decode cX12_isTable 13 = .ok (.iconst 0, 1) := by decide +kernel
theorem dX12_isTable_14 : decode cX12_isTable 14 = .ok (.ireturn, 1) := by decide +kernel
theorem dX12_line_0 : decode cX12_line 0 = .ok (.iload_n 1, 1) := by decide +kernel
theorem dX12_line_1 : decode cX12_line 1 = .ok (.invokestatic 612, 3) := by decide +kernel
theorem dX12_line_4 : decode cX12_line 4 = .ok (.ifCond .eq 60, 3) := by decide +kernel
theorem dX12_line_7 : decode cX12_line 7 = .ok (.iload_n 2, 1) := by decide +kernel
theorem dX12_line_8 : decode cX12_line 8 = .ok (.ldc_w 615, 3) := by decide +kernel
theorem dX12_line_11 : decode cX12_line 11 = .ok (.ldc_w 616, 3) := by decide +kernel
theorem dX12_line_14 : decode cX12_line 14 = .ok (.invokestatic 322, 3) := by decide +kernel
theorem dX12_line_17 : decode cX12_line 17 = .ok (.ifCond .eq 47, 3) := by decide +kernel
theorem dX12_line_20 : decode cX12_line 20 = .ok (.iload_n 3, 1) := by decide +kernel
theorem dX12_line_21 : decode cX12_line 21 = .ok (.ldc_w 615, 3) := by decide +kernel
theorem dX12_line_24 : decode cX12_line 24 = .ok (.ldc_w 616, 3) := by decide +kernel
theorem dX12_line_27 : decode cX12_line 27 = .ok (.invokestatic 322, 3) := by decide +kernel
theorem dX12_line_30 : decode cX12_line 30 = .ok (.ifCond .eq 34, 3) := by decide +kernel
theorem dX12_line_33 : decode cX12_line 33 = .ok (.aload_n 0, 1) := by decide +kernel
theorem dX12_line_34 : decode cX12_line 34 = .ok (.getfield 144, 3) := by decide +kernel
theorem dX12_line_37 : decode cX12_line 37 = .ok (.iload_n 1, 1) := by decide +kernel
theorem dX12_line_38 : decode cX12_line 38 = .ok (.iaload, 1) := by decide +kernel
theorem dX12_line_39 : decode cX12_line 39 = .ok (.ifCond .le 28, 3) := by decide +kernel
theorem dX12_line_42 : decode cX12_line 42 = .ok (.iload_n 2, 1) := by decide +kernel
theorem dX12_line_43 : decode cX12_line 43 = .ok (.aload_n 0, 1) := by decide +kernel
theorem dX12_line_44 : decode cX12_line 44 = .ok (.getfield 147, 3) := by decide +kernel
theorem dX12_line_47 : decode cX12_line 47 = .ok (.bipush 8, 2) := by decide +kernel
theorem dX12_line_49 : decode cX12_line 49 = .ok (.iload_n 1, 1) := by decide +kernel
theorem dX12_line_50 : decode cX12_line 50 = .ok (.imul, 1) := by decide +kernel
theorem dX12_line_51 : decode cX12_line 51 = .ok (.aload_n 0, 1) := by decide +kernel
theorem dX12_line_52 : decode cX12_line 52 = .ok (.getfield 144, 3) := by decide +kernel
theorem dX12_line_55 : decode cX12_line 55 = .ok (.iload_n 1, 1) := by decide +kernel
theorem dX12_line_56 : decode cX12_line 56 = .ok (.iaload, 1) := by decide +kernel
theorem dX12_line_57 : decode cX12_line 57 = .ok (.iadd, 1) := by decide +kernel
theorem dX12_line_58 : decode cX12_line 58 = .ok (.iconst 1, 1) := by decide +kernel
theorem dX12_line_59 : decode cX12_line 59 = .ok (.isub, 1) := by decide +kernel
theorem dX12_line_60 : decode cX12_line 60 = .ok (.iaload, 1) := by decide +kernel
theorem dX12_line_61 : decode cX12_line 61 = .ok (.if_icmp .gt 6, 3) := by decide +kernel
theorem dX12_line_64 : decode cX12_line 64 = .ok (.bipush (-2), 2) := by decide +kernel
theorem dX12_line_66 : decode cX12_line 66 = .ok (.ireturn, 1) := by decide +kernel
theorem dX12_line_67 : decode cX12_line 67 = .ok (.aload_n 0, 1) := by decide +kernel
theorem dX12_line_68 : decode cX12_line 68 = .ok (.getfield 144, 3) := by decide +kernel
theorem dX12_line_71 : decode cX12_line 71 = .ok (.iload_n 1, 1) := by decide +kernel
theorem dX12_line_72 : decode cX12_line 72 = .ok (.iaload, 1) := by decide +kernel
theorem dX12_line_73 : decode cX12_line 73 = .ok (.bipush 8, 2) := by decide +kernel
theorem dX12_line_75 : decode cX12_line 75 = .ok (.if_icmp .ne 6, 3) := by decide +kernel
theorem dX12_line_78 : decode cX12_line 78 = .ok (.bipush (-4), 2) := by decide +kernel
theorem dX12_line_80 : decode cX12_line 80 = .ok (.ireturn, 1) := by decide +kernel
theorem dX12_line_81 : decode cX12_line 81 = .ok (.aload_n 0, 1) := by decide +kernel
theorem dX12_line_82 : decode cX12_line 82 = .ok (.getfield 147, 3) := by decide +kernel
theorem dX12_line_85 : decode cX12_line 85 = .ok (.bipush 8, 2) := by decide +kernel
theorem dX12_line_87 : decode cX12_line 87 = .ok (.iload_n 1, 1) := by decide +kernel
theorem dX12_line_88 : decode cX12_line 88 = .ok (.imul, 1) := by decide +kernel
theorem dX12_line_89 : decode cX12_line 89 = .ok (.aload_n 0, 1) := by decide +kernel
theorem dX12_line_90 : decode cX12_line 90 = .ok (.getfield 144, 3) := by decide +kernel
theorem dX12_line_93 : decode cX12_line 93 = .ok (.iload_n 1, 1) := by decide +kernel
theorem dX12_line_94 : decode cX12_line 94 = .ok (.iaload, 1) := by decide +kernel
theorem dX12_line_95 : decode cX12_line 95 = .ok (.iadd, 1) := by decide +kernel
theorem dX12_line_96 : decode cX12_line 96 = .ok (.iload_n 2, 1) := by decide +kernel
theorem dX12_line_97 : decode cX12_line 97 = .ok (.iastore, 1) := by decide +kernel
theorem dX12_line_98 : decode cX12_line 98 = .ok (.aload_n 0, 1) := by decide +kernel
theorem dX12_line_99 : decode cX12_line 99 = .ok (.getfield 150, 3) := by decide +kernel
theorem dX12_line_102 : decode cX12_line 102 = .ok (.bipush 8, 2) := by decide +kernel
theorem dX12_line_104 : decode cX12_line 104 = .ok (.iload_n 1, 1) := by decide +kernel
theorem dX12_line_105 : decode cX12_line 105 = .ok (.imul, 1) := by decide +kernel
theorem dX12_line_106 : decode cX12_line 106 = .ok (.aload_n 0, 1) := by decide +kernel
theorem dX12_line_107 : decode cX12_line 107 = .ok (.getfield 144, 3) := by decide +kernel
theorem dX12_line_110 : decode cX12_line 110 = .ok (.iload_n 1, 1) := by decide +kernel
theorem dX12_line_111 : decode cX12_line 111 = .ok (.iaload, 1) := by decide +kernel
theorem dX12_line_112 : decode cX12_line 112 = .ok (.iadd, 1) := by decide +kernel
theorem dX12_line_113 : decode cX12_line 113 = .ok (.iload_n 3, 1) := by decide +kernel
theorem dX12_line_114 : decode cX12_line 114 = .ok (.iastore, 1) := by decide +kernel
theorem dX12_line_115 : decode cX12_line 115 = .ok (.aload_n 0, 1) := by decide +kernel
theorem dX12_line_116 : decode cX12_line 116 = .ok (.getfield 144, 3) := by decide +kernel
theorem dX12_line_119 : decode cX12_line 119 = .ok (.iload_n 1, 1) := by decide +kernel
theorem dX12_line_120 : decode cX12_line 120 = .ok (.dup2, 1) := by decide +kernel
theorem dX12_line_121 : decode cX12_line 121 = .ok (.iaload, 1) := by decide +kernel
theorem dX12_line_122 : decode cX12_line 122 = .ok (.iconst 1, 1) := by decide +kernel
theorem dX12_line_123 : decode cX12_line 123 = .ok (.iadd, 1) := by decide +kernel
theorem dX12_line_124 : decode cX12_line 124 = .ok (.iastore, 1) := by decide +kernel
theorem dX12_line_125 : decode cX12_line 125 = .ok (.aload_n 0, 1) := by decide +kernel
theorem dX12_line_126 : decode cX12_line 126 = .ok (.getfield 144, 3) := by decide +kernel
theorem dX12_line_129 : decode cX12_line 129 = .ok (.iload_n 1, 1) := by decide +kernel
theorem dX12_line_130 : decode cX12_line 130 = .ok (.iaload, 1) := by decide +kernel
theorem dX12_line_131 : decode cX12_line 131 = .ok (.ireturn, 1) := by decide +kernel
theorem dX12_rest_0 : decode cX12_rest 0 = .ok (.iload_n 1, 1) := by decide +kernel
theorem dX12_rest_1 : decode cX12_rest 1 = .ok (.invokestatic 612, 3) := by decide +kernel
theorem dX12_rest_4 : decode cX12_rest 4 = .ok (.ifCond .eq 15, 3) := by decide +kernel
theorem dX12_rest_7 : decode cX12_rest 7 = .ok (.iload_n 2, 1) := by decide +kernel
theorem dX12_rest_8 : decode cX12_rest 8 = .ok (.iconst (-1), 1) := by decide +kernel
theorem dX12_rest_9 : decode cX12_rest 9 = .ok (.if_icmp .eq 13, 3) := by decide +kernel
theorem dX12_rest_12 : decode cX12_rest 12 = .ok (.iload_n 2, 1) := by decide +kernel
theorem dX12_rest_13 : decode cX12_rest 13 = .ok (.invokestatic 612, 3) := by decide +kernel
theorem dX12_rest_16 : decode cX12_rest 16 = .ok (.ifCond .ne 6, 3) := by decide +kernel
theorem dX12_rest_19 : decode cX12_rest 19 = .ok (.bipush (-2), 2) := by decide +kernel
theorem dX12_rest_21 : decode cX12_rest 21 = .ok (.ireturn, 1) := by decide +kernel
theorem dX12_rest_22 : decode cX12_rest 22 = .ok (.aload_n 0, 1) := by decide +kernel
theorem dX12_rest_23 : decode cX12_rest 23 = .ok (.getfield 160, 3) := by decide +kernel
theorem dX12_rest_26 : decode cX12_rest 26 = .ok (.iload_n 1, 1) := by decide +kernel
theorem dX12_rest_27 : decode cX12_rest 27 = .ok (.baload, 1) := by decide +kernel
theorem dX12_rest_28 : decode cX12_rest 28 = .ok (.ifCond .eq 6, 3) := by decide +kernel
theorem dX12_rest_31 : decode cX12_rest 31 = .ok (.bipush (-3), 2) := by decide +kernel
theorem dX12_rest_33 : decode cX12_rest 33 = .ok (.ireturn, 1) := by decide +kernel
theorem dX12_rest_34 : decode cX12_rest 34 = .ok (.aload_n 0, 1) := by decide +kernel
theorem dX12_rest_35 : decode cX12_rest 35 = .ok (.getfield 153, 3) := by decide +kernel
theorem dX12_rest_38 : decode cX12_rest 38 = .ok (.iload_n 1, 1) := by decide +kernel
theorem dX12_rest_39 : decode cX12_rest 39 = .ok (.iload_n 2, 1) := by decide +kernel
theorem dX12_rest_40 : decode cX12_rest 40 = .ok (.iastore, 1) := by decide +kernel
theorem dX12_rest_41 : decode cX12_rest 41 = .ok (.iconst 1, 1) := by decide +kernel
theorem dX12_rest_42 : decode cX12_rest 42 = .ok (.ireturn, 1) := by decide +kernel
theorem dX12_lay_0 : decode cX12_lay 0 = .ok (.iconst 0, 1) := by decide +kernel
theorem dX12_lay_1 : decode cX12_lay 1 = .ok (.istore_n 2, 1) := by decide +kernel
theorem dX12_lay_2 : decode cX12_lay 2 = .ok (.iload_n 1, 1) := by decide +kernel
theorem dX12_lay_3 : decode cX12_lay 3 = .ok (.istore_n 3, 1) := by decide +kernel
theorem dX12_lay_4 : decode cX12_lay 4 = .ok (.iload_n 3, 1) := by decide +kernel
theorem dX12_lay_5 : decode cX12_lay 5 = .ok (.iconst (-1), 1) := by decide +kernel
theorem dX12_lay_6 : decode cX12_lay 6 = .ok (.if_icmp .eq 39, 3) := by decide +kernel
theorem dX12_lay_9 : decode cX12_lay 9 = .ok (.aload_n 0, 1) := by decide +kernel
theorem dX12_lay_10 : decode cX12_lay 10 = .ok (.getfield 156, 3) := by decide +kernel
theorem dX12_lay_13 : decode cX12_lay 13 = .ok (.iload_n 3, 1) := by decide +kernel
theorem dX12_lay_14 : decode cX12_lay 14 = .ok (.baload, 1) := by decide +kernel
theorem dX12_lay_15 : decode cX12_lay 15 = .ok (.ifCond .ne 30, 3) := by decide +kernel
theorem dX12_lay_18 : decode cX12_lay 18 = .ok (.aload_n 0, 1) := by decide +kernel
theorem dX12_lay_19 : decode cX12_lay 19 = .ok (.getfield 156, 3) := by decide +kernel
theorem dX12_lay_22 : decode cX12_lay 22 = .ok (.iload_n 3, 1) := by decide +kernel
theorem dX12_lay_23 : decode cX12_lay 23 = .ok (.iconst 1, 1) := by decide +kernel
theorem dX12_lay_24 : decode cX12_lay 24 = .ok (.bastore, 1) := by decide +kernel
theorem dX12_lay_25 : decode cX12_lay 25 = .ok (.aload_n 0, 1) := by decide +kernel
theorem dX12_lay_26 : decode cX12_lay 26 = .ok (.getfield 169, 3) := by decide +kernel
theorem dX12_lay_29 : decode cX12_lay 29 = .ok (.iload_n 2, 1) := by decide +kernel
theorem dX12_lay_30 : decode cX12_lay 30 = .ok (.iload_n 3, 1) := by decide +kernel
theorem dX12_lay_31 : decode cX12_lay 31 = .ok (.iastore, 1) := by decide +kernel
theorem dX12_lay_32 : decode cX12_lay 32 = .ok (.iinc 2 1, 3) := by decide +kernel
theorem dX12_lay_35 : decode cX12_lay 35 = .ok (.aload_n 0, 1) := by decide +kernel
theorem dX12_lay_36 : decode cX12_lay 36 = .ok (.getfield 153, 3) := by decide +kernel
theorem dX12_lay_39 : decode cX12_lay 39 = .ok (.iload_n 3, 1) := by decide +kernel
theorem dX12_lay_40 : decode cX12_lay 40 = .ok (.iaload, 1) := by decide +kernel
theorem dX12_lay_41 : decode cX12_lay 41 = .ok (.istore_n 3, 1) := by decide +kernel
theorem dX12_lay_42 : decode cX12_lay 42 = .ok (.goto (-38), 3) := by decide +kernel
theorem dX12_lay_45 : decode cX12_lay 45 = .ok (.iload_n 2, 1) := by decide +kernel
theorem dX12_lay_46 : decode cX12_lay 46 = .ok (.ifCond .le 95, 3) := by decide +kernel
theorem dX12_lay_49 : decode cX12_lay 49 = .ok (.iinc 2 (-1), 3) := by decide +kernel
theorem dX12_lay_52 : decode cX12_lay 52 = .ok (.aload_n 0, 1) := by decide +kernel
theorem dX12_lay_53 : decode cX12_lay 53 = .ok (.getfield 169, 3) := by decide +kernel
theorem dX12_lay_56 : decode cX12_lay 56 = .ok (.iload_n 2, 1) := by decide +kernel
theorem dX12_lay_57 : decode cX12_lay 57 = .ok (.iaload, 1) := by decide +kernel
theorem dX12_lay_58 : decode cX12_lay 58 = .ok (.istore 4, 2) := by decide +kernel
theorem dX12_lay_60 : decode cX12_lay 60 = .ok (.aload_n 0, 1) := by decide +kernel
theorem dX12_lay_61 : decode cX12_lay 61 = .ok (.getfield 153, 3) := by decide +kernel
theorem dX12_lay_64 : decode cX12_lay 64 = .ok (.iload 4, 2) := by decide +kernel
theorem dX12_lay_66 : decode cX12_lay 66 = .ok (.iaload, 1) := by decide +kernel
theorem dX12_lay_67 : decode cX12_lay 67 = .ok (.istore 5, 2) := by decide +kernel
theorem dX12_lay_69 : decode cX12_lay 69 = .ok (.aload_n 0, 1) := by decide +kernel
theorem dX12_lay_70 : decode cX12_lay 70 = .ok (.getfield 163, 3) := by decide +kernel
theorem dX12_lay_73 : decode cX12_lay 73 = .ok (.iload 4, 2) := by decide +kernel
theorem dX12_lay_75 : decode cX12_lay 75 = .ok (.iload 5, 2) := by decide +kernel
theorem dX12_lay_77 : decode cX12_lay 77 = .ok (.iconst (-1), 1) := by decide +kernel
theorem dX12_lay_78 : decode cX12_lay 78 = .ok (.if_icmp .ne 7, 3) := by decide +kernel
theorem dX12_lay_81 : decode cX12_lay 81 = .ok (.iconst 0, 1) := by decide +kernel
theorem dX12_lay_82 : decode cX12_lay 82 = .ok (.goto 26, 3) := by decide +kernel
theorem dX12_lay_85 : decode cX12_lay 85 = .ok (.iconst 1, 1) := by decide +kernel
theorem dX12_lay_86 : decode cX12_lay 86 = .ok (.aload_n 0, 1) := by decide +kernel
theorem dX12_lay_87 : decode cX12_lay 87 = .ok (.getfield 160, 3) := by decide +kernel
theorem dX12_lay_90 : decode cX12_lay 90 = .ok (.iload 5, 2) := by decide +kernel
theorem dX12_lay_92 : decode cX12_lay 92 = .ok (.baload, 1) := by decide +kernel
theorem dX12_lay_93 : decode cX12_lay 93 = .ok (.ifCond .eq 13, 3) := by decide +kernel
theorem dX12_lay_96 : decode cX12_lay 96 = .ok (.aload_n 0, 1) := by decide +kernel
theorem dX12_lay_97 : decode cX12_lay 97 = .ok (.getfield 163, 3) := by decide +kernel
theorem dX12_lay_100 : decode cX12_lay 100 = .ok (.iload 5, 2) := by decide +kernel
theorem dX12_lay_102 : decode cX12_lay 102 = .ok (.iaload, 1) := by decide +kernel
theorem dX12_lay_103 : decode cX12_lay 103 = .ok (.goto 4, 3) := by decide +kernel
theorem dX12_lay_106 : decode cX12_lay 106 = .ok (.iconst 0, 1) := by decide +kernel
theorem dX12_lay_107 : decode cX12_lay 107 = .ok (.iadd, 1) := by decide +kernel
theorem dX12_lay_108 : decode cX12_lay 108 = .ok (.iastore, 1) := by decide +kernel
theorem dX12_lay_109 : decode cX12_lay 109 = .ok (.aload_n 0, 1) := by decide +kernel
theorem dX12_lay_110 : decode cX12_lay 110 = .ok (.getfield 160, 3) := by decide +kernel
theorem dX12_lay_113 : decode cX12_lay 113 = .ok (.iload 4, 2) := by decide +kernel
theorem dX12_lay_115 : decode cX12_lay 115 = .ok (.iconst 1, 1) := by decide +kernel
theorem dX12_lay_116 : decode cX12_lay 116 = .ok (.bastore, 1) := by decide +kernel
theorem dX12_lay_117 : decode cX12_lay 117 = .ok (.aload_n 0, 1) := by decide +kernel
theorem dX12_lay_118 : decode cX12_lay 118 = .ok (.getfield 166, 3) := by decide +kernel
theorem dX12_lay_121 : decode cX12_lay 121 = .ok (.aload_n 0, 1) := by decide +kernel
theorem dX12_lay_122 : decode cX12_lay 122 = .ok (.getfield 617, 3) := by decide +kernel
theorem dX12_lay_125 : decode cX12_lay 125 = .ok (.iload 4, 2) := by decide +kernel
theorem dX12_lay_127 : decode cX12_lay 127 = .ok (.iastore, 1) := by decide +kernel
theorem dX12_lay_128 : decode cX12_lay 128 = .ok (.aload_n 0, 1) := by decide +kernel
theorem dX12_lay_129 : decode cX12_lay 129 = .ok (.dup, 1) := by decide +kernel
theorem dX12_lay_130 : decode cX12_lay 130 = .ok (.getfield 617, 3) := by decide +kernel
theorem dX12_lay_133 : decode cX12_lay 133 = .ok (.iconst 1, 1) := by decide +kernel
theorem dX12_lay_134 : decode cX12_lay 134 = .ok (.iadd, 1) := by decide +kernel
theorem dX12_lay_135 : decode cX12_lay 135 = .ok (.putfield 617, 3) := by decide +kernel
theorem dX12_lay_138 : decode cX12_lay 138 = .ok (.goto (-93), 3) := by decide +kernel
theorem dX12_lay_141 : decode cX12_lay 141 = .ok (.return_, 1) := by decide +kernel
theorem dX12_down_0 : decode cX12_down 0 = .ok (.lload_n 0, 1) := by decide +kernel
theorem dX12_down_1 : decode cX12_down 1 = .ok (.lload_n 2, 1) := by decide +kernel
theorem dX12_down_2 : decode cX12_down 2 = .ok (.ldiv, 1) := by decide +kernel
theorem dX12_down_3 : decode cX12_down 3 = .ok (.lstore 4, 2) := by decide +kernel
theorem dX12_down_5 : decode cX12_down 5 = .ok (.lload_n 0, 1) := by decide +kernel
theorem dX12_down_6 : decode cX12_down 6 = .ok (.lload_n 2, 1) := by decide +kernel
theorem dX12_down_7 : decode cX12_down 7 = .ok (.lrem, 1) := by decide +kernel
theorem dX12_down_8 : decode cX12_down 8 = .ok (.lconst 0, 1) := by decide +kernel
theorem dX12_down_9 : decode cX12_down 9 = .ok (.lcmp, 1) := by decide +kernel
theorem dX12_down_10 : decode cX12_down 10 = .ok (.ifCond .ge 10, 3) := by decide +kernel
theorem dX12_down_13 : decode cX12_down 13 = .ok (.lload 4, 2) := by decide +kernel
theorem dX12_down_15 : decode cX12_down 15 = .ok (.lconst 1, 1) := by decide +kernel
theorem dX12_down_16 : decode cX12_down 16 = .ok (.lsub, 1) := by decide +kernel
theorem dX12_down_17 : decode cX12_down 17 = .ok (.goto 5, 3) := by decide +kernel
theorem dX12_down_20 : decode cX12_down 20 = .ok (.lload 4, 2) := by decide +kernel
theorem dX12_down_22 : decode cX12_down 22 = .ok (.lreturn, 1) := by decide +kernel
theorem dX12_valueOf_0 : decode cX12_valueOf 0 = .ok (.aload_n 0, 1) := by decide +kernel
theorem dX12_valueOf_1 : decode cX12_valueOf 1 = .ok (.iload_n 1, 1) := by decide +kernel
theorem dX12_valueOf_2 : decode cX12_valueOf 2 = .ok (.invokevirtual 620, 3) := by decide +kernel
theorem dX12_valueOf_5 : decode cX12_valueOf 5 = .ok (.aload_n 0, 1) := by decide +kernel
theorem dX12_valueOf_6 : decode cX12_valueOf 6 = .ok (.getfield 144, 3) := by decide +kernel
theorem dX12_valueOf_9 : decode cX12_valueOf 9 = .ok (.iload_n 1, 1) := by decide +kernel
theorem dX12_valueOf_10 : decode cX12_valueOf 10 = .ok (.iaload, 1) := by decide +kernel
theorem dX12_valueOf_11 : decode cX12_valueOf 11 = .ok (.istore_n 3, 1) := by decide +kernel
theorem dX12_valueOf_12 : decode cX12_valueOf 12 = .ok (.iload_n 3, 1) := by decide +kernel
theorem dX12_valueOf_13 : decode cX12_valueOf 13 = .ok (.ifCond .ne 10, 3) := by decide +kernel
theorem dX12_valueOf_16 : decode cX12_valueOf 16 = .ok (.aload_n 0, 1) := by decide +kernel
theorem dX12_valueOf_17 : decode cX12_valueOf 17 = .ok (.getfield 163, 3) := by decide +kernel
theorem dX12_valueOf_20 : decode cX12_valueOf 20 = .ok (.iload_n 1, 1) := by decide +kernel
theorem dX12_valueOf_21 : decode cX12_valueOf 21 = .ok (.iaload, 1) := by decide +kernel
theorem dX12_valueOf_22 : decode cX12_valueOf 22 = .ok (.ireturn, 1) := by decide +kernel
theorem dX12_valueOf_23 : decode cX12_valueOf 23 = .ok (.bipush 8, 2) := by decide +kernel
theorem dX12_valueOf_25 : decode cX12_valueOf 25 = .ok (.iload_n 1, 1) := by decide +kernel
theorem dX12_valueOf_26 : decode cX12_valueOf 26 = .ok (.imul, 1) := by decide +kernel
theorem dX12_valueOf_27 : decode cX12_valueOf 27 = .ok (.istore 4, 2) := by decide +kernel
theorem dX12_valueOf_29 : decode cX12_valueOf 29 = .ok (.iload_n 2, 1) := by decide +kernel
theorem dX12_valueOf_30 : decode cX12_valueOf 30 = .ok (.aload_n 0, 1) := by decide +kernel
theorem dX12_valueOf_31 : decode cX12_valueOf 31 = .ok (.getfield 147, 3) := by decide +kernel
theorem dX12_valueOf_34 : decode cX12_valueOf 34 = .ok (.iload 4, 2) := by decide +kernel
theorem dX12_valueOf_36 : decode cX12_valueOf 36 = .ok (.iaload, 1) := by decide +kernel
theorem dX12_valueOf_37 : decode cX12_valueOf 37 = .ok (.if_icmp .gt 18, 3) := by decide +kernel
theorem dX12_valueOf_40 : decode cX12_valueOf 40 = .ok (.aload_n 0, 1) := by decide +kernel
theorem dX12_valueOf_41 : decode cX12_valueOf 41 = .ok (.getfield 163, 3) := by decide +kernel
theorem dX12_valueOf_44 : decode cX12_valueOf 44 = .ok (.iload_n 1, 1) := by decide +kernel
theorem dX12_valueOf_45 : decode cX12_valueOf 45 = .ok (.iaload, 1) := by decide +kernel
theorem dX12_valueOf_46 : decode cX12_valueOf 46 = .ok (.aload_n 0, 1) := by decide +kernel
theorem dX12_valueOf_47 : decode cX12_valueOf 47 = .ok (.getfield 150, 3) := by decide +kernel
theorem dX12_valueOf_50 : decode cX12_valueOf 50 = .ok (.iload 4, 2) := by decide +kernel
theorem dX12_valueOf_52 : decode cX12_valueOf 52 = .ok (.iaload, 1) := by decide +kernel
theorem dX12_valueOf_53 : decode cX12_valueOf 53 = .ok (.iadd, 1) := by decide +kernel
theorem dX12_valueOf_54 : decode cX12_valueOf 54 = .ok (.ireturn, 1) := by decide +kernel
theorem dX12_valueOf_55 : decode cX12_valueOf 55 = .ok (.iload 4, 2) := by decide +kernel
theorem dX12_valueOf_57 : decode cX12_valueOf 57 = .ok (.iconst 1, 1) := by decide +kernel
theorem dX12_valueOf_58 : decode cX12_valueOf 58 = .ok (.iadd, 1) := by decide +kernel
theorem dX12_valueOf_59 : decode cX12_valueOf 59 = .ok (.bipush 8, 2) := by decide +kernel
theorem dX12_valueOf_61 : decode cX12_valueOf 61 = .ok (.iload_n 1, 1) := by decide +kernel
theorem dX12_valueOf_62 : decode cX12_valueOf 62 = .ok (.imul, 1) := by decide +kernel
theorem dX12_valueOf_63 : decode cX12_valueOf 63 = .ok (.iload_n 3, 1) := by decide +kernel
theorem dX12_valueOf_64 : decode cX12_valueOf 64 = .ok (.iadd, 1) := by decide +kernel
theorem dX12_valueOf_65 : decode cX12_valueOf 65 = .ok (.if_icmp .ge 22, 3) := by decide +kernel
theorem dX12_valueOf_68 : decode cX12_valueOf 68 = .ok (.aload_n 0, 1) := by decide +kernel
theorem dX12_valueOf_69 : decode cX12_valueOf 69 = .ok (.getfield 147, 3) := by decide +kernel
theorem dX12_valueOf_72 : decode cX12_valueOf 72 = .ok (.iload 4, 2) := by decide +kernel
theorem dX12_valueOf_74 : decode cX12_valueOf 74 = .ok (.iconst 1, 1) := by decide +kernel
theorem dX12_valueOf_75 : decode cX12_valueOf 75 = .ok (.iadd, 1) := by decide +kernel
theorem dX12_valueOf_76 : decode cX12_valueOf 76 = .ok (.iaload, 1) := by decide +kernel
theorem dX12_valueOf_77 : decode cX12_valueOf 77 = .ok (.iload_n 2, 1) := by decide +kernel
theorem dX12_valueOf_78 : decode cX12_valueOf 78 = .ok (.if_icmp .gt 9, 3) := by decide +kernel
theorem dX12_valueOf_81 : decode cX12_valueOf 81 = .ok (.iinc 4 1, 3) := by decide +kernel
theorem dX12_valueOf_84 : decode cX12_valueOf 84 = .ok (.goto (-29), 3) := by decide +kernel
theorem dX12_valueOf_87 : decode cX12_valueOf 87 = .ok (.iload 4, 2) := by decide +kernel
theorem dX12_valueOf_89 : decode cX12_valueOf 89 = .ok (.iconst 1, 1) := by decide +kernel
theorem dX12_valueOf_90 : decode cX12_valueOf 90 = .ok (.iadd, 1) := by decide +kernel
theorem dX12_valueOf_91 : decode cX12_valueOf 91 = .ok (.bipush 8, 2) := by decide +kernel
theorem dX12_valueOf_93 : decode cX12_valueOf 93 = .ok (.iload_n 1, 1) := by decide +kernel
theorem dX12_valueOf_94 : decode cX12_valueOf 94 = .ok (.imul, 1) := by decide +kernel
theorem dX12_valueOf_95 : decode cX12_valueOf 95 = .ok (.iload_n 3, 1) := by decide +kernel
theorem dX12_valueOf_96 : decode cX12_valueOf 96 = .ok (.iadd, 1) := by decide +kernel
theorem dX12_valueOf_97 : decode cX12_valueOf 97 = .ok (.if_icmp .ne 18, 3) := by decide +kernel
theorem dX12_valueOf_100 : decode cX12_valueOf 100 = .ok (.aload_n 0, 1) := by decide +kernel
theorem dX12_valueOf_101 : decode cX12_valueOf 101 = .ok (.getfield 163, 3) := by decide +kernel
theorem dX12_valueOf_104 : decode cX12_valueOf 104 = .ok (.iload_n 1, 1) := by decide +kernel
theorem dX12_valueOf_105 : decode cX12_valueOf 105 = .ok (.iaload, 1) := by decide +kernel
theorem dX12_valueOf_106 : decode cX12_valueOf 106 = .ok (.aload_n 0, 1) := by decide +kernel
theorem dX12_valueOf_107 : decode cX12_valueOf 107 = .ok (.getfield 150, 3) := by decide +kernel
theorem dX12_valueOf_110 : decode cX12_valueOf 110 = .ok (.iload 4, 2) := by decide +kernel
theorem dX12_valueOf_112 : decode cX12_valueOf 112 = .ok (.iaload, 1) := by decide +kernel
theorem dX12_valueOf_113 : decode cX12_valueOf 113 = .ok (.iadd, 1) := by decide +kernel
theorem dX12_valueOf_114 : decode cX12_valueOf 114 = .ok (.ireturn, 1) := by decide +kernel
theorem dX12_valueOf_115 : decode cX12_valueOf 115 = .ok (.aload_n 0, 1) := by decide +kernel
theorem dX12_valueOf_116 : decode cX12_valueOf 116 = .ok (.getfield 150, 3) := by decide +kernel
theorem dX12_valueOf_119 : decode cX12_valueOf 119 = .ok (.iload 4, 2) := by decide +kernel
theorem dX12_valueOf_121 : decode cX12_valueOf 121 = .ok (.iconst 1, 1) := by decide +kernel
theorem dX12_valueOf_122 : decode cX12_valueOf 122 = .ok (.iadd, 1) := by decide +kernel
theorem dX12_valueOf_123 : decode cX12_valueOf 123 = .ok (.iaload, 1) := by decide +kernel
theorem dX12_valueOf_124 : decode cX12_valueOf 124 = .ok (.aload_n 0, 1) := by decide +kernel
theorem dX12_valueOf_125 : decode cX12_valueOf 125 = .ok (.getfield 150, 3) := by decide +kernel
theorem dX12_valueOf_128 : decode cX12_valueOf 128 = .ok (.iload 4, 2) := by decide +kernel
theorem dX12_valueOf_130 : decode cX12_valueOf 130 = .ok (.iaload, 1) := by decide +kernel
theorem dX12_valueOf_131 : decode cX12_valueOf 131 = .ok (.isub, 1) := by decide +kernel
theorem dX12_valueOf_132 : decode cX12_valueOf 132 = .ok (.i2l, 1) := by decide +kernel
theorem dX12_valueOf_133 : decode cX12_valueOf 133 = .ok (.iload_n 2, 1) := by decide +kernel
theorem dX12_valueOf_134 : decode cX12_valueOf 134 = .ok (.aload_n 0, 1) := by decide +kernel
theorem dX12_valueOf_135 : decode cX12_valueOf 135 = .ok (.getfield 147, 3) := by decide +kernel
theorem dX12_valueOf_138 : decode cX12_valueOf 138 = .ok (.iload 4, 2) := by decide +kernel
theorem dX12_valueOf_140 : decode cX12_valueOf 140 = .ok (.iaload, 1) := by decide +kernel
theorem dX12_valueOf_141 : decode cX12_valueOf 141 = .ok (.isub, 1) := by decide +kernel
theorem dX12_valueOf_142 : decode cX12_valueOf 142 = .ok (.i2l, 1) := by decide +kernel
theorem dX12_valueOf_143 : decode cX12_valueOf 143 = .ok (.lmul, 1) := by decide +kernel
theorem dX12_valueOf_144 : decode cX12_valueOf 144 = .ok (.aload_n 0, 1) := by decide +kernel
theorem dX12_valueOf_145 : decode cX12_valueOf 145 = .ok (.getfield 147, 3) := by decide +kernel
theorem dX12_valueOf_148 : decode cX12_valueOf 148 = .ok (.iload 4, 2) := by decide +kernel
theorem dX12_valueOf_150 : decode cX12_valueOf 150 = .ok (.iconst 1, 1) := by decide +kernel
theorem dX12_valueOf_151 : decode cX12_valueOf 151 = .ok (.iadd, 1) := by decide +kernel
theorem dX12_valueOf_152 : decode cX12_valueOf 152 = .ok (.iaload, 1) := by decide +kernel
theorem dX12_valueOf_153 : decode cX12_valueOf 153 = .ok (.aload_n 0, 1) := by decide +kernel
theorem dX12_valueOf_154 : decode cX12_valueOf 154 = .ok (.getfield 147, 3) := by decide +kernel
theorem dX12_valueOf_157 : decode cX12_valueOf 157 = .ok (.iload 4, 2) := by decide +kernel
theorem dX12_valueOf_159 : decode cX12_valueOf 159 = .ok (.iaload, 1) := by decide +kernel
theorem dX12_valueOf_160 : decode cX12_valueOf 160 = .ok (.isub, 1) := by decide +kernel
theorem dX12_valueOf_161 : decode cX12_valueOf 161 = .ok (.i2l, 1) := by decide +kernel
theorem dX12_valueOf_162 : decode cX12_valueOf 162 = .ok (.invokestatic 623, 3) := by decide +kernel
theorem dX12_valueOf_165 : decode cX12_valueOf 165 = .ok (.lstore 5, 2) := by decide +kernel
theorem dX12_valueOf_167 : decode cX12_valueOf 167 = .ok (.aload_n 0, 1) := by decide +kernel
theorem dX12_valueOf_168 : decode cX12_valueOf 168 = .ok (.getfield 163, 3) := by decide +kernel
theorem dX12_valueOf_171 : decode cX12_valueOf 171 = .ok (.iload_n 1, 1) := by decide +kernel
theorem dX12_valueOf_172 : decode cX12_valueOf 172 = .ok (.iaload, 1) := by decide +kernel
theorem dX12_valueOf_173 : decode cX12_valueOf 173 = .ok (.aload_n 0, 1) := by decide +kernel
theorem dX12_valueOf_174 : decode cX12_valueOf 174 = .ok (.getfield 150, 3) := by decide +kernel
theorem dX12_valueOf_177 : decode cX12_valueOf 177 = .ok (.iload 4, 2) := by decide +kernel
theorem dX12_valueOf_179 : decode cX12_valueOf 179 = .ok (.iaload, 1) := by decide +kernel
theorem dX12_valueOf_180 : decode cX12_valueOf 180 = .ok (.iadd, 1) := by decide +kernel
theorem dX12_valueOf_181 : decode cX12_valueOf 181 = .ok (.lload 5, 2) := by decide +kernel
theorem dX12_valueOf_183 : decode cX12_valueOf 183 = .ok (.l2i, 1) := by decide +kernel
theorem dX12_valueOf_184 : decode cX12_valueOf 184 = .ok (.iadd, 1) := by decide +kernel
theorem dX12_valueOf_185 : decode cX12_valueOf 185 = .ok (.ireturn, 1) := by decide +kernel
theorem dX12_value_0 : decode cX12_value 0 = .ok (.iload_n 1, 1) := by decide +kernel
theorem dX12_value_1 : decode cX12_value 1 = .ok (.invokestatic 612, 3) := by decide +kernel
theorem dX12_value_4 : decode cX12_value 4 = .ok (.ifCond .eq 12, 3) := by decide +kernel
theorem dX12_value_7 : decode cX12_value 7 = .ok (.aload_n 0, 1) := by decide +kernel
theorem dX12_value_8 : decode cX12_value 8 = .ok (.iload_n 1, 1) := by decide +kernel
theorem dX12_value_9 : decode cX12_value 9 = .ok (.iload_n 2, 1) := by decide +kernel
theorem dX12_value_10 : decode cX12_value 10 = .ok (.invokevirtual 627, 3) := by decide +kernel
theorem dX12_value_13 : decode cX12_value 13 = .ok (.goto 4, 3) := by decide +kernel
theorem dX12_value_16 : decode cX12_value 16 = .ok (.iconst 0, 1) := by decide +kernel
theorem dX12_value_17 : decode cX12_value 17 = .ok (.ireturn, 1) := by decide +kernel
theorem dX12_laid_0 : decode cX12_laid 0 = .ok (.iload_n 1, 1) := by decide +kernel
theorem dX12_laid_1 : decode cX12_laid 1 = .ok (.iconst 0, 1) := by decide +kernel
theorem dX12_laid_2 : decode cX12_laid 2 = .ok (.aload_n 0, 1) := by decide +kernel
theorem dX12_laid_3 : decode cX12_laid 3 = .ok (.getfield 617, 3) := by decide +kernel
theorem dX12_laid_6 : decode cX12_laid 6 = .ok (.iconst 1, 1) := by decide +kernel
theorem dX12_laid_7 : decode cX12_laid 7 = .ok (.isub, 1) := by decide +kernel
theorem dX12_laid_8 : decode cX12_laid 8 = .ok (.invokestatic 322, 3) := by decide +kernel
theorem dX12_laid_11 : decode cX12_laid 11 = .ok (.ifCond .eq 12, 3) := by decide +kernel
theorem dX12_laid_14 : decode cX12_laid 14 = .ok (.aload_n 0, 1) := by decide +kernel
theorem dX12_laid_15 : decode cX12_laid 15 = .ok (.getfield 166, 3) := by decide +kernel
theorem dX12_laid_18 : decode cX12_laid 18 = .ok (.iload_n 1, 1) := by decide +kernel
theorem dX12_laid_19 : decode cX12_laid 19 = .ok (.iaload, 1) := by decide +kernel
theorem dX12_laid_20 : decode cX12_laid 20 = .ok (.goto 4, 3) := by decide +kernel
theorem dX12_laid_23 : decode cX12_laid 23 = .ok (.iconst (-1), 1) := by decide +kernel
theorem dX12_laid_24 : decode cX12_laid 24 = .ok (.ireturn, 1) := by decide +kernel
theorem dX12_read_0 : decode cX12_read 0 = .ok (.iload_n 1, 1) := by decide +kernel
theorem dX12_read_1 : decode cX12_read 1 = .ok (.iconst 0, 1) := by decide +kernel
theorem dX12_read_2 : decode cX12_read 2 = .ok (.bipush 8, 2) := by decide +kernel
theorem dX12_read_4 : decode cX12_read 4 = .ok (.invokestatic 322, 3) := by decide +kernel
theorem dX12_read_7 : decode cX12_read 7 = .ok (.ifCond .ne 6, 3) := by decide +kernel
theorem dX12_read_10 : decode cX12_read 10 = .ok (.bipush (-2), 2) := by decide +kernel
theorem dX12_read_12 : decode cX12_read 12 = .ok (.ireturn, 1) := by decide +kernel
theorem dX12_read_13 : decode cX12_read 13 = .ok (.aload_n 0, 1) := by decide +kernel
theorem dX12_read_14 : decode cX12_read 14 = .ok (.getfield 174, 3) := by decide +kernel
theorem dX12_read_17 : decode cX12_read 17 = .ok (.iload_n 1, 1) := by decide +kernel
theorem dX12_read_18 : decode cX12_read 18 = .ok (.bipush 7, 2) := by decide +kernel
theorem dX12_read_20 : decode cX12_read 20 = .ok (.lload_n 2, 1) := by decide +kernel
theorem dX12_read_21 : decode cX12_read 21 = .ok (.invokestatic 377, 3) := by decide +kernel
theorem dX12_read_24 : decode cX12_read 24 = .ok (.lastore, 1) := by decide +kernel
theorem dX12_read_25 : decode cX12_read 25 = .ok (.iconst 1, 1) := by decide +kernel
theorem dX12_read_26 : decode cX12_read 26 = .ok (.ireturn, 1) := by decide +kernel
theorem dX12_part_0 : decode cX12_part 0 = .ok (.bipush 7, 2) := by decide +kernel
theorem dX12_part_2 : decode cX12_part 2 = .ok (.lload_n 1, 1) := by decide +kernel
theorem dX12_part_3 : decode cX12_part 3 = .ok (.invokestatic 377, 3) := by decide +kernel
theorem dX12_part_6 : decode cX12_part 6 = .ok (.lstore_n 3, 1) := by decide +kernel
theorem dX12_part_7 : decode cX12_part 7 = .ok (.lload_n 3, 1) := by decide +kernel
theorem dX12_part_8 : decode cX12_part 8 = .ok (.ldc2_w 172, 3) := by decide +kernel
theorem dX12_part_11 : decode cX12_part 11 = .ok (.lcmp, 1) := by decide +kernel
theorem dX12_part_12 : decode cX12_part 12 = .ok (.ifCond .eq 12, 3) := by decide +kernel
theorem dX12_part_15 : decode cX12_part 15 = .ok (.lload_n 3, 1) := by decide +kernel
theorem dX12_part_16 : decode cX12_part 16 = .ok (.invokestatic 630, 3) := by decide +kernel
theorem dX12_part_19 : decode cX12_part 19 = .ok (.dconst 0, 1) := by decide +kernel
theorem dX12_part_20 : decode cX12_part 20 = .ok (.dcmp .g, 1) := by decide +kernel
theorem dX12_part_21 : decode cX12_part 21 = .ok (.ifCond .ge 6, 3) := by decide +kernel
theorem dX12_part_24 : decode cX12_part 24 = .ok (.bipush (-2), 2) := by decide +kernel
theorem dX12_part_26 : decode cX12_part 26 = .ok (.ireturn, 1) := by decide +kernel
theorem dX12_part_27 : decode cX12_part 27 = .ok (.aload_n 0, 1) := by decide +kernel
theorem dX12_part_28 : decode cX12_part 28 = .ok (.lload_n 3, 1) := by decide +kernel
theorem dX12_part_29 : decode cX12_part 29 = .ok (.invokestatic 630, 3) := by decide +kernel
theorem dX12_part_32 : decode cX12_part 32 = .ok (.putfield 200, 3) := by decide +kernel
theorem dX12_part_35 : decode cX12_part 35 = .ok (.iconst 1, 1) := by decide +kernel
theorem dX12_part_36 : decode cX12_part 36 = .ok (.ireturn, 1) := by decide +kernel
theorem dX12_probe_0 : decode cX12_probe 0 = .ok (.iload_n 1, 1) := by decide +kernel
theorem dX12_probe_1 : decode cX12_probe 1 = .ok (.iconst 0, 1) := by decide +kernel
theorem dX12_probe_2 : decode cX12_probe 2 = .ok (.bipush 8, 2) := by decide +kernel
theorem dX12_probe_4 : decode cX12_probe 4 = .ok (.invokestatic 322, 3) := by decide +kernel
theorem dX12_probe_7 : decode cX12_probe 7 = .ok (.ifCond .ne 6, 3) := by decide +kernel
theorem dX12_probe_10 : decode cX12_probe 10 = .ok (.bipush (-2), 2) := by decide +kernel
theorem dX12_probe_12 : decode cX12_probe 12 = .ok (.ireturn, 1) := by decide +kernel
theorem dX12_probe_13 : decode cX12_probe 13 = .ok (.iload_n 2, 1) := by decide +kernel
theorem dX12_probe_14 : decode cX12_probe 14 = .ok (.tableswitch 77 0 4 #[34, 49, 56, 63, 70], 34) := by decide +kernel
theorem dX12_probe_48 : decode cX12_probe 48 = .ok (.aload_n 0, 1) := by decide +kernel
theorem dX12_probe_49 : decode cX12_probe 49 = .ok (.getfield 180, 3) := by decide +kernel
theorem dX12_probe_52 : decode cX12_probe 52 = .ok (.iload_n 1, 1) := by decide +kernel
theorem dX12_probe_53 : decode cX12_probe 53 = .ok (.baload, 1) := by decide +kernel
theorem dX12_probe_54 : decode cX12_probe 54 = .ok (.ifCond .eq 7, 3) := by decide +kernel
theorem dX12_probe_57 : decode cX12_probe 57 = .ok (.iconst 0, 1) := by decide +kernel
theorem dX12_probe_58 : decode cX12_probe 58 = .ok (.goto 4, 3) := by decide +kernel
theorem dX12_probe_61 : decode cX12_probe 61 = .ok (.iconst 1, 1) := by decide +kernel
theorem dX12_probe_62 : decode cX12_probe 62 = .ok (.ireturn, 1) := by decide +kernel
theorem dX12_probe_63 : decode cX12_probe 63 = .ok (.aload_n 0, 1) := by decide +kernel
theorem dX12_probe_64 : decode cX12_probe 64 = .ok (.getfield 183, 3) := by decide +kernel
theorem dX12_probe_67 : decode cX12_probe 67 = .ok (.iload_n 1, 1) := by decide +kernel
theorem dX12_probe_68 : decode cX12_probe 68 = .ok (.iaload, 1) := by decide +kernel
theorem dX12_probe_69 : decode cX12_probe 69 = .ok (.ireturn, 1) := by decide +kernel
theorem dX12_probe_70 : decode cX12_probe 70 = .ok (.aload_n 0, 1) := by decide +kernel
theorem dX12_probe_71 : decode cX12_probe 71 = .ok (.getfield 186, 3) := by decide +kernel
theorem dX12_probe_74 : decode cX12_probe 74 = .ok (.iload_n 1, 1) := by decide +kernel
theorem dX12_probe_75 : decode cX12_probe 75 = .ok (.iaload, 1) := by decide +kernel
theorem dX12_probe_76 : decode cX12_probe 76 = .ok (.ireturn, 1) := by decide +kernel
theorem dX12_probe_77 : decode cX12_probe 77 = .ok (.aload_n 0, 1) := by decide +kernel
theorem dX12_probe_78 : decode cX12_probe 78 = .ok (.getfield 189, 3) := by decide +kernel
theorem dX12_probe_81 : decode cX12_probe 81 = .ok (.iload_n 1, 1) := by decide +kernel
theorem dX12_probe_82 : decode cX12_probe 82 = .ok (.iaload, 1) := by decide +kernel
theorem dX12_probe_83 : decode cX12_probe 83 = .ok (.ireturn, 1) := by decide +kernel
theorem dX12_probe_84 : decode cX12_probe 84 = .ok (.aload_n 0, 1) := by decide +kernel
theorem dX12_probe_85 : decode cX12_probe 85 = .ok (.getfield 192, 3) := by decide +kernel
theorem dX12_probe_88 : decode cX12_probe 88 = .ok (.iload_n 1, 1) := by decide +kernel
theorem dX12_probe_89 : decode cX12_probe 89 = .ok (.iaload, 1) := by decide +kernel
theorem dX12_probe_90 : decode cX12_probe 90 = .ok (.ireturn, 1) := by decide +kernel
theorem dX12_probe_91 : decode cX12_probe 91 = .ok (.bipush (-2), 2) := by decide +kernel
theorem dX12_probe_93 : decode cX12_probe 93 = .ok (.ireturn, 1) := by decide +kernel
theorem dX12_voted_0 : decode cX12_voted 0 = .ok (.iload_n 1, 1) := by decide +kernel
theorem dX12_voted_1 : decode cX12_voted 1 = .ok (.iconst 0, 1) := by decide +kernel
theorem dX12_voted_2 : decode cX12_voted 2 = .ok (.iconst 2, 1) := by decide +kernel
theorem dX12_voted_3 : decode cX12_voted 3 = .ok (.invokestatic 322, 3) := by decide +kernel
theorem dX12_voted_6 : decode cX12_voted 6 = .ok (.ifCond .eq 12, 3) := by decide +kernel
theorem dX12_voted_9 : decode cX12_voted 9 = .ok (.aload_n 0, 1) := by decide +kernel
theorem dX12_voted_10 : decode cX12_voted 10 = .ok (.getfield 204, 3) := by decide +kernel
theorem dX12_voted_13 : decode cX12_voted 13 = .ok (.iload_n 1, 1) := by decide +kernel
theorem dX12_voted_14 : decode cX12_voted 14 = .ok (.laload, 1) := by decide +kernel
theorem dX12_voted_15 : decode cX12_voted 15 = .ok (.goto 4, 3) := by decide +kernel
theorem dX12_voted_18 : decode cX12_voted 18 = .ok (.lconst 0, 1) := by decide +kernel
theorem dX12_voted_19 : decode cX12_voted 19 = .ok (.lreturn, 1) := by decide +kernel
theorem dX12_reads_0 : decode cX12_reads 0 = .ok (.aload_n 0, 1) := by decide +kernel
theorem dX12_reads_1 : decode cX12_reads 1 = .ok (.getfield 174, 3) := by decide +kernel
theorem dX12_reads_4 : decode cX12_reads 4 = .ok (.iload_n 1, 1) := by decide +kernel
theorem dX12_reads_5 : decode cX12_reads 5 = .ok (.laload, 1) := by decide +kernel
theorem dX12_reads_6 : decode cX12_reads 6 = .ok (.ldc2_w 172, 3) := by decide +kernel
theorem dX12_reads_9 : decode cX12_reads 9 = .ok (.lcmp, 1) := by decide +kernel
theorem dX12_reads_10 : decode cX12_reads 10 = .ok (.ifCond .eq 7, 3) := by decide +kernel
theorem dX12_reads_13 : decode cX12_reads 13 = .ok (.iconst 1, 1) := by decide +kernel
theorem dX12_reads_14 : decode cX12_reads 14 = .ok (.goto 4, 3) := by decide +kernel
theorem dX12_reads_17 : decode cX12_reads 17 = .ok (.iconst 0, 1) := by decide +kernel
theorem dX12_reads_18 : decode cX12_reads 18 = .ok (.ireturn, 1) := by decide +kernel
theorem dX12_isBelow_0 : decode cX12_isBelow 0 = .ok (.lload_n 0, 1) := by decide +kernel
theorem dX12_isBelow_1 : decode cX12_isBelow 1 = .ok (.lconst 0, 1) := by decide +kernel
theorem dX12_isBelow_2 : decode cX12_isBelow 2 = .ok (.lcmp, 1) := by decide +kernel
theorem dX12_isBelow_3 : decode cX12_isBelow 3 = .ok (.ifCond .ge 15, 3) := by decide +kernel
theorem dX12_isBelow_6 : decode cX12_isBelow 6 = .ok (.lload_n 0, 1) := by decide +kernel
theorem dX12_isBelow_7 : decode cX12_isBelow 7 = .ok (.ldc2_w 341, 3) := by decide +kernel
theorem dX12_isBelow_10 : decode cX12_isBelow 10 = .ok (.land, 1) := by decide +kernel
theorem dX12_isBelow_11 : decode cX12_isBelow 11 = .ok (.ldc2_w 634, 3) := by decide +kernel
theorem dX12_isBelow_14 : decode cX12_isBelow 14 = .ok (.lxor, 1) := by decide +kernel
theorem dX12_isBelow_15 : decode cX12_isBelow 15 = .ok (.goto 4, 3) := by decide +kernel
theorem dX12_isBelow_18 : decode cX12_isBelow 18 = .ok (.lload_n 0, 1) := by decide +kernel
theorem dX12_isBelow_19 : decode cX12_isBelow 19 = .ok (.lstore 4, 2) := by decide +kernel
theorem dX12_isBelow_21 : decode cX12_isBelow 21 = .ok (.lload_n 2, 1) := by decide +kernel
theorem dX12_isBelow_22 : decode cX12_isBelow 22 = .ok (.lconst 0, 1) := by decide +kernel
theorem dX12_isBelow_23 : decode cX12_isBelow 23 = .ok (.lcmp, 1) := by decide +kernel
theorem dX12_isBelow_24 : decode cX12_isBelow 24 = .ok (.ifCond .ge 15, 3) := by decide +kernel
theorem dX12_isBelow_27 : decode cX12_isBelow 27 = .ok (.lload_n 2, 1) := by decide +kernel
theorem dX12_isBelow_28 : decode cX12_isBelow 28 = .ok (.ldc2_w 341, 3) := by decide +kernel
theorem dX12_isBelow_31 : decode cX12_isBelow 31 = .ok (.land, 1) := by decide +kernel
theorem dX12_isBelow_32 : decode cX12_isBelow 32 = .ok (.ldc2_w 634, 3) := by decide +kernel
theorem dX12_isBelow_35 : decode cX12_isBelow 35 = .ok (.lxor, 1) := by decide +kernel
theorem dX12_isBelow_36 : decode cX12_isBelow 36 = .ok (.goto 4, 3) := by decide +kernel
theorem dX12_isBelow_39 : decode cX12_isBelow 39 = .ok (.lload_n 2, 1) := by decide +kernel
theorem dX12_isBelow_40 : decode cX12_isBelow 40 = .ok (.lstore 6, 2) := by decide +kernel
theorem dX12_isBelow_42 : decode cX12_isBelow 42 = .ok (.lload 4, 2) := by decide +kernel
theorem dX12_isBelow_44 : decode cX12_isBelow 44 = .ok (.lload 6, 2) := by decide +kernel
theorem dX12_isBelow_46 : decode cX12_isBelow 46 = .ok (.lcmp, 1) := by decide +kernel
theorem dX12_isBelow_47 : decode cX12_isBelow 47 = .ok (.ifCond .ge 7, 3) := by decide +kernel
theorem dX12_isBelow_50 : decode cX12_isBelow 50 = .ok (.iconst 1, 1) := by decide +kernel
theorem dX12_isBelow_51 : decode cX12_isBelow 51 = .ok (.goto 4, 3) := by decide +kernel
theorem dX12_isBelow_54 : decode cX12_isBelow 54 = .ok (.iconst 0, 1) := by decide +kernel
theorem dX12_isBelow_55 : decode cX12_isBelow 55 = .ok (.ireturn, 1) := by decide +kernel
theorem dX12_find_0 : decode cX12_find 0 = .ok (.iconst 0, 1) := by decide +kernel
theorem dX12_find_1 : decode cX12_find 1 = .ok (.istore_n 2, 1) := by decide +kernel
theorem dX12_find_2 : decode cX12_find 2 = .ok (.iload_n 1, 1) := by decide +kernel
theorem dX12_find_3 : decode cX12_find 3 = .ok (.istore_n 3, 1) := by decide +kernel
theorem dX12_find_4 : decode cX12_find 4 = .ok (.iload_n 3, 1) := by decide +kernel
theorem dX12_find_5 : decode cX12_find 5 = .ok (.bipush 9, 2) := by decide +kernel
theorem dX12_find_7 : decode cX12_find 7 = .ok (.if_icmp .ge 34, 3) := by decide +kernel
theorem dX12_find_10 : decode cX12_find 10 = .ok (.iload_n 2, 1) := by decide +kernel
theorem dX12_find_11 : decode cX12_find 11 = .ok (.aload_n 0, 1) := by decide +kernel
theorem dX12_find_12 : decode cX12_find 12 = .ok (.iload_n 3, 1) := by decide +kernel
theorem dX12_find_13 : decode cX12_find 13 = .ok (.invokevirtual 636, 3) := by decide +kernel
theorem dX12_find_16 : decode cX12_find 16 = .ok (.ifCond .eq 16, 3) := by decide +kernel
theorem dX12_find_19 : decode cX12_find 19 = .ok (.aload_n 0, 1) := by decide +kernel
theorem dX12_find_20 : decode cX12_find 20 = .ok (.getfield 180, 3) := by decide +kernel
theorem dX12_find_23 : decode cX12_find 23 = .ok (.iload_n 3, 1) := by decide +kernel
theorem dX12_find_24 : decode cX12_find 24 = .ok (.baload, 1) := by decide +kernel
theorem dX12_find_25 : decode cX12_find 25 = .ok (.ifCond .ne 7, 3) := by decide +kernel
theorem dX12_find_28 : decode cX12_find 28 = .ok (.iconst 1, 1) := by decide +kernel
theorem dX12_find_29 : decode cX12_find 29 = .ok (.goto 4, 3) := by decide +kernel
theorem dX12_find_32 : decode cX12_find 32 = .ok (.iconst 0, 1) := by decide +kernel
theorem dX12_find_33 : decode cX12_find 33 = .ok (.iadd, 1) := by decide +kernel
theorem dX12_find_34 : decode cX12_find 34 = .ok (.istore_n 2, 1) := by decide +kernel
theorem dX12_find_35 : decode cX12_find 35 = .ok (.iinc 3 3, 3) := by decide +kernel
theorem dX12_find_38 : decode cX12_find 38 = .ok (.goto (-34), 3) := by decide +kernel
theorem dX12_find_41 : decode cX12_find 41 = .ok (.aload_n 0, 1) := by decide +kernel
theorem dX12_find_42 : decode cX12_find 42 = .ok (.getfield 204, 3) := by decide +kernel
theorem dX12_find_45 : decode cX12_find 45 = .ok (.iload_n 1, 1) := by decide +kernel
theorem dX12_find_46 : decode cX12_find 46 = .ok (.ldc2_w 172, 3) := by decide +kernel
theorem dX12_find_49 : decode cX12_find 49 = .ok (.lastore, 1) := by decide +kernel
theorem dX12_find_50 : decode cX12_find 50 = .ok (.iload_n 1, 1) := by decide +kernel
theorem dX12_find_51 : decode cX12_find 51 = .ok (.istore_n 3, 1) := by decide +kernel
theorem dX12_find_52 : decode cX12_find 52 = .ok (.iload_n 3, 1) := by decide +kernel
theorem dX12_find_53 : decode cX12_find 53 = .ok (.bipush 9, 2) := by decide +kernel
theorem dX12_find_55 : decode cX12_find 55 = .ok (.if_icmp .ge 154, 3) := by decide +kernel
theorem dX12_find_58 : decode cX12_find 58 = .ok (.iload_n 2, 1) := by decide +kernel
theorem dX12_find_59 : decode cX12_find 59 = .ok (.ifCond .le 150, 3) := by decide +kernel
theorem dX12_find_62 : decode cX12_find 62 = .ok (.iconst 0, 1) := by decide +kernel
theorem dX12_find_63 : decode cX12_find 63 = .ok (.istore 4, 2) := by decide +kernel
theorem dX12_find_65 : decode cX12_find 65 = .ok (.iload_n 1, 1) := by decide +kernel
theorem dX12_find_66 : decode cX12_find 66 = .ok (.istore 5, 2) := by decide +kernel
theorem dX12_find_68 : decode cX12_find 68 = .ok (.iload 5, 2) := by decide +kernel
theorem dX12_find_70 : decode cX12_find 70 = .ok (.bipush 9, 2) := by decide +kernel
theorem dX12_find_72 : decode cX12_find 72 = .ok (.if_icmp .ge 92, 3) := by decide +kernel
theorem dX12_find_75 : decode cX12_find 75 = .ok (.aload_n 0, 1) := by decide +kernel
theorem dX12_find_76 : decode cX12_find 76 = .ok (.getfield 174, 3) := by decide +kernel
theorem dX12_find_79 : decode cX12_find 79 = .ok (.iload 5, 2) := by decide +kernel
theorem dX12_find_81 : decode cX12_find 81 = .ok (.laload, 1) := by decide +kernel
theorem dX12_find_82 : decode cX12_find 82 = .ok (.aload_n 0, 1) := by decide +kernel
theorem dX12_find_83 : decode cX12_find 83 = .ok (.getfield 174, 3) := by decide +kernel
theorem dX12_find_86 : decode cX12_find 86 = .ok (.iload_n 3, 1) := by decide +kernel
theorem dX12_find_87 : decode cX12_find 87 = .ok (.laload, 1) := by decide +kernel
theorem dX12_find_88 : decode cX12_find 88 = .ok (.invokestatic 639, 3) := by decide +kernel
theorem dX12_find_91 : decode cX12_find 91 = .ok (.ifCond .ne 26, 3) := by decide +kernel
theorem dX12_find_94 : decode cX12_find 94 = .ok (.aload_n 0, 1) := by decide +kernel
theorem dX12_find_95 : decode cX12_find 95 = .ok (.getfield 174, 3) := by decide +kernel
theorem dX12_find_98 : decode cX12_find 98 = .ok (.iload 5, 2) := by decide +kernel
theorem dX12_find_100 : decode cX12_find 100 = .ok (.laload, 1) := by decide +kernel
theorem dX12_find_101 : decode cX12_find 101 = .ok (.aload_n 0, 1) := by decide +kernel
theorem dX12_find_102 : decode cX12_find 102 = .ok (.getfield 174, 3) := by decide +kernel
theorem dX12_find_105 : decode cX12_find 105 = .ok (.iload_n 3, 1) := by decide +kernel
theorem dX12_find_106 : decode cX12_find 106 = .ok (.laload, 1) := by decide +kernel
theorem dX12_find_107 : decode cX12_find 107 = .ok (.lcmp, 1) := by decide +kernel
theorem dX12_find_108 : decode cX12_find 108 = .ok (.ifCond .ne 13, 3) := by decide +kernel
theorem dX12_find_111 : decode cX12_find 111 = .ok (.iload 5, 2) := by decide +kernel
theorem dX12_find_113 : decode cX12_find 113 = .ok (.iload_n 3, 1) := by decide +kernel
theorem dX12_find_114 : decode cX12_find 114 = .ok (.if_icmp .ge 7, 3) := by decide +kernel
theorem dX12_find_117 : decode cX12_find 117 = .ok (.iconst 1, 1) := by decide +kernel
theorem dX12_find_118 : decode cX12_find 118 = .ok (.goto 4, 3) := by decide +kernel
theorem dX12_find_121 : decode cX12_find 121 = .ok (.iconst 0, 1) := by decide +kernel
theorem dX12_find_122 : decode cX12_find 122 = .ok (.istore 6, 2) := by decide +kernel
theorem dX12_find_124 : decode cX12_find 124 = .ok (.iload 4, 2) := by decide +kernel
theorem dX12_find_126 : decode cX12_find 126 = .ok (.aload_n 0, 1) := by decide +kernel
theorem dX12_find_127 : decode cX12_find 127 = .ok (.iload 5, 2) := by decide +kernel
theorem dX12_find_129 : decode cX12_find 129 = .ok (.invokevirtual 636, 3) := by decide +kernel
theorem dX12_find_132 : decode cX12_find 132 = .ok (.ifCond .eq 22, 3) := by decide +kernel
theorem dX12_find_135 : decode cX12_find 135 = .ok (.aload_n 0, 1) := by decide +kernel
theorem dX12_find_136 : decode cX12_find 136 = .ok (.getfield 180, 3) := by decide +kernel
theorem dX12_find_139 : decode cX12_find 139 = .ok (.iload 5, 2) := by decide +kernel
theorem dX12_find_141 : decode cX12_find 141 = .ok (.baload, 1) := by decide +kernel
theorem dX12_find_142 : decode cX12_find 142 = .ok (.ifCond .ne 12, 3) := by decide +kernel
theorem dX12_find_145 : decode cX12_find 145 = .ok (.iload 6, 2) := by decide +kernel
theorem dX12_find_147 : decode cX12_find 147 = .ok (.ifCond .eq 7, 3) := by decide +kernel
theorem dX12_find_150 : decode cX12_find 150 = .ok (.iconst 1, 1) := by decide +kernel
theorem dX12_find_151 : decode cX12_find 151 = .ok (.goto 4, 3) := by decide +kernel
theorem dX12_find_154 : decode cX12_find 154 = .ok (.iconst 0, 1) := by decide +kernel
theorem dX12_find_155 : decode cX12_find 155 = .ok (.iadd, 1) := by decide +kernel
theorem dX12_find_156 : decode cX12_find 156 = .ok (.istore 4, 2) := by decide +kernel
theorem dX12_find_158 : decode cX12_find 158 = .ok (.iinc 5 3, 3) := by decide +kernel
theorem dX12_find_161 : decode cX12_find 161 = .ok (.goto (-93), 3) := by decide +kernel
theorem dX12_find_164 : decode cX12_find 164 = .ok (.aload_n 0, 1) := by decide +kernel
theorem dX12_find_165 : decode cX12_find 165 = .ok (.iload_n 3, 1) := by decide +kernel
theorem dX12_find_166 : decode cX12_find 166 = .ok (.invokevirtual 636, 3) := by decide +kernel
theorem dX12_find_169 : decode cX12_find 169 = .ok (.ifCond .eq 34, 3) := by decide +kernel
theorem dX12_find_172 : decode cX12_find 172 = .ok (.aload_n 0, 1) := by decide +kernel
theorem dX12_find_173 : decode cX12_find 173 = .ok (.getfield 180, 3) := by decide +kernel
theorem dX12_find_176 : decode cX12_find 176 = .ok (.iload_n 3, 1) := by decide +kernel
theorem dX12_find_177 : decode cX12_find 177 = .ok (.baload, 1) := by decide +kernel
theorem dX12_find_178 : decode cX12_find 178 = .ok (.ifCond .ne 25, 3) := by decide +kernel
theorem dX12_find_181 : decode cX12_find 181 = .ok (.iload 4, 2) := by decide +kernel
theorem dX12_find_183 : decode cX12_find 183 = .ok (.iload_n 2, 1) := by decide +kernel
theorem dX12_find_184 : decode cX12_find 184 = .ok (.iconst 1, 1) := by decide +kernel
theorem dX12_find_185 : decode cX12_find 185 = .ok (.isub, 1) := by decide +kernel
theorem dX12_find_186 : decode cX12_find 186 = .ok (.iconst 2, 1) := by decide +kernel
theorem dX12_find_187 : decode cX12_find 187 = .ok (.idiv, 1) := by decide +kernel
theorem dX12_find_188 : decode cX12_find 188 = .ok (.if_icmp .ne 15, 3) := by decide +kernel
theorem dX12_find_191 : decode cX12_find 191 = .ok (.aload_n 0, 1) := by decide +kernel
theorem dX12_find_192 : decode cX12_find 192 = .ok (.getfield 204, 3) := by decide +kernel
theorem dX12_find_195 : decode cX12_find 195 = .ok (.iload_n 1, 1) := by decide +kernel
theorem dX12_find_196 : decode cX12_find 196 = .ok (.aload_n 0, 1) := by decide +kernel
theorem dX12_find_197 : decode cX12_find 197 = .ok (.getfield 174, 3) := by decide +kernel
theorem dX12_find_200 : decode cX12_find 200 = .ok (.iload_n 3, 1) := by decide +kernel
theorem dX12_find_201 : decode cX12_find 201 = .ok (.laload, 1) := by decide +kernel
theorem dX12_find_202 : decode cX12_find 202 = .ok (.lastore, 1) := by decide +kernel
theorem dX12_find_203 : decode cX12_find 203 = .ok (.iinc 3 3, 3) := by decide +kernel
theorem dX12_find_206 : decode cX12_find 206 = .ok (.goto (-154), 3) := by decide +kernel
theorem dX12_find_209 : decode cX12_find 209 = .ok (.return_, 1) := by decide +kernel
theorem dX12_isOff_0 : decode cX12_isOff 0 = .ok (.aload_n 0, 1) := by decide +kernel
theorem dX12_isOff_1 : decode cX12_isOff 1 = .ok (.getfield 174, 3) := by decide +kernel
theorem dX12_isOff_4 : decode cX12_isOff 4 = .ok (.iload_n 1, 1) := by decide +kernel
theorem dX12_isOff_5 : decode cX12_isOff 5 = .ok (.laload, 1) := by decide +kernel
theorem dX12_isOff_6 : decode cX12_isOff 6 = .ok (.invokestatic 630, 3) := by decide +kernel
theorem dX12_isOff_9 : decode cX12_isOff 9 = .ok (.dstore_n 3, 1) := by decide +kernel
theorem dX12_isOff_10 : decode cX12_isOff 10 = .ok (.aload_n 0, 1) := by decide +kernel
theorem dX12_isOff_11 : decode cX12_isOff 11 = .ok (.getfield 204, 3) := by decide +kernel
theorem dX12_isOff_14 : decode cX12_isOff 14 = .ok (.iload_n 2, 1) := by decide +kernel
theorem dX12_isOff_15 : decode cX12_isOff 15 = .ok (.laload, 1) := by decide +kernel
theorem dX12_isOff_16 : decode cX12_isOff 16 = .ok (.invokestatic 630, 3) := by decide +kernel
theorem dX12_isOff_19 : decode cX12_isOff 19 = .ok (.dstore 5, 2) := by decide +kernel
theorem dX12_isOff_21 : decode cX12_isOff 21 = .ok (.aload_n 0, 1) := by decide +kernel
theorem dX12_isOff_22 : decode cX12_isOff 22 = .ok (.getfield 174, 3) := by decide +kernel
theorem dX12_isOff_25 : decode cX12_isOff 25 = .ok (.iload_n 1, 1) := by decide +kernel
theorem dX12_isOff_26 : decode cX12_isOff 26 = .ok (.laload, 1) := by decide +kernel
theorem dX12_isOff_27 : decode cX12_isOff 27 = .ok (.aload_n 0, 1) := by decide +kernel
theorem dX12_isOff_28 : decode cX12_isOff 28 = .ok (.getfield 204, 3) := by decide +kernel
theorem dX12_isOff_31 : decode cX12_isOff 31 = .ok (.iload_n 2, 1) := by decide +kernel
theorem dX12_isOff_32 : decode cX12_isOff 32 = .ok (.laload, 1) := by decide +kernel
theorem dX12_isOff_33 : decode cX12_isOff 33 = .ok (.lcmp, 1) := by decide +kernel
theorem dX12_isOff_34 : decode cX12_isOff 34 = .ok (.ifCond .ne 5, 3) := by decide +kernel
theorem dX12_isOff_37 : decode cX12_isOff 37 = .ok (.iconst 0, 1) := by decide +kernel
theorem dX12_isOff_38 : decode cX12_isOff 38 = .ok (.ireturn, 1) := by decide +kernel
theorem dX12_isOff_39 : decode cX12_isOff 39 = .ok (.dload_n 3, 1) := by decide +kernel
theorem dX12_isOff_40 : decode cX12_isOff 40 = .ok (.dload 5, 2) := by decide +kernel
theorem dX12_isOff_42 : decode cX12_isOff 42 = .ok (.dcmp .l, 1) := by decide +kernel
theorem dX12_isOff_43 : decode cX12_isOff 43 = .ok (.ifCond .le 10, 3) := by decide +kernel
theorem dX12_isOff_46 : decode cX12_isOff 46 = .ok (.dload_n 3, 1) := by decide +kernel
theorem dX12_isOff_47 : decode cX12_isOff 47 = .ok (.dload 5, 2) := by decide +kernel
theorem dX12_isOff_49 : decode cX12_isOff 49 = .ok (.dsub, 1) := by decide +kernel
theorem dX12_isOff_50 : decode cX12_isOff 50 = .ok (.goto 7, 3) := by decide +kernel
theorem dX12_isOff_53 : decode cX12_isOff 53 = .ok (.dload 5, 2) := by decide +kernel
theorem dX12_isOff_55 : decode cX12_isOff 55 = .ok (.dload_n 3, 1) := by decide +kernel
theorem dX12_isOff_56 : decode cX12_isOff 56 = .ok (.dsub, 1) := by decide +kernel
theorem dX12_isOff_57 : decode cX12_isOff 57 = .ok (.dstore 7, 2) := by decide +kernel
theorem dX12_isOff_59 : decode cX12_isOff 59 = .ok (.dload 7, 2) := by decide +kernel
theorem dX12_isOff_61 : decode cX12_isOff 61 = .ok (.aload_n 0, 1) := by decide +kernel
theorem dX12_isOff_62 : decode cX12_isOff 62 = .ok (.getfield 200, 3) := by decide +kernel
theorem dX12_isOff_65 : decode cX12_isOff 65 = .ok (.dcmp .l, 1) := by decide +kernel
theorem dX12_isOff_66 : decode cX12_isOff 66 = .ok (.ifCond .le 7, 3) := by decide +kernel
theorem dX12_isOff_69 : decode cX12_isOff 69 = .ok (.iconst 1, 1) := by decide +kernel
theorem dX12_isOff_70 : decode cX12_isOff 70 = .ok (.goto 4, 3) := by decide +kernel
theorem dX12_isOff_73 : decode cX12_isOff 73 = .ok (.iconst 0, 1) := by decide +kernel
theorem dX12_isOff_74 : decode cX12_isOff 74 = .ok (.ireturn, 1) := by decide +kernel
theorem dX12_countIn_0 : decode cX12_countIn 0 = .ok (.iconst 0, 1) := by decide +kernel
theorem dX12_countIn_1 : decode cX12_countIn 1 = .ok (.istore_n 2, 1) := by decide +kernel
theorem dX12_countIn_2 : decode cX12_countIn 2 = .ok (.iload_n 1, 1) := by decide +kernel
theorem dX12_countIn_3 : decode cX12_countIn 3 = .ok (.istore_n 3, 1) := by decide +kernel
theorem dX12_countIn_4 : decode cX12_countIn 4 = .ok (.iload_n 3, 1) := by decide +kernel
theorem dX12_countIn_5 : decode cX12_countIn 5 = .ok (.bipush 9, 2) := by decide +kernel
theorem dX12_countIn_7 : decode cX12_countIn 7 = .ok (.if_icmp .ge 95, 3) := by decide +kernel
theorem dX12_countIn_10 : decode cX12_countIn 10 = .ok (.iload_n 2, 1) := by decide +kernel
theorem dX12_countIn_11 : decode cX12_countIn 11 = .ok (.aload_n 0, 1) := by decide +kernel
theorem dX12_countIn_12 : decode cX12_countIn 12 = .ok (.iload_n 3, 1) := by decide +kernel
theorem dX12_countIn_13 : decode cX12_countIn 13 = .ok (.invokevirtual 636, 3) := by decide +kernel
theorem dX12_countIn_16 : decode cX12_countIn 16 = .ok (.ifCond .eq 7, 3) := by decide +kernel
theorem dX12_countIn_19 : decode cX12_countIn 19 = .ok (.iconst 1, 1) := by decide +kernel
theorem dX12_countIn_20 : decode cX12_countIn 20 = .ok (.goto 4, 3) := by decide +kernel
theorem dX12_countIn_23 : decode cX12_countIn 23 = .ok (.iconst 0, 1) := by decide +kernel
theorem dX12_countIn_24 : decode cX12_countIn 24 = .ok (.iadd, 1) := by decide +kernel
theorem dX12_countIn_25 : decode cX12_countIn 25 = .ok (.istore_n 2, 1) := by decide +kernel
theorem dX12_countIn_26 : decode cX12_countIn 26 = .ok (.aload_n 0, 1) := by decide +kernel
theorem dX12_countIn_27 : decode cX12_countIn 27 = .ok (.getfield 195, 3) := by decide +kernel
theorem dX12_countIn_30 : decode cX12_countIn 30 = .ok (.iload_n 3, 1) := by decide +kernel
theorem dX12_countIn_31 : decode cX12_countIn 31 = .ok (.aload_n 0, 1) := by decide +kernel
theorem dX12_countIn_32 : decode cX12_countIn 32 = .ok (.getfield 643, 3) := by decide +kernel
theorem dX12_countIn_35 : decode cX12_countIn 35 = .ok (.iconst 1, 1) := by decide +kernel
theorem dX12_countIn_36 : decode cX12_countIn 36 = .ok (.if_icmp .le 23, 3) := by decide +kernel
theorem dX12_countIn_39 : decode cX12_countIn 39 = .ok (.aload_n 0, 1) := by decide +kernel
theorem dX12_countIn_40 : decode cX12_countIn 40 = .ok (.getfield 174, 3) := by decide +kernel
theorem dX12_countIn_43 : decode cX12_countIn 43 = .ok (.iload_n 3, 1) := by decide +kernel
theorem dX12_countIn_44 : decode cX12_countIn 44 = .ok (.laload, 1) := by decide +kernel
theorem dX12_countIn_45 : decode cX12_countIn 45 = .ok (.aload_n 0, 1) := by decide +kernel
theorem dX12_countIn_46 : decode cX12_countIn 46 = .ok (.getfield 177, 3) := by decide +kernel
theorem dX12_countIn_49 : decode cX12_countIn 49 = .ok (.iload_n 3, 1) := by decide +kernel
theorem dX12_countIn_50 : decode cX12_countIn 50 = .ok (.laload, 1) := by decide +kernel
theorem dX12_countIn_51 : decode cX12_countIn 51 = .ok (.lcmp, 1) := by decide +kernel
theorem dX12_countIn_52 : decode cX12_countIn 52 = .ok (.ifCond .eq 7, 3) := by decide +kernel
theorem dX12_countIn_55 : decode cX12_countIn 55 = .ok (.iconst 1, 1) := by decide +kernel
theorem dX12_countIn_56 : decode cX12_countIn 56 = .ok (.goto 4, 3) := by decide +kernel
theorem dX12_countIn_59 : decode cX12_countIn 59 = .ok (.iconst 0, 1) := by decide +kernel
theorem dX12_countIn_60 : decode cX12_countIn 60 = .ok (.bastore, 1) := by decide +kernel
theorem dX12_countIn_61 : decode cX12_countIn 61 = .ok (.aload_n 0, 1) := by decide +kernel
theorem dX12_countIn_62 : decode cX12_countIn 62 = .ok (.getfield 192, 3) := by decide +kernel
theorem dX12_countIn_65 : decode cX12_countIn 65 = .ok (.iload_n 3, 1) := by decide +kernel
theorem dX12_countIn_66 : decode cX12_countIn 66 = .ok (.aload_n 0, 1) := by decide +kernel
theorem dX12_countIn_67 : decode cX12_countIn 67 = .ok (.getfield 643, 3) := by decide +kernel
theorem dX12_countIn_70 : decode cX12_countIn 70 = .ok (.iconst 1, 1) := by decide +kernel
theorem dX12_countIn_71 : decode cX12_countIn 71 = .ok (.if_icmp .le 23, 3) := by decide +kernel
theorem dX12_countIn_74 : decode cX12_countIn 74 = .ok (.aload_n 0, 1) := by decide +kernel
theorem dX12_countIn_75 : decode cX12_countIn 75 = .ok (.getfield 195, 3) := by decide +kernel
theorem dX12_countIn_78 : decode cX12_countIn 78 = .ok (.iload_n 3, 1) := by decide +kernel
theorem dX12_countIn_79 : decode cX12_countIn 79 = .ok (.baload, 1) := by decide +kernel
theorem dX12_countIn_80 : decode cX12_countIn 80 = .ok (.ifCond .ne 14, 3) := by decide +kernel
theorem dX12_countIn_83 : decode cX12_countIn 83 = .ok (.aload_n 0, 1) := by decide +kernel
theorem dX12_countIn_84 : decode cX12_countIn 84 = .ok (.getfield 192, 3) := by decide +kernel
theorem dX12_countIn_87 : decode cX12_countIn 87 = .ok (.iload_n 3, 1) := by decide +kernel
theorem dX12_countIn_88 : decode cX12_countIn 88 = .ok (.iaload, 1) := by decide +kernel
theorem dX12_countIn_89 : decode cX12_countIn 89 = .ok (.iconst 1, 1) := by decide +kernel
theorem dX12_countIn_90 : decode cX12_countIn 90 = .ok (.iadd, 1) := by decide +kernel
theorem dX12_countIn_91 : decode cX12_countIn 91 = .ok (.goto 4, 3) := by decide +kernel
theorem dX12_countIn_94 : decode cX12_countIn 94 = .ok (.iconst 1, 1) := by decide +kernel
theorem dX12_countIn_95 : decode cX12_countIn 95 = .ok (.iastore, 1) := by decide +kernel
theorem dX12_countIn_96 : decode cX12_countIn 96 = .ok (.iinc 3 3, 3) := by decide +kernel
theorem dX12_countIn_99 : decode cX12_countIn 99 = .ok (.goto (-95), 3) := by decide +kernel
theorem dX12_countIn_102 : decode cX12_countIn 102 = .ok (.iload_n 1, 1) := by decide +kernel
theorem dX12_countIn_103 : decode cX12_countIn 103 = .ok (.istore_n 3, 1) := by decide +kernel
theorem dX12_countIn_104 : decode cX12_countIn 104 = .ok (.iload_n 3, 1) := by decide +kernel
theorem dX12_countIn_105 : decode cX12_countIn 105 = .ok (.bipush 9, 2) := by decide +kernel
theorem dX12_countIn_107 : decode cX12_countIn 107 = .ok (.if_icmp .ge 114, 3) := by decide +kernel
theorem dX12_countIn_110 : decode cX12_countIn 110 = .ok (.aload_n 0, 1) := by decide +kernel
theorem dX12_countIn_111 : decode cX12_countIn 111 = .ok (.iload_n 3, 1) := by decide +kernel
theorem dX12_countIn_112 : decode cX12_countIn 112 = .ok (.invokevirtual 636, 3) := by decide +kernel
theorem dX12_countIn_115 : decode cX12_countIn 115 = .ok (.ifCond .eq 25, 3) := by decide +kernel
theorem dX12_countIn_118 : decode cX12_countIn 118 = .ok (.iload_n 2, 1) := by decide +kernel
theorem dX12_countIn_119 : decode cX12_countIn 119 = .ok (.iconst 3, 1) := by decide +kernel
theorem dX12_countIn_120 : decode cX12_countIn 120 = .ok (.if_icmp .ne 20, 3) := by decide +kernel
theorem dX12_countIn_123 : decode cX12_countIn 123 = .ok (.aload_n 0, 1) := by decide +kernel
theorem dX12_countIn_124 : decode cX12_countIn 124 = .ok (.getfield 204, 3) := by decide +kernel
theorem dX12_countIn_127 : decode cX12_countIn 127 = .ok (.iload_n 1, 1) := by decide +kernel
theorem dX12_countIn_128 : decode cX12_countIn 128 = .ok (.laload, 1) := by decide +kernel
theorem dX12_countIn_129 : decode cX12_countIn 129 = .ok (.ldc2_w 172, 3) := by decide +kernel
theorem dX12_countIn_132 : decode cX12_countIn 132 = .ok (.lcmp, 1) := by decide +kernel
theorem dX12_countIn_133 : decode cX12_countIn 133 = .ok (.ifCond .eq 7, 3) := by decide +kernel
theorem dX12_countIn_136 : decode cX12_countIn 136 = .ok (.iconst 1, 1) := by decide +kernel
theorem dX12_countIn_137 : decode cX12_countIn 137 = .ok (.goto 4, 3) := by decide +kernel
theorem dX12_countIn_140 : decode cX12_countIn 140 = .ok (.iconst 0, 1) := by decide +kernel
theorem dX12_countIn_141 : decode cX12_countIn 141 = .ok (.istore 4, 2) := by decide +kernel
theorem dX12_countIn_143 : decode cX12_countIn 143 = .ok (.iload 4, 2) := by decide +kernel
theorem dX12_countIn_145 : decode cX12_countIn 145 = .ok (.ifCond .eq 16, 3) := by decide +kernel
theorem dX12_countIn_148 : decode cX12_countIn 148 = .ok (.aload_n 0, 1) := by decide +kernel
theorem dX12_countIn_149 : decode cX12_countIn 149 = .ok (.iload_n 3, 1) := by decide +kernel
theorem dX12_countIn_150 : decode cX12_countIn 150 = .ok (.iload_n 1, 1) := by decide +kernel
theorem dX12_countIn_151 : decode cX12_countIn 151 = .ok (.invokevirtual 646, 3) := by decide +kernel
theorem dX12_countIn_154 : decode cX12_countIn 154 = .ok (.ifCond .eq 7, 3) := by decide +kernel
theorem dX12_countIn_157 : decode cX12_countIn 157 = .ok (.iconst 1, 1) := by decide +kernel
theorem dX12_countIn_158 : decode cX12_countIn 158 = .ok (.goto 4, 3) := by decide +kernel
theorem dX12_countIn_161 : decode cX12_countIn 161 = .ok (.iconst 0, 1) := by decide +kernel
theorem dX12_countIn_162 : decode cX12_countIn 162 = .ok (.istore 5, 2) := by decide +kernel
theorem dX12_countIn_164 : decode cX12_countIn 164 = .ok (.aload_n 0, 1) := by decide +kernel
theorem dX12_countIn_165 : decode cX12_countIn 165 = .ok (.getfield 186, 3) := by decide +kernel
theorem dX12_countIn_168 : decode cX12_countIn 168 = .ok (.iload_n 3, 1) := by decide +kernel
theorem dX12_countIn_169 : decode cX12_countIn 169 = .ok (.iload 5, 2) := by decide +kernel
theorem dX12_countIn_171 : decode cX12_countIn 171 = .ok (.ifCond .eq 14, 3) := by decide +kernel
theorem dX12_countIn_174 : decode cX12_countIn 174 = .ok (.aload_n 0, 1) := by decide +kernel
theorem dX12_countIn_175 : decode cX12_countIn 175 = .ok (.getfield 186, 3) := by decide +kernel
theorem dX12_countIn_178 : decode cX12_countIn 178 = .ok (.iload_n 3, 1) := by decide +kernel
theorem dX12_countIn_179 : decode cX12_countIn 179 = .ok (.iaload, 1) := by decide +kernel
theorem dX12_countIn_180 : decode cX12_countIn 180 = .ok (.iconst 1, 1) := by decide +kernel
theorem dX12_countIn_181 : decode cX12_countIn 181 = .ok (.iadd, 1) := by decide +kernel
theorem dX12_countIn_182 : decode cX12_countIn 182 = .ok (.goto 4, 3) := by decide +kernel
theorem dX12_countIn_185 : decode cX12_countIn 185 = .ok (.iconst 0, 1) := by decide +kernel
theorem dX12_countIn_186 : decode cX12_countIn 186 = .ok (.iastore, 1) := by decide +kernel
theorem dX12_countIn_187 : decode cX12_countIn 187 = .ok (.aload_n 0, 1) := by decide +kernel
theorem dX12_countIn_188 : decode cX12_countIn 188 = .ok (.getfield 189, 3) := by decide +kernel
theorem dX12_countIn_191 : decode cX12_countIn 191 = .ok (.iload_n 3, 1) := by decide +kernel
theorem dX12_countIn_192 : decode cX12_countIn 192 = .ok (.iload 4, 2) := by decide +kernel
theorem dX12_countIn_194 : decode cX12_countIn 194 = .ok (.ifCond .eq 19, 3) := by decide +kernel
theorem dX12_countIn_197 : decode cX12_countIn 197 = .ok (.iload 5, 2) := by decide +kernel
theorem dX12_countIn_199 : decode cX12_countIn 199 = .ok (.ifCond .ne 14, 3) := by decide +kernel
theorem dX12_countIn_202 : decode cX12_countIn 202 = .ok (.aload_n 0, 1) := by decide +kernel
theorem dX12_countIn_203 : decode cX12_countIn 203 = .ok (.getfield 189, 3) := by decide +kernel
theorem dX12_countIn_206 : decode cX12_countIn 206 = .ok (.iload_n 3, 1) := by decide +kernel
theorem dX12_countIn_207 : decode cX12_countIn 207 = .ok (.iaload, 1) := by decide +kernel
theorem dX12_countIn_208 : decode cX12_countIn 208 = .ok (.iconst 1, 1) := by decide +kernel
theorem dX12_countIn_209 : decode cX12_countIn 209 = .ok (.iadd, 1) := by decide +kernel
theorem dX12_countIn_210 : decode cX12_countIn 210 = .ok (.goto 4, 3) := by decide +kernel
theorem dX12_countIn_213 : decode cX12_countIn 213 = .ok (.iconst 0, 1) := by decide +kernel
theorem dX12_countIn_214 : decode cX12_countIn 214 = .ok (.iastore, 1) := by decide +kernel
theorem dX12_countIn_215 : decode cX12_countIn 215 = .ok (.iinc 3 3, 3) := by decide +kernel
theorem dX12_countIn_218 : decode cX12_countIn 218 = .ok (.goto (-114), 3) := by decide +kernel
theorem dX12_countIn_221 : decode cX12_countIn 221 = .ok (.return_, 1) := by decide +kernel
theorem dX12_vote_0 : decode cX12_vote 0 = .ok (.aload_n 0, 1) := by decide +kernel
theorem dX12_vote_1 : decode cX12_vote 1 = .ok (.iload_n 1, 1) := by decide +kernel
theorem dX12_vote_2 : decode cX12_vote 2 = .ok (.invokevirtual 649, 3) := by decide +kernel
theorem dX12_vote_5 : decode cX12_vote 5 = .ok (.aload_n 0, 1) := by decide +kernel
theorem dX12_vote_6 : decode cX12_vote 6 = .ok (.iload_n 1, 1) := by decide +kernel
theorem dX12_vote_7 : decode cX12_vote 7 = .ok (.invokevirtual 652, 3) := by decide +kernel
theorem dX12_vote_10 : decode cX12_vote 10 = .ok (.iload_n 1, 1) := by decide +kernel
theorem dX12_vote_11 : decode cX12_vote 11 = .ok (.istore_n 2, 1) := by decide +kernel
theorem dX12_vote_12 : decode cX12_vote 12 = .ok (.iload_n 2, 1) := by decide +kernel
theorem dX12_vote_13 : decode cX12_vote 13 = .ok (.bipush 9, 2) := by decide +kernel
theorem dX12_vote_15 : decode cX12_vote 15 = .ok (.if_icmp .ge 202, 3) := by decide +kernel
theorem dX12_vote_18 : decode cX12_vote 18 = .ok (.iconst 0, 1) := by decide +kernel
theorem dX12_vote_19 : decode cX12_vote 19 = .ok (.istore_n 3, 1) := by decide +kernel
theorem dX12_vote_20 : decode cX12_vote 20 = .ok (.iload_n 1, 1) := by decide +kernel
theorem dX12_vote_21 : decode cX12_vote 21 = .ok (.istore 4, 2) := by decide +kernel
theorem dX12_vote_23 : decode cX12_vote 23 = .ok (.iload 4, 2) := by decide +kernel
theorem dX12_vote_25 : decode cX12_vote 25 = .ok (.bipush 9, 2) := by decide +kernel
theorem dX12_vote_27 : decode cX12_vote 27 = .ok (.if_icmp .ge 35, 3) := by decide +kernel
theorem dX12_vote_30 : decode cX12_vote 30 = .ok (.iload_n 3, 1) := by decide +kernel
theorem dX12_vote_31 : decode cX12_vote 31 = .ok (.ifCond .ne 19, 3) := by decide +kernel
theorem dX12_vote_34 : decode cX12_vote 34 = .ok (.iload 4, 2) := by decide +kernel
theorem dX12_vote_36 : decode cX12_vote 36 = .ok (.iload_n 2, 1) := by decide +kernel
theorem dX12_vote_37 : decode cX12_vote 37 = .ok (.if_icmp .eq 17, 3) := by decide +kernel
theorem dX12_vote_40 : decode cX12_vote 40 = .ok (.aload_n 0, 1) := by decide +kernel
theorem dX12_vote_41 : decode cX12_vote 41 = .ok (.getfield 195, 3) := by decide +kernel
theorem dX12_vote_44 : decode cX12_vote 44 = .ok (.iload 4, 2) := by decide +kernel
theorem dX12_vote_46 : decode cX12_vote 46 = .ok (.baload, 1) := by decide +kernel
theorem dX12_vote_47 : decode cX12_vote 47 = .ok (.ifCond .eq 7, 3) := by decide +kernel
theorem dX12_vote_50 : decode cX12_vote 50 = .ok (.iconst 1, 1) := by decide +kernel
theorem dX12_vote_51 : decode cX12_vote 51 = .ok (.goto 4, 3) := by decide +kernel
theorem dX12_vote_54 : decode cX12_vote 54 = .ok (.iconst 0, 1) := by decide +kernel
theorem dX12_vote_55 : decode cX12_vote 55 = .ok (.istore_n 3, 1) := by decide +kernel
theorem dX12_vote_56 : decode cX12_vote 56 = .ok (.iinc 4 3, 3) := by decide +kernel
theorem dX12_vote_59 : decode cX12_vote 59 = .ok (.goto (-36), 3) := by decide +kernel
theorem dX12_vote_62 : decode cX12_vote 62 = .ok (.aload_n 0, 1) := by decide +kernel
theorem dX12_vote_63 : decode cX12_vote 63 = .ok (.iload_n 2, 1) := by decide +kernel
theorem dX12_vote_64 : decode cX12_vote 64 = .ok (.invokevirtual 636, 3) := by decide +kernel
theorem dX12_vote_67 : decode cX12_vote 67 = .ok (.ifCond .eq 22, 3) := by decide +kernel
theorem dX12_vote_70 : decode cX12_vote 70 = .ok (.aload_n 0, 1) := by decide +kernel
theorem dX12_vote_71 : decode cX12_vote 71 = .ok (.getfield 192, 3) := by decide +kernel
theorem dX12_vote_74 : decode cX12_vote 74 = .ok (.iload_n 2, 1) := by decide +kernel
theorem dX12_vote_75 : decode cX12_vote 75 = .ok (.iaload, 1) := by decide +kernel
theorem dX12_vote_76 : decode cX12_vote 76 = .ok (.bipush 8, 2) := by decide +kernel
theorem dX12_vote_78 : decode cX12_vote 78 = .ok (.if_icmp .lt 11, 3) := by decide +kernel
theorem dX12_vote_81 : decode cX12_vote 81 = .ok (.iload_n 3, 1) := by decide +kernel
theorem dX12_vote_82 : decode cX12_vote 82 = .ok (.ifCond .eq 7, 3) := by decide +kernel
theorem dX12_vote_85 : decode cX12_vote 85 = .ok (.iconst 1, 1) := by decide +kernel
theorem dX12_vote_86 : decode cX12_vote 86 = .ok (.goto 4, 3) := by decide +kernel
theorem dX12_vote_89 : decode cX12_vote 89 = .ok (.iconst 0, 1) := by decide +kernel
theorem dX12_vote_90 : decode cX12_vote 90 = .ok (.istore 4, 2) := by decide +kernel
theorem dX12_vote_92 : decode cX12_vote 92 = .ok (.iload 4, 2) := by decide +kernel
theorem dX12_vote_94 : decode cX12_vote 94 = .ok (.ifCond .ne 22, 3) := by decide +kernel
theorem dX12_vote_97 : decode cX12_vote 97 = .ok (.aload_n 0, 1) := by decide +kernel
theorem dX12_vote_98 : decode cX12_vote 98 = .ok (.getfield 180, 3) := by decide +kernel
theorem dX12_vote_101 : decode cX12_vote 101 = .ok (.iload_n 2, 1) := by decide +kernel
theorem dX12_vote_102 : decode cX12_vote 102 = .ok (.baload, 1) := by decide +kernel
theorem dX12_vote_103 : decode cX12_vote 103 = .ok (.ifCond .ne 17, 3) := by decide +kernel
theorem dX12_vote_106 : decode cX12_vote 106 = .ok (.aload_n 0, 1) := by decide +kernel
theorem dX12_vote_107 : decode cX12_vote 107 = .ok (.getfield 186, 3) := by decide +kernel
theorem dX12_vote_110 : decode cX12_vote 110 = .ok (.iload_n 2, 1) := by decide +kernel
theorem dX12_vote_111 : decode cX12_vote 111 = .ok (.iaload, 1) := by decide +kernel
theorem dX12_vote_112 : decode cX12_vote 112 = .ok (.iconst 3, 1) := by decide +kernel
theorem dX12_vote_113 : decode cX12_vote 113 = .ok (.if_icmp .lt 7, 3) := by decide +kernel
theorem dX12_vote_116 : decode cX12_vote 116 = .ok (.iconst 1, 1) := by decide +kernel
theorem dX12_vote_117 : decode cX12_vote 117 = .ok (.goto 4, 3) := by decide +kernel
theorem dX12_vote_120 : decode cX12_vote 120 = .ok (.iconst 0, 1) := by decide +kernel
theorem dX12_vote_121 : decode cX12_vote 121 = .ok (.istore 5, 2) := by decide +kernel
theorem dX12_vote_123 : decode cX12_vote 123 = .ok (.iload 5, 2) := by decide +kernel
theorem dX12_vote_125 : decode cX12_vote 125 = .ok (.ifCond .ne 26, 3) := by decide +kernel
theorem dX12_vote_128 : decode cX12_vote 128 = .ok (.aload_n 0, 1) := by decide +kernel
theorem dX12_vote_129 : decode cX12_vote 129 = .ok (.getfield 180, 3) := by decide +kernel
theorem dX12_vote_132 : decode cX12_vote 132 = .ok (.iload_n 2, 1) := by decide +kernel
theorem dX12_vote_133 : decode cX12_vote 133 = .ok (.baload, 1) := by decide +kernel
theorem dX12_vote_134 : decode cX12_vote 134 = .ok (.ifCond .eq 17, 3) := by decide +kernel
theorem dX12_vote_137 : decode cX12_vote 137 = .ok (.aload_n 0, 1) := by decide +kernel
theorem dX12_vote_138 : decode cX12_vote 138 = .ok (.getfield 189, 3) := by decide +kernel
theorem dX12_vote_141 : decode cX12_vote 141 = .ok (.iload_n 2, 1) := by decide +kernel
theorem dX12_vote_142 : decode cX12_vote 142 = .ok (.iaload, 1) := by decide +kernel
theorem dX12_vote_143 : decode cX12_vote 143 = .ok (.iconst 5, 1) := by decide +kernel
theorem dX12_vote_144 : decode cX12_vote 144 = .ok (.if_icmp .lt 7, 3) := by decide +kernel
theorem dX12_vote_147 : decode cX12_vote 147 = .ok (.iconst 1, 1) := by decide +kernel
theorem dX12_vote_148 : decode cX12_vote 148 = .ok (.goto 4, 3) := by decide +kernel
theorem dX12_vote_151 : decode cX12_vote 151 = .ok (.iconst 0, 1) := by decide +kernel
theorem dX12_vote_152 : decode cX12_vote 152 = .ok (.istore 6, 2) := by decide +kernel
theorem dX12_vote_154 : decode cX12_vote 154 = .ok (.iload 5, 2) := by decide +kernel
theorem dX12_vote_156 : decode cX12_vote 156 = .ok (.ifCond .ne 8, 3) := by decide +kernel
theorem dX12_vote_159 : decode cX12_vote 159 = .ok (.iload 6, 2) := by decide +kernel
theorem dX12_vote_161 : decode cX12_vote 161 = .ok (.ifCond .eq 50, 3) := by decide +kernel
theorem dX12_vote_164 : decode cX12_vote 164 = .ok (.aload_n 0, 1) := by decide +kernel
theorem dX12_vote_165 : decode cX12_vote 165 = .ok (.getfield 180, 3) := by decide +kernel
theorem dX12_vote_168 : decode cX12_vote 168 = .ok (.iload_n 2, 1) := by decide +kernel
theorem dX12_vote_169 : decode cX12_vote 169 = .ok (.iload 5, 2) := by decide +kernel
theorem dX12_vote_171 : decode cX12_vote 171 = .ok (.bastore, 1) := by decide +kernel
theorem dX12_vote_172 : decode cX12_vote 172 = .ok (.aload_n 0, 1) := by decide +kernel
theorem dX12_vote_173 : decode cX12_vote 173 = .ok (.getfield 183, 3) := by decide +kernel
theorem dX12_vote_176 : decode cX12_vote 176 = .ok (.iload_n 2, 1) := by decide +kernel
theorem dX12_vote_177 : decode cX12_vote 177 = .ok (.iload 4, 2) := by decide +kernel
theorem dX12_vote_179 : decode cX12_vote 179 = .ok (.ifCond .eq 7, 3) := by decide +kernel
theorem dX12_vote_182 : decode cX12_vote 182 = .ok (.iconst 2, 1) := by decide +kernel
theorem dX12_vote_183 : decode cX12_vote 183 = .ok (.goto 13, 3) := by decide +kernel
theorem dX12_vote_186 : decode cX12_vote 186 = .ok (.iload 5, 2) := by decide +kernel
theorem dX12_vote_188 : decode cX12_vote 188 = .ok (.ifCond .eq 7, 3) := by decide +kernel
theorem dX12_vote_191 : decode cX12_vote 191 = .ok (.iconst 1, 1) := by decide +kernel
theorem dX12_vote_192 : decode cX12_vote 192 = .ok (.goto 4, 3) := by decide +kernel
theorem dX12_vote_195 : decode cX12_vote 195 = .ok (.iconst 0, 1) := by decide +kernel
theorem dX12_vote_196 : decode cX12_vote 196 = .ok (.iastore, 1) := by decide +kernel
theorem dX12_vote_197 : decode cX12_vote 197 = .ok (.aload_n 0, 1) := by decide +kernel
theorem dX12_vote_198 : decode cX12_vote 198 = .ok (.getfield 186, 3) := by decide +kernel
theorem dX12_vote_201 : decode cX12_vote 201 = .ok (.iload_n 2, 1) := by decide +kernel
theorem dX12_vote_202 : decode cX12_vote 202 = .ok (.iconst 0, 1) := by decide +kernel
theorem dX12_vote_203 : decode cX12_vote 203 = .ok (.iastore, 1) := by decide +kernel
theorem dX12_vote_204 : decode cX12_vote 204 = .ok (.aload_n 0, 1) := by decide +kernel
theorem dX12_vote_205 : decode cX12_vote 205 = .ok (.getfield 189, 3) := by decide +kernel
theorem dX12_vote_208 : decode cX12_vote 208 = .ok (.iload_n 2, 1) := by decide +kernel
theorem dX12_vote_209 : decode cX12_vote 209 = .ok (.iconst 0, 1) := by decide +kernel
theorem dX12_vote_210 : decode cX12_vote 210 = .ok (.iastore, 1) := by decide +kernel
theorem dX12_vote_211 : decode cX12_vote 211 = .ok (.iinc 2 3, 3) := by decide +kernel
theorem dX12_vote_214 : decode cX12_vote 214 = .ok (.goto (-202), 3) := by decide +kernel
theorem dX12_vote_217 : decode cX12_vote 217 = .ok (.iload_n 1, 1) := by decide +kernel
theorem dX12_vote_218 : decode cX12_vote 218 = .ok (.istore_n 2, 1) := by decide +kernel
theorem dX12_vote_219 : decode cX12_vote 219 = .ok (.iload_n 2, 1) := by decide +kernel
theorem dX12_vote_220 : decode cX12_vote 220 = .ok (.bipush 9, 2) := by decide +kernel
theorem dX12_vote_222 : decode cX12_vote 222 = .ok (.if_icmp .ge 21, 3) := by decide +kernel
theorem dX12_vote_225 : decode cX12_vote 225 = .ok (.aload_n 0, 1) := by decide +kernel
theorem dX12_vote_226 : decode cX12_vote 226 = .ok (.getfield 177, 3) := by decide +kernel
theorem dX12_vote_229 : decode cX12_vote 229 = .ok (.iload_n 2, 1) := by decide +kernel
theorem dX12_vote_230 : decode cX12_vote 230 = .ok (.aload_n 0, 1) := by decide +kernel
theorem dX12_vote_231 : decode cX12_vote 231 = .ok (.getfield 174, 3) := by decide +kernel
theorem dX12_vote_234 : decode cX12_vote 234 = .ok (.iload_n 2, 1) := by decide +kernel
theorem dX12_vote_235 : decode cX12_vote 235 = .ok (.laload, 1) := by decide +kernel
theorem dX12_vote_236 : decode cX12_vote 236 = .ok (.lastore, 1) := by decide +kernel
theorem dX12_vote_237 : decode cX12_vote 237 = .ok (.iinc 2 3, 3) := by decide +kernel
theorem dX12_vote_240 : decode cX12_vote 240 = .ok (.goto (-21), 3) := by decide +kernel
theorem dX12_vote_243 : decode cX12_vote 243 = .ok (.return_, 1) := by decide +kernel
theorem dX12_weather_0 : decode cX12_weather 0 = .ok (.iload_n 1, 1) := by decide +kernel
theorem dX12_weather_1 : decode cX12_weather 1 = .ok (.iconst 0, 1) := by decide +kernel
theorem dX12_weather_2 : decode cX12_weather 2 = .ok (.iconst 4, 1) := by decide +kernel
theorem dX12_weather_3 : decode cX12_weather 3 = .ok (.invokestatic 322, 3) := by decide +kernel
theorem dX12_weather_6 : decode cX12_weather 6 = .ok (.ifCond .ne 7, 3) := by decide +kernel
theorem dX12_weather_9 : decode cX12_weather 9 = .ok (.ldc_w 655, 3) := by decide +kernel
theorem dX12_weather_12 : decode cX12_weather 12 = .ok (.ireturn, 1) := by decide +kernel
theorem dX12_weather_13 : decode cX12_weather 13 = .ok (.iload_n 1, 1) := by decide +kernel
theorem dX12_weather_14 : decode cX12_weather 14 = .ok (.iconst 1, 1) := by decide +kernel
theorem dX12_weather_15 : decode cX12_weather 15 = .ok (.if_icmp .ne 9, 3) := by decide +kernel
theorem dX12_weather_18 : decode cX12_weather 18 = .ok (.ldc_w 656, 3) := by decide +kernel
theorem dX12_weather_21 : decode cX12_weather 21 = .ok (.goto 4, 3) := by decide +kernel
theorem dX12_weather_24 : decode cX12_weather 24 = .ok (.iconst 0, 1) := by decide +kernel
theorem dX12_weather_25 : decode cX12_weather 25 = .ok (.istore_n 3, 1) := by decide +kernel
theorem dX12_weather_26 : decode cX12_weather 26 = .ok (.iload_n 1, 1) := by decide +kernel
theorem dX12_weather_27 : decode cX12_weather 27 = .ok (.ifCond .ne 9, 3) := by decide +kernel
theorem dX12_weather_30 : decode cX12_weather 30 = .ok (.sipush 1000, 3) := by decide +kernel
theorem dX12_weather_33 : decode cX12_weather 33 = .ok (.goto 26, 3) := by decide +kernel
theorem dX12_weather_36 : decode cX12_weather 36 = .ok (.iload_n 1, 1) := by decide +kernel
theorem dX12_weather_37 : decode cX12_weather 37 = .ok (.iconst 1, 1) := by decide +kernel
theorem dX12_weather_38 : decode cX12_weather 38 = .ok (.if_icmp .ne 9, 3) := by decide +kernel
theorem dX12_weather_41 : decode cX12_weather 41 = .ok (.ldc_w 657, 3) := by decide +kernel
theorem dX12_weather_44 : decode cX12_weather 44 = .ok (.goto 15, 3) := by decide +kernel
theorem dX12_weather_47 : decode cX12_weather 47 = .ok (.iload_n 1, 1) := by decide +kernel
theorem dX12_weather_48 : decode cX12_weather 48 = .ok (.iconst 2, 1) := by decide +kernel
theorem dX12_weather_49 : decode cX12_weather 49 = .ok (.if_icmp .ne 9, 3) := by decide +kernel
theorem dX12_weather_52 : decode cX12_weather 52 = .ok (.ldc_w 658, 3) := by decide +kernel
theorem dX12_weather_55 : decode cX12_weather 55 = .ok (.goto 4, 3) := by decide +kernel
theorem dX12_weather_58 : decode cX12_weather 58 = .ok (.iconst 1, 1) := by decide +kernel
theorem dX12_weather_59 : decode cX12_weather 59 = .ok (.istore 4, 2) := by decide +kernel
theorem dX12_weather_61 : decode cX12_weather 61 = .ok (.iload_n 2, 1) := by decide +kernel
theorem dX12_weather_62 : decode cX12_weather 62 = .ok (.iload_n 3, 1) := by decide +kernel
theorem dX12_weather_63 : decode cX12_weather 63 = .ok (.iload 4, 2) := by decide +kernel
theorem dX12_weather_65 : decode cX12_weather 65 = .ok (.invokestatic 322, 3) := by decide +kernel
theorem dX12_weather_68 : decode cX12_weather 68 = .ok (.ifCond .ne 7, 3) := by decide +kernel
theorem dX12_weather_71 : decode cX12_weather 71 = .ok (.ldc_w 655, 3) := by decide +kernel
theorem dX12_weather_74 : decode cX12_weather 74 = .ok (.ireturn, 1) := by decide +kernel
theorem dX12_weather_75 : decode cX12_weather 75 = .ok (.aload_n 0, 1) := by decide +kernel
theorem dX12_weather_76 : decode cX12_weather 76 = .ok (.getfield 207, 3) := by decide +kernel
theorem dX12_weather_79 : decode cX12_weather 79 = .ok (.iload_n 1, 1) := by decide +kernel
theorem dX12_weather_80 : decode cX12_weather 80 = .ok (.iaload, 1) := by decide +kernel
theorem dX12_weather_81 : decode cX12_weather 81 = .ok (.istore 5, 2) := by decide +kernel
theorem dX12_weather_83 : decode cX12_weather 83 = .ok (.aload_n 0, 1) := by decide +kernel
theorem dX12_weather_84 : decode cX12_weather 84 = .ok (.getfield 207, 3) := by decide +kernel
theorem dX12_weather_87 : decode cX12_weather 87 = .ok (.iload_n 1, 1) := by decide +kernel
theorem dX12_weather_88 : decode cX12_weather 88 = .ok (.iload_n 2, 1) := by decide +kernel
theorem dX12_weather_89 : decode cX12_weather 89 = .ok (.iastore, 1) := by decide +kernel
theorem dX12_weather_90 : decode cX12_weather 90 = .ok (.iload 5, 2) := by decide +kernel
theorem dX12_weather_92 : decode cX12_weather 92 = .ok (.ireturn, 1) := by decide +kernel
theorem dX12_mark_0 : decode cX12_mark 0 = .ok (.iload_n 1, 1) := by decide +kernel
theorem dX12_mark_1 : decode cX12_mark 1 = .ok (.iconst 0, 1) := by decide +kernel
theorem dX12_mark_2 : decode cX12_mark 2 = .ok (.iconst 2, 1) := by decide +kernel
theorem dX12_mark_3 : decode cX12_mark 3 = .ok (.invokestatic 322, 3) := by decide +kernel
theorem dX12_mark_6 : decode cX12_mark 6 = .ok (.ifCond .eq 58, 3) := by decide +kernel
theorem dX12_mark_9 : decode cX12_mark 9 = .ok (.iload_n 2, 1) := by decide +kernel
theorem dX12_mark_10 : decode cX12_mark 10 = .ok (.iconst 0, 1) := by decide +kernel
theorem dX12_mark_11 : decode cX12_mark 11 = .ok (.sipush 1439, 3) := by decide +kernel
theorem dX12_mark_14 : decode cX12_mark 14 = .ok (.invokestatic 322, 3) := by decide +kernel
theorem dX12_mark_17 : decode cX12_mark 17 = .ok (.ifCond .eq 47, 3) := by decide +kernel
theorem dX12_mark_20 : decode cX12_mark 20 = .ok (.iload_n 3, 1) := by decide +kernel
theorem dX12_mark_21 : decode cX12_mark 21 = .ok (.ldc_w 659, 3) := by decide +kernel
theorem dX12_mark_24 : decode cX12_mark 24 = .ok (.ldc_w 657, 3) := by decide +kernel
theorem dX12_mark_27 : decode cX12_mark 27 = .ok (.invokestatic 322, 3) := by decide +kernel
theorem dX12_mark_30 : decode cX12_mark 30 = .ok (.ifCond .eq 34, 3) := by decide +kernel
theorem dX12_mark_33 : decode cX12_mark 33 = .ok (.aload_n 0, 1) := by decide +kernel
theorem dX12_mark_34 : decode cX12_mark 34 = .ok (.getfield 232, 3) := by decide +kernel
theorem dX12_mark_37 : decode cX12_mark 37 = .ok (.iload_n 1, 1) := by decide +kernel
theorem dX12_mark_38 : decode cX12_mark 38 = .ok (.iaload, 1) := by decide +kernel
theorem dX12_mark_39 : decode cX12_mark 39 = .ok (.ifCond .le 28, 3) := by decide +kernel
theorem dX12_mark_42 : decode cX12_mark 42 = .ok (.iload_n 2, 1) := by decide +kernel
theorem dX12_mark_43 : decode cX12_mark 43 = .ok (.aload_n 0, 1) := by decide +kernel
theorem dX12_mark_44 : decode cX12_mark 44 = .ok (.getfield 235, 3) := by decide +kernel
theorem dX12_mark_47 : decode cX12_mark 47 = .ok (.bipush 6, 2) := by decide +kernel
theorem dX12_mark_49 : decode cX12_mark 49 = .ok (.iload_n 1, 1) := by decide +kernel
theorem dX12_mark_50 : decode cX12_mark 50 = .ok (.imul, 1) := by decide +kernel
theorem dX12_mark_51 : decode cX12_mark 51 = .ok (.aload_n 0, 1) := by decide +kernel
theorem dX12_mark_52 : decode cX12_mark 52 = .ok (.getfield 232, 3) := by decide +kernel
theorem dX12_mark_55 : decode cX12_mark 55 = .ok (.iload_n 1, 1) := by decide +kernel
theorem dX12_mark_56 : decode cX12_mark 56 = .ok (.iaload, 1) := by decide +kernel
theorem dX12_mark_57 : decode cX12_mark 57 = .ok (.iadd, 1) := by decide +kernel
theorem dX12_mark_58 : decode cX12_mark 58 = .ok (.iconst 1, 1) := by decide +kernel
theorem dX12_mark_59 : decode cX12_mark 59 = .ok (.isub, 1) := by decide +kernel
theorem dX12_mark_60 : decode cX12_mark 60 = .ok (.iaload, 1) := by decide +kernel
theorem dX12_mark_61 : decode cX12_mark 61 = .ok (.if_icmp .gt 6, 3) := by decide +kernel
theorem dX12_mark_64 : decode cX12_mark 64 = .ok (.bipush (-2), 2) := by decide +kernel
theorem dX12_mark_66 : decode cX12_mark 66 = .ok (.ireturn, 1) := by decide +kernel
theorem dX12_mark_67 : decode cX12_mark 67 = .ok (.aload_n 0, 1) := by decide +kernel
theorem dX12_mark_68 : decode cX12_mark 68 = .ok (.getfield 232, 3) := by decide +kernel
theorem dX12_mark_71 : decode cX12_mark 71 = .ok (.iload_n 1, 1) := by decide +kernel
theorem dX12_mark_72 : decode cX12_mark 72 = .ok (.iaload, 1) := by decide +kernel
theorem dX12_mark_73 : decode cX12_mark 73 = .ok (.bipush 6, 2) := by decide +kernel
theorem dX12_mark_75 : decode cX12_mark 75 = .ok (.if_icmp .ne 6, 3) := by decide +kernel
theorem dX12_mark_78 : decode cX12_mark 78 = .ok (.bipush (-4), 2) := by decide +kernel
theorem dX12_mark_80 : decode cX12_mark 80 = .ok (.ireturn, 1) := by decide +kernel
theorem dX12_mark_81 : decode cX12_mark 81 = .ok (.aload_n 0, 1) := by decide +kernel
theorem dX12_mark_82 : decode cX12_mark 82 = .ok (.getfield 235, 3) := by decide +kernel
theorem dX12_mark_85 : decode cX12_mark 85 = .ok (.bipush 6, 2) := by decide +kernel
theorem dX12_mark_87 : decode cX12_mark 87 = .ok (.iload_n 1, 1) := by decide +kernel
theorem dX12_mark_88 : decode cX12_mark 88 = .ok (.imul, 1) := by decide +kernel
theorem dX12_mark_89 : decode cX12_mark 89 = .ok (.aload_n 0, 1) := by decide +kernel
theorem dX12_mark_90 : decode cX12_mark 90 = .ok (.getfield 232, 3) := by decide +kernel
theorem dX12_mark_93 : decode cX12_mark 93 = .ok (.iload_n 1, 1) := by decide +kernel
theorem dX12_mark_94 : decode cX12_mark 94 = .ok (.iaload, 1) := by decide +kernel
theorem dX12_mark_95 : decode cX12_mark 95 = .ok (.iadd, 1) := by decide +kernel
theorem dX12_mark_96 : decode cX12_mark 96 = .ok (.iload_n 2, 1) := by decide +kernel
theorem dX12_mark_97 : decode cX12_mark 97 = .ok (.iastore, 1) := by decide +kernel
theorem dX12_mark_98 : decode cX12_mark 98 = .ok (.aload_n 0, 1) := by decide +kernel
theorem dX12_mark_99 : decode cX12_mark 99 = .ok (.getfield 238, 3) := by decide +kernel
theorem dX12_mark_102 : decode cX12_mark 102 = .ok (.bipush 6, 2) := by decide +kernel
theorem dX12_mark_104 : decode cX12_mark 104 = .ok (.iload_n 1, 1) := by decide +kernel
theorem dX12_mark_105 : decode cX12_mark 105 = .ok (.imul, 1) := by decide +kernel
theorem dX12_mark_106 : decode cX12_mark 106 = .ok (.aload_n 0, 1) := by decide +kernel
theorem dX12_mark_107 : decode cX12_mark 107 = .ok (.getfield 232, 3) := by decide +kernel
theorem dX12_mark_110 : decode cX12_mark 110 = .ok (.iload_n 1, 1) := by decide +kernel
theorem dX12_mark_111 : decode cX12_mark 111 = .ok (.iaload, 1) := by decide +kernel
theorem dX12_mark_112 : decode cX12_mark 112 = .ok (.iadd, 1) := by decide +kernel
theorem dX12_mark_113 : decode cX12_mark 113 = .ok (.iload_n 3, 1) := by decide +kernel
theorem dX12_mark_114 : decode cX12_mark 114 = .ok (.iastore, 1) := by decide +kernel
theorem dX12_mark_115 : decode cX12_mark 115 = .ok (.aload_n 0, 1) := by decide +kernel
theorem dX12_mark_116 : decode cX12_mark 116 = .ok (.getfield 232, 3) := by decide +kernel
theorem dX12_mark_119 : decode cX12_mark 119 = .ok (.iload_n 1, 1) := by decide +kernel
theorem dX12_mark_120 : decode cX12_mark 120 = .ok (.dup2, 1) := by decide +kernel
theorem dX12_mark_121 : decode cX12_mark 121 = .ok (.iaload, 1) := by decide +kernel
theorem dX12_mark_122 : decode cX12_mark 122 = .ok (.iconst 1, 1) := by decide +kernel
theorem dX12_mark_123 : decode cX12_mark 123 = .ok (.iadd, 1) := by decide +kernel
theorem dX12_mark_124 : decode cX12_mark 124 = .ok (.iastore, 1) := by decide +kernel
theorem dX12_mark_125 : decode cX12_mark 125 = .ok (.aload_n 0, 1) := by decide +kernel
theorem dX12_mark_126 : decode cX12_mark 126 = .ok (.getfield 232, 3) := by decide +kernel
theorem dX12_mark_129 : decode cX12_mark 129 = .ok (.iload_n 1, 1) := by decide +kernel
theorem dX12_mark_130 : decode cX12_mark 130 = .ok (.iaload, 1) := by decide +kernel
theorem dX12_mark_131 : decode cX12_mark 131 = .ok (.ireturn, 1) := by decide +kernel
theorem dX12_unmark_0 : decode cX12_unmark 0 = .ok (.iload_n 1, 1) := by decide +kernel
theorem dX12_unmark_1 : decode cX12_unmark 1 = .ok (.iconst 0, 1) := by decide +kernel
theorem dX12_unmark_2 : decode cX12_unmark 2 = .ok (.iconst 2, 1) := by decide +kernel
theorem dX12_unmark_3 : decode cX12_unmark 3 = .ok (.invokestatic 322, 3) := by decide +kernel
theorem dX12_unmark_6 : decode cX12_unmark 6 = .ok (.ifCond .ne 6, 3) := by decide +kernel
theorem dX12_unmark_9 : decode cX12_unmark 9 = .ok (.bipush (-2), 2) := by decide +kernel
theorem dX12_unmark_11 : decode cX12_unmark 11 = .ok (.ireturn, 1) := by decide +kernel
theorem dX12_unmark_12 : decode cX12_unmark 12 = .ok (.aload_n 0, 1) := by decide +kernel
theorem dX12_unmark_13 : decode cX12_unmark 13 = .ok (.getfield 232, 3) := by decide +kernel
theorem dX12_unmark_16 : decode cX12_unmark 16 = .ok (.iload_n 1, 1) := by decide +kernel
theorem dX12_unmark_17 : decode cX12_unmark 17 = .ok (.iaload, 1) := by decide +kernel
theorem dX12_unmark_18 : decode cX12_unmark 18 = .ok (.istore_n 2, 1) := by decide +kernel
theorem dX12_unmark_19 : decode cX12_unmark 19 = .ok (.aload_n 0, 1) := by decide +kernel
theorem dX12_unmark_20 : decode cX12_unmark 20 = .ok (.getfield 232, 3) := by decide +kernel
theorem dX12_unmark_23 : decode cX12_unmark 23 = .ok (.iload_n 1, 1) := by decide +kernel
theorem dX12_unmark_24 : decode cX12_unmark 24 = .ok (.iconst 0, 1) := by decide +kernel
theorem dX12_unmark_25 : decode cX12_unmark 25 = .ok (.iastore, 1) := by decide +kernel
theorem dX12_unmark_26 : decode cX12_unmark 26 = .ok (.iload_n 2, 1) := by decide +kernel
theorem dX12_unmark_27 : decode cX12_unmark 27 = .ok (.ireturn, 1) := by decide +kernel
theorem dX12_wishAt_0 : decode cX12_wishAt 0 = .ok (.aload_n 0, 1) := by decide +kernel
theorem dX12_wishAt_1 : decode cX12_wishAt 1 = .ok (.getfield 232, 3) := by decide +kernel
theorem dX12_wishAt_4 : decode cX12_wishAt 4 = .ok (.iload_n 1, 1) := by decide +kernel
theorem dX12_wishAt_5 : decode cX12_wishAt 5 = .ok (.iaload, 1) := by decide +kernel
theorem dX12_wishAt_6 : decode cX12_wishAt 6 = .ok (.istore_n 3, 1) := by decide +kernel
theorem dX12_wishAt_7 : decode cX12_wishAt 7 = .ok (.iload_n 3, 1) := by decide +kernel
theorem dX12_wishAt_8 : decode cX12_wishAt 8 = .ok (.iconst 1, 1) := by decide +kernel
theorem dX12_wishAt_9 : decode cX12_wishAt 9 = .ok (.isub, 1) := by decide +kernel
theorem dX12_wishAt_10 : decode cX12_wishAt 10 = .ok (.istore 4, 2) := by decide +kernel
theorem dX12_wishAt_12 : decode cX12_wishAt 12 = .ok (.iload 4, 2) := by decide +kernel
theorem dX12_wishAt_14 : decode cX12_wishAt 14 = .ok (.ifCond .lt 25, 3) := by decide +kernel
theorem dX12_wishAt_17 : decode cX12_wishAt 17 = .ok (.aload_n 0, 1) := by decide +kernel
theorem dX12_wishAt_18 : decode cX12_wishAt 18 = .ok (.getfield 235, 3) := by decide +kernel
theorem dX12_wishAt_21 : decode cX12_wishAt 21 = .ok (.bipush 6, 2) := by decide +kernel
theorem dX12_wishAt_23 : decode cX12_wishAt 23 = .ok (.iload_n 1, 1) := by decide +kernel
theorem dX12_wishAt_24 : decode cX12_wishAt 24 = .ok (.imul, 1) := by decide +kernel
theorem dX12_wishAt_25 : decode cX12_wishAt 25 = .ok (.iload 4, 2) := by decide +kernel
theorem dX12_wishAt_27 : decode cX12_wishAt 27 = .ok (.iadd, 1) := by decide +kernel
theorem dX12_wishAt_28 : decode cX12_wishAt 28 = .ok (.iaload, 1) := by decide +kernel
theorem dX12_wishAt_29 : decode cX12_wishAt 29 = .ok (.iload_n 2, 1) := by decide +kernel
theorem dX12_wishAt_30 : decode cX12_wishAt 30 = .ok (.if_icmp .le 9, 3) := by decide +kernel
theorem dX12_wishAt_33 : decode cX12_wishAt 33 = .ok (.iinc 4 (-1), 3) := by decide +kernel
theorem dX12_wishAt_36 : decode cX12_wishAt 36 = .ok (.goto (-24), 3) := by decide +kernel
theorem dX12_wishAt_39 : decode cX12_wishAt 39 = .ok (.bipush 6, 2) := by decide +kernel
theorem dX12_wishAt_41 : decode cX12_wishAt 41 = .ok (.iload_n 1, 1) := by decide +kernel
theorem dX12_wishAt_42 : decode cX12_wishAt 42 = .ok (.imul, 1) := by decide +kernel
theorem dX12_wishAt_43 : decode cX12_wishAt 43 = .ok (.iload 4, 2) := by decide +kernel
theorem dX12_wishAt_45 : decode cX12_wishAt 45 = .ok (.ifCond .ge 9, 3) := by decide +kernel
theorem dX12_wishAt_48 : decode cX12_wishAt 48 = .ok (.iload_n 3, 1) := by decide +kernel
theorem dX12_wishAt_49 : decode cX12_wishAt 49 = .ok (.iconst 1, 1) := by decide +kernel
theorem dX12_wishAt_50 : decode cX12_wishAt 50 = .ok (.isub, 1) := by decide +kernel
theorem dX12_wishAt_51 : decode cX12_wishAt 51 = .ok (.goto 5, 3) := by decide +kernel
theorem dX12_wishAt_54 : decode cX12_wishAt 54 = .ok (.iload 4, 2) := by decide +kernel
theorem dX12_wishAt_56 : decode cX12_wishAt 56 = .ok (.iadd, 1) := by decide +kernel
theorem dX12_wishAt_57 : decode cX12_wishAt 57 = .ok (.istore 5, 2) := by decide +kernel
theorem dX12_wishAt_59 : decode cX12_wishAt 59 = .ok (.bipush 6, 2) := by decide +kernel
theorem dX12_wishAt_61 : decode cX12_wishAt 61 = .ok (.iload_n 1, 1) := by decide +kernel
theorem dX12_wishAt_62 : decode cX12_wishAt 62 = .ok (.imul, 1) := by decide +kernel
theorem dX12_wishAt_63 : decode cX12_wishAt 63 = .ok (.iload 4, 2) := by decide +kernel
theorem dX12_wishAt_65 : decode cX12_wishAt 65 = .ok (.ifCond .lt 11, 3) := by decide +kernel
theorem dX12_wishAt_68 : decode cX12_wishAt 68 = .ok (.iload 4, 2) := by decide +kernel
theorem dX12_wishAt_70 : decode cX12_wishAt 70 = .ok (.iload_n 3, 1) := by decide +kernel
theorem dX12_wishAt_71 : decode cX12_wishAt 71 = .ok (.iconst 1, 1) := by decide +kernel
theorem dX12_wishAt_72 : decode cX12_wishAt 72 = .ok (.isub, 1) := by decide +kernel
theorem dX12_wishAt_73 : decode cX12_wishAt 73 = .ok (.if_icmp .ne 7, 3) := by decide +kernel
theorem dX12_wishAt_76 : decode cX12_wishAt 76 = .ok (.iconst 0, 1) := by decide +kernel
theorem dX12_wishAt_77 : decode cX12_wishAt 77 = .ok (.goto 7, 3) := by decide +kernel
theorem dX12_wishAt_80 : decode cX12_wishAt 80 = .ok (.iload 4, 2) := by decide +kernel
theorem dX12_wishAt_82 : decode cX12_wishAt 82 = .ok (.iconst 1, 1) := by decide +kernel
theorem dX12_wishAt_83 : decode cX12_wishAt 83 = .ok (.iadd, 1) := by decide +kernel
theorem dX12_wishAt_84 : decode cX12_wishAt 84 = .ok (.iadd, 1) := by decide +kernel
theorem dX12_wishAt_85 : decode cX12_wishAt 85 = .ok (.istore 6, 2) := by decide +kernel
theorem dX12_wishAt_87 : decode cX12_wishAt 87 = .ok (.iload_n 3, 1) := by decide +kernel
theorem dX12_wishAt_88 : decode cX12_wishAt 88 = .ok (.iconst 1, 1) := by decide +kernel
theorem dX12_wishAt_89 : decode cX12_wishAt 89 = .ok (.if_icmp .ne 11, 3) := by decide +kernel
theorem dX12_wishAt_92 : decode cX12_wishAt 92 = .ok (.aload_n 0, 1) := by decide +kernel
theorem dX12_wishAt_93 : decode cX12_wishAt 93 = .ok (.getfield 238, 3) := by decide +kernel
theorem dX12_wishAt_96 : decode cX12_wishAt 96 = .ok (.iload 5, 2) := by decide +kernel
theorem dX12_wishAt_98 : decode cX12_wishAt 98 = .ok (.iaload, 1) := by decide +kernel
theorem dX12_wishAt_99 : decode cX12_wishAt 99 = .ok (.ireturn, 1) := by decide +kernel
theorem dX12_wishAt_100 : decode cX12_wishAt 100 = .ok (.iload_n 2, 1) := by decide +kernel
theorem dX12_wishAt_101 : decode cX12_wishAt 101 = .ok (.aload_n 0, 1) := by decide +kernel
theorem dX12_wishAt_102 : decode cX12_wishAt 102 = .ok (.getfield 235, 3) := by decide +kernel
theorem dX12_wishAt_105 : decode cX12_wishAt 105 = .ok (.iload 5, 2) := by decide +kernel
theorem dX12_wishAt_107 : decode cX12_wishAt 107 = .ok (.iaload, 1) := by decide +kernel
theorem dX12_wishAt_108 : decode cX12_wishAt 108 = .ok (.isub, 1) := by decide +kernel
theorem dX12_wishAt_109 : decode cX12_wishAt 109 = .ok (.iload 4, 2) := by decide +kernel
theorem dX12_wishAt_111 : decode cX12_wishAt 111 = .ok (.ifCond .ge 9, 3) := by decide +kernel
theorem dX12_wishAt_114 : decode cX12_wishAt 114 = .ok (.sipush 1440, 3) := by decide +kernel
theorem dX12_wishAt_117 : decode cX12_wishAt 117 = .ok (.goto 4, 3) := by decide +kernel
theorem dX12_wishAt_120 : decode cX12_wishAt 120 = .ok (.iconst 0, 1) := by decide +kernel
theorem dX12_wishAt_121 : decode cX12_wishAt 121 = .ok (.iadd, 1) := by decide +kernel
theorem dX12_wishAt_122 : decode cX12_wishAt 122 = .ok (.istore 7, 2) := by decide +kernel
theorem dX12_wishAt_124 : decode cX12_wishAt 124 = .ok (.aload_n 0, 1) := by decide +kernel
theorem dX12_wishAt_125 : decode cX12_wishAt 125 = .ok (.getfield 235, 3) := by decide +kernel
theorem dX12_wishAt_128 : decode cX12_wishAt 128 = .ok (.iload 6, 2) := by decide +kernel
theorem dX12_wishAt_130 : decode cX12_wishAt 130 = .ok (.iaload, 1) := by decide +kernel
theorem dX12_wishAt_131 : decode cX12_wishAt 131 = .ok (.aload_n 0, 1) := by decide +kernel
theorem dX12_wishAt_132 : decode cX12_wishAt 132 = .ok (.getfield 235, 3) := by decide +kernel
theorem dX12_wishAt_135 : decode cX12_wishAt 135 = .ok (.iload 5, 2) := by decide +kernel
theorem dX12_wishAt_137 : decode cX12_wishAt 137 = .ok (.iaload, 1) := by decide +kernel
theorem dX12_wishAt_138 : decode cX12_wishAt 138 = .ok (.isub, 1) := by decide +kernel
theorem dX12_wishAt_139 : decode cX12_wishAt 139 = .ok (.iload 6, 2) := by decide +kernel
theorem dX12_wishAt_141 : decode cX12_wishAt 141 = .ok (.iload 5, 2) := by decide +kernel
theorem dX12_wishAt_143 : decode cX12_wishAt 143 = .ok (.if_icmp .gt 9, 3) := by decide +kernel
theorem dX12_wishAt_146 : decode cX12_wishAt 146 = .ok (.sipush 1440, 3) := by decide +kernel
theorem dX12_wishAt_149 : decode cX12_wishAt 149 = .ok (.goto 4, 3) := by decide +kernel
theorem dX12_wishAt_152 : decode cX12_wishAt 152 = .ok (.iconst 0, 1) := by decide +kernel
theorem dX12_wishAt_153 : decode cX12_wishAt 153 = .ok (.iadd, 1) := by decide +kernel
theorem dX12_wishAt_154 : decode cX12_wishAt 154 = .ok (.istore 8, 2) := by decide +kernel
theorem dX12_wishAt_156 : decode cX12_wishAt 156 = .ok (.aload_n 0, 1) := by decide +kernel
theorem dX12_wishAt_157 : decode cX12_wishAt 157 = .ok (.getfield 238, 3) := by decide +kernel
theorem dX12_wishAt_160 : decode cX12_wishAt 160 = .ok (.iload 5, 2) := by decide +kernel
theorem dX12_wishAt_162 : decode cX12_wishAt 162 = .ok (.iaload, 1) := by decide +kernel
theorem dX12_wishAt_163 : decode cX12_wishAt 163 = .ok (.aload_n 0, 1) := by decide +kernel
theorem dX12_wishAt_164 : decode cX12_wishAt 164 = .ok (.getfield 238, 3) := by decide +kernel
theorem dX12_wishAt_167 : decode cX12_wishAt 167 = .ok (.iload 6, 2) := by decide +kernel
theorem dX12_wishAt_169 : decode cX12_wishAt 169 = .ok (.iaload, 1) := by decide +kernel
theorem dX12_wishAt_170 : decode cX12_wishAt 170 = .ok (.aload_n 0, 1) := by decide +kernel
theorem dX12_wishAt_171 : decode cX12_wishAt 171 = .ok (.getfield 238, 3) := by decide +kernel
theorem dX12_wishAt_174 : decode cX12_wishAt 174 = .ok (.iload 5, 2) := by decide +kernel
theorem dX12_wishAt_176 : decode cX12_wishAt 176 = .ok (.iaload, 1) := by decide +kernel
theorem dX12_wishAt_177 : decode cX12_wishAt 177 = .ok (.isub, 1) := by decide +kernel
theorem dX12_wishAt_178 : decode cX12_wishAt 178 = .ok (.i2l, 1) := by decide +kernel
theorem dX12_wishAt_179 : decode cX12_wishAt 179 = .ok (.iload 7, 2) := by decide +kernel
theorem dX12_wishAt_181 : decode cX12_wishAt 181 = .ok (.i2l, 1) := by decide +kernel
theorem dX12_wishAt_182 : decode cX12_wishAt 182 = .ok (.lmul, 1) := by decide +kernel
theorem dX12_wishAt_183 : decode cX12_wishAt 183 = .ok (.iload 8, 2) := by decide +kernel
theorem dX12_wishAt_185 : decode cX12_wishAt 185 = .ok (.i2l, 1) := by decide +kernel
theorem dX12_wishAt_186 : decode cX12_wishAt 186 = .ok (.invokestatic 623, 3) := by decide +kernel
theorem dX12_wishAt_189 : decode cX12_wishAt 189 = .ok (.l2i, 1) := by decide +kernel
theorem dX12_wishAt_190 : decode cX12_wishAt 190 = .ok (.iadd, 1) := by decide +kernel
theorem dX12_wishAt_191 : decode cX12_wishAt 191 = .ok (.ireturn, 1) := by decide +kernel
theorem dX12_wish_0 : decode cX12_wish 0 = .ok (.iload_n 1, 1) := by decide +kernel
theorem dX12_wish_1 : decode cX12_wish 1 = .ok (.iconst 0, 1) := by decide +kernel
theorem dX12_wish_2 : decode cX12_wish 2 = .ok (.iconst 2, 1) := by decide +kernel
theorem dX12_wish_3 : decode cX12_wish 3 = .ok (.invokestatic 322, 3) := by decide +kernel
theorem dX12_wish_6 : decode cX12_wish 6 = .ok (.ifCond .eq 14, 3) := by decide +kernel
theorem dX12_wish_9 : decode cX12_wish 9 = .ok (.iload_n 2, 1) := by decide +kernel
theorem dX12_wish_10 : decode cX12_wish 10 = .ok (.iconst 0, 1) := by decide +kernel
theorem dX12_wish_11 : decode cX12_wish 11 = .ok (.sipush 1439, 3) := by decide +kernel
theorem dX12_wish_14 : decode cX12_wish 14 = .ok (.invokestatic 322, 3) := by decide +kernel
theorem dX12_wish_17 : decode cX12_wish 17 = .ok (.ifCond .ne 7, 3) := by decide +kernel
theorem dX12_wish_20 : decode cX12_wish 20 = .ok (.ldc_w 655, 3) := by decide +kernel
theorem dX12_wish_23 : decode cX12_wish 23 = .ok (.ireturn, 1) := by decide +kernel
theorem dX12_wish_24 : decode cX12_wish 24 = .ok (.aload_n 0, 1) := by decide +kernel
theorem dX12_wish_25 : decode cX12_wish 25 = .ok (.getfield 232, 3) := by decide +kernel
theorem dX12_wish_28 : decode cX12_wish 28 = .ok (.iload_n 1, 1) := by decide +kernel
theorem dX12_wish_29 : decode cX12_wish 29 = .ok (.iaload, 1) := by decide +kernel
theorem dX12_wish_30 : decode cX12_wish 30 = .ok (.ifCond .ne 9, 3) := by decide +kernel
theorem dX12_wish_33 : decode cX12_wish 33 = .ok (.ldc_w 660, 3) := by decide +kernel
theorem dX12_wish_36 : decode cX12_wish 36 = .ok (.goto 9, 3) := by decide +kernel
theorem dX12_wish_39 : decode cX12_wish 39 = .ok (.aload_n 0, 1) := by decide +kernel
theorem dX12_wish_40 : decode cX12_wish 40 = .ok (.iload_n 1, 1) := by decide +kernel
theorem dX12_wish_41 : decode cX12_wish 41 = .ok (.iload_n 2, 1) := by decide +kernel
theorem dX12_wish_42 : decode cX12_wish 42 = .ok (.invokevirtual 661, 3) := by decide +kernel
theorem dX12_wish_45 : decode cX12_wish 45 = .ok (.ireturn, 1) := by decide +kernel
theorem dX12_toward_0 : decode cX12_toward 0 = .ok (.iload_n 0, 1) := by decide +kernel
theorem dX12_toward_1 : decode cX12_toward 1 = .ok (.iload_n 1, 1) := by decide +kernel
theorem dX12_toward_2 : decode cX12_toward 2 = .ok (.if_icmp .ge 22, 3) := by decide +kernel
theorem dX12_toward_5 : decode cX12_toward 5 = .ok (.iload_n 0, 1) := by decide +kernel
theorem dX12_toward_6 : decode cX12_toward 6 = .ok (.bipush 10, 2) := by decide +kernel
theorem dX12_toward_8 : decode cX12_toward 8 = .ok (.iadd, 1) := by decide +kernel
theorem dX12_toward_9 : decode cX12_toward 9 = .ok (.iload_n 1, 1) := by decide +kernel
theorem dX12_toward_10 : decode cX12_toward 10 = .ok (.if_icmp .ge 10, 3) := by decide +kernel
theorem dX12_toward_13 : decode cX12_toward 13 = .ok (.iload_n 0, 1) := by decide +kernel
theorem dX12_toward_14 : decode cX12_toward 14 = .ok (.bipush 10, 2) := by decide +kernel
theorem dX12_toward_16 : decode cX12_toward 16 = .ok (.iadd, 1) := by decide +kernel
theorem dX12_toward_17 : decode cX12_toward 17 = .ok (.goto 23, 3) := by decide +kernel
theorem dX12_toward_20 : decode cX12_toward 20 = .ok (.iload_n 1, 1) := by decide +kernel
theorem dX12_toward_21 : decode cX12_toward 21 = .ok (.goto 19, 3) := by decide +kernel
theorem dX12_toward_24 : decode cX12_toward 24 = .ok (.iload_n 0, 1) := by decide +kernel
theorem dX12_toward_25 : decode cX12_toward 25 = .ok (.bipush 10, 2) := by decide +kernel
theorem dX12_toward_27 : decode cX12_toward 27 = .ok (.isub, 1) := by decide +kernel
theorem dX12_toward_28 : decode cX12_toward 28 = .ok (.iload_n 1, 1) := by decide +kernel
theorem dX12_toward_29 : decode cX12_toward 29 = .ok (.if_icmp .le 10, 3) := by decide +kernel
theorem dX12_toward_32 : decode cX12_toward 32 = .ok (.iload_n 0, 1) := by decide +kernel
theorem dX12_toward_33 : decode cX12_toward 33 = .ok (.bipush 10, 2) := by decide +kernel
theorem dX12_toward_35 : decode cX12_toward 35 = .ok (.isub, 1) := by decide +kernel
theorem dX12_toward_36 : decode cX12_toward 36 = .ok (.goto 4, 3) := by decide +kernel
theorem dX12_toward_39 : decode cX12_toward 39 = .ok (.iload_n 1, 1) := by decide +kernel
theorem dX12_toward_40 : decode cX12_toward 40 = .ok (.ireturn, 1) := by decide +kernel
theorem dX12_within_0 : decode cX12_within 0 = .ok (.lload_n 0, 1) := by decide +kernel
theorem dX12_within_1 : decode cX12_within 1 = .ok (.lload_n 2, 1) := by decide +kernel
theorem dX12_within_2 : decode cX12_within 2 = .ok (.lneg, 1) := by decide +kernel
theorem dX12_within_3 : decode cX12_within 3 = .ok (.lcmp, 1) := by decide +kernel
theorem dX12_within_4 : decode cX12_within 4 = .ok (.ifCond .ge 8, 3) := by decide +kernel
theorem dX12_within_7 : decode cX12_within 7 = .ok (.lload_n 2, 1) := by decide +kernel
theorem dX12_within_8 : decode cX12_within 8 = .ok (.lneg, 1) := by decide +kernel
theorem dX12_within_9 : decode cX12_within 9 = .ok (.goto 14, 3) := by decide +kernel
theorem dX12_within_12 : decode cX12_within 12 = .ok (.lload_n 0, 1) := by decide +kernel
theorem dX12_within_13 : decode cX12_within 13 = .ok (.lload_n 2, 1) := by decide +kernel
theorem dX12_within_14 : decode cX12_within 14 = .ok (.lcmp, 1) := by decide +kernel
theorem dX12_within_15 : decode cX12_within 15 = .ok (.ifCond .le 7, 3) := by decide +kernel
theorem dX12_within_18 : decode cX12_within 18 = .ok (.lload_n 2, 1) := by decide +kernel
theorem dX12_within_19 : decode cX12_within 19 = .ok (.goto 4, 3) := by decide +kernel
theorem dX12_within_22 : decode cX12_within 22 = .ok (.lload_n 0, 1) := by decide +kernel
theorem dX12_within_23 : decode cX12_within 23 = .ok (.lreturn, 1) := by decide +kernel
theorem dX12_steer_0 : decode cX12_steer 0 = .ok (.aload_n 0, 1) := by decide +kernel
theorem dX12_steer_1 : decode cX12_steer 1 = .ok (.getfield 220, 3) := by decide +kernel
theorem dX12_steer_4 : decode cX12_steer 4 = .ok (.iload_n 1, 1) := by decide +kernel
theorem dX12_steer_5 : decode cX12_steer 5 = .ok (.iaload, 1) := by decide +kernel
theorem dX12_steer_6 : decode cX12_steer 6 = .ok (.istore_n 2, 1) := by decide +kernel
theorem dX12_steer_7 : decode cX12_steer 7 = .ok (.aload_n 0, 1) := by decide +kernel
theorem dX12_steer_8 : decode cX12_steer 8 = .ok (.getfield 207, 3) := by decide +kernel
theorem dX12_steer_11 : decode cX12_steer 11 = .ok (.iconst 3, 1) := by decide +kernel
theorem dX12_steer_12 : decode cX12_steer 12 = .ok (.iaload, 1) := by decide +kernel
theorem dX12_steer_13 : decode cX12_steer 13 = .ok (.iconst 1, 1) := by decide +kernel
theorem dX12_steer_14 : decode cX12_steer 14 = .ok (.if_icmp .ne 15, 3) := by decide +kernel
theorem dX12_steer_17 : decode cX12_steer 17 = .ok (.aload_n 0, 1) := by decide +kernel
theorem dX12_steer_18 : decode cX12_steer 18 = .ok (.getfield 220, 3) := by decide +kernel
theorem dX12_steer_21 : decode cX12_steer 21 = .ok (.iload_n 1, 1) := by decide +kernel
theorem dX12_steer_22 : decode cX12_steer 22 = .ok (.iload_n 2, 1) := by decide +kernel
theorem dX12_steer_23 : decode cX12_steer 23 = .ok (.iconst 0, 1) := by decide +kernel
theorem dX12_steer_24 : decode cX12_steer 24 = .ok (.invokestatic 664, 3) := by decide +kernel
theorem dX12_steer_27 : decode cX12_steer 27 = .ok (.iastore, 1) := by decide +kernel
theorem dX12_steer_28 : decode cX12_steer 28 = .ok (.return_, 1) := by decide +kernel
theorem dX12_steer_29 : decode cX12_steer 29 = .ok (.aload_n 0, 1) := by decide +kernel
theorem dX12_steer_30 : decode cX12_steer 30 = .ok (.getfield 204, 3) := by decide +kernel
theorem dX12_steer_33 : decode cX12_steer 33 = .ok (.iload_n 1, 1) := by decide +kernel
theorem dX12_steer_34 : decode cX12_steer 34 = .ok (.laload, 1) := by decide +kernel
theorem dX12_steer_35 : decode cX12_steer 35 = .ok (.ldc2_w 172, 3) := by decide +kernel
theorem dX12_steer_38 : decode cX12_steer 38 = .ok (.lcmp, 1) := by decide +kernel
theorem dX12_steer_39 : decode cX12_steer 39 = .ok (.ifCond .eq 12, 3) := by decide +kernel
theorem dX12_steer_42 : decode cX12_steer 42 = .ok (.aload_n 0, 1) := by decide +kernel
theorem dX12_steer_43 : decode cX12_steer 43 = .ok (.getfield 232, 3) := by decide +kernel
theorem dX12_steer_46 : decode cX12_steer 46 = .ok (.iload_n 1, 1) := by decide +kernel
theorem dX12_steer_47 : decode cX12_steer 47 = .ok (.iaload, 1) := by decide +kernel
theorem dX12_steer_48 : decode cX12_steer 48 = .ok (.ifCond .ne 35, 3) := by decide +kernel
theorem dX12_steer_51 : decode cX12_steer 51 = .ok (.aload_n 0, 1) := by decide +kernel
theorem dX12_steer_52 : decode cX12_steer 52 = .ok (.getfield 220, 3) := by decide +kernel
theorem dX12_steer_55 : decode cX12_steer 55 = .ok (.iload_n 1, 1) := by decide +kernel
theorem dX12_steer_56 : decode cX12_steer 56 = .ok (.iload_n 2, 1) := by decide +kernel
theorem dX12_steer_57 : decode cX12_steer 57 = .ok (.bipush 10, 2) := by decide +kernel
theorem dX12_steer_59 : decode cX12_steer 59 = .ok (.invokestatic 664, 3) := by decide +kernel
theorem dX12_steer_62 : decode cX12_steer 62 = .ok (.iastore, 1) := by decide +kernel
theorem dX12_steer_63 : decode cX12_steer 63 = .ok (.aload_n 0, 1) := by decide +kernel
theorem dX12_steer_64 : decode cX12_steer 64 = .ok (.getfield 223, 3) := by decide +kernel
theorem dX12_steer_67 : decode cX12_steer 67 = .ok (.iload_n 1, 1) := by decide +kernel
theorem dX12_steer_68 : decode cX12_steer 68 = .ok (.aload_n 0, 1) := by decide +kernel
theorem dX12_steer_69 : decode cX12_steer 69 = .ok (.getfield 223, 3) := by decide +kernel
theorem dX12_steer_72 : decode cX12_steer 72 = .ok (.iload_n 1, 1) := by decide +kernel
theorem dX12_steer_73 : decode cX12_steer 73 = .ok (.iaload, 1) := by decide +kernel
theorem dX12_steer_74 : decode cX12_steer 74 = .ok (.bipush 30, 2) := by decide +kernel
theorem dX12_steer_76 : decode cX12_steer 76 = .ok (.invokestatic 664, 3) := by decide +kernel
theorem dX12_steer_79 : decode cX12_steer 79 = .ok (.iastore, 1) := by decide +kernel
theorem dX12_steer_80 : decode cX12_steer 80 = .ok (.goto 260, 3) := by decide +kernel
theorem dX12_steer_83 : decode cX12_steer 83 = .ok (.aload_n 0, 1) := by decide +kernel
theorem dX12_steer_84 : decode cX12_steer 84 = .ok (.getfield 204, 3) := by decide +kernel
theorem dX12_steer_87 : decode cX12_steer 87 = .ok (.iload_n 1, 1) := by decide +kernel
theorem dX12_steer_88 : decode cX12_steer 88 = .ok (.laload, 1) := by decide +kernel
theorem dX12_steer_89 : decode cX12_steer 89 = .ok (.invokestatic 630, 3) := by decide +kernel
theorem dX12_steer_92 : decode cX12_steer 92 = .ok (.ldc2_w 667, 3) := by decide +kernel
theorem dX12_steer_95 : decode cX12_steer 95 = .ok (.dmul, 1) := by decide +kernel
theorem dX12_steer_96 : decode cX12_steer 96 = .ok (.d2l, 1) := by decide +kernel
theorem dX12_steer_97 : decode cX12_steer 97 = .ok (.ldc2_w 669, 3) := by decide +kernel
theorem dX12_steer_100 : decode cX12_steer 100 = .ok (.invokestatic 671, 3) := by decide +kernel
theorem dX12_steer_103 : decode cX12_steer 103 = .ok (.lstore_n 3, 1) := by decide +kernel
theorem dX12_steer_104 : decode cX12_steer 104 = .ok (.lload_n 3, 1) := by decide +kernel
theorem dX12_steer_105 : decode cX12_steer 105 = .ok (.aload_n 0, 1) := by decide +kernel
theorem dX12_steer_106 : decode cX12_steer 106 = .ok (.iload_n 1, 1) := by decide +kernel
