theorem dX11_plant_223 : decode cX11_plant 223 = .ok (.putfield 234, 3) := by decide +kernel
theorem dX11_plant_226 : decode cX11_plant 226 = .ok (.aload 7, 2) := by decide +kernel
theorem dX11_plant_228 : decode cX11_plant 228 = .ok (.aload_n 0, 1) := by decide +kernel
theorem dX11_plant_229 : decode cX11_plant 229 = .ok (.getfield 237, 3) := by decide +kernel
theorem dX11_plant_232 : decode cX11_plant 232 = .ok (.putfield 240, 3) := by decide +kernel
theorem dX11_plant_235 : decode cX11_plant 235 = .ok (.aload_n 0, 1) := by decide +kernel
theorem dX11_plant_236 : decode cX11_plant 236 = .ok (.dup, 1) := by decide +kernel
theorem dX11_plant_237 : decode cX11_plant 237 = .ok (.getfield 237, 3) := by decide +kernel
theorem dX11_plant_240 : decode cX11_plant 240 = .ok (.iconst 1, 1) := by decide +kernel
theorem dX11_plant_241 : decode cX11_plant 241 = .ok (.iadd, 1) := by decide +kernel
theorem dX11_plant_242 : decode cX11_plant 242 = .ok (.putfield 237, 3) := by decide +kernel
theorem dX11_plant_245 : decode cX11_plant 245 = .ok (.aload_n 0, 1) := by decide +kernel
theorem dX11_plant_246 : decode cX11_plant 246 = .ok (.dup, 1) := by decide +kernel
theorem dX11_plant_247 : decode cX11_plant 247 = .ok (.getfield 243, 3) := by decide +kernel
theorem dX11_plant_250 : decode cX11_plant 250 = .ok (.iconst 1, 1) := by decide +kernel
theorem dX11_plant_251 : decode cX11_plant 251 = .ok (.iadd, 1) := by decide +kernel
theorem dX11_plant_252 : decode cX11_plant 252 = .ok (.putfield 243, 3) := by decide +kernel
theorem dX11_plant_255 : decode cX11_plant 255 = .ok (.aload_n 0, 1) := by decide +kernel
theorem dX11_plant_256 : decode cX11_plant 256 = .ok (.getfield 20, 3) := by decide +kernel
theorem dX11_plant_259 : decode cX11_plant 259 = .ok (.iload_n 1, 1) := by decide +kernel
theorem dX11_plant_260 : decode cX11_plant 260 = .ok (.aload 7, 2) := by decide +kernel
theorem dX11_plant_262 : decode cX11_plant 262 = .ok (.aastore, 1) := by decide +kernel
theorem dX11_plant_263 : decode cX11_plant 263 = .ok (.aload 7, 2) := by decide +kernel
theorem dX11_plant_265 : decode cX11_plant 265 = .ok (.getfield 240, 3) := by decide +kernel
theorem dX11_plant_268 : decode cX11_plant 268 = .ok (.ireturn, 1) := by decide +kernel
theorem dX11_tray_0 : decode cX11_tray 0 = .ok (.iload_n 1, 1) := by decide +kernel
theorem dX11_tray_1 : decode cX11_tray 1 = .ok (.invokestatic 76, 3) := by decide +kernel
theorem dX11_tray_4 : decode cX11_tray 4 = .ok (.ifCond .eq 16, 3) := by decide +kernel
theorem dX11_tray_7 : decode cX11_tray 7 = .ok (.iload_n 2, 1) := by decide +kernel
theorem dX11_tray_8 : decode cX11_tray 8 = .ok (.invokestatic 120, 3) := by decide +kernel
theorem dX11_tray_11 : decode cX11_tray 11 = .ok (.ifCond .eq 9, 3) := by decide +kernel
theorem dX11_tray_14 : decode cX11_tray 14 = .ok (.iload_n 3, 1) := by decide +kernel
theorem dX11_tray_15 : decode cX11_tray 15 = .ok (.bipush 8, 2) := by decide +kernel
theorem dX11_tray_17 : decode cX11_tray 17 = .ok (.if_icmp .le 6, 3) := by decide +kernel
theorem dX11_tray_20 : decode cX11_tray 20 = .ok (.bipush (-2), 2) := by decide +kernel
theorem dX11_tray_22 : decode cX11_tray 22 = .ok (.ireturn, 1) := by decide +kernel
theorem dX11_tray_23 : decode cX11_tray 23 = .ok (.aload_n 0, 1) := by decide +kernel
theorem dX11_tray_24 : decode cX11_tray 24 = .ok (.iload_n 1, 1) := by decide +kernel
theorem dX11_tray_25 : decode cX11_tray 25 = .ok (.iload_n 2, 1) := by decide +kernel
theorem dX11_tray_26 : decode cX11_tray 26 = .ok (.iload_n 3, 1) := by decide +kernel
theorem dX11_tray_27 : decode cX11_tray 27 = .ok (.invokevirtual 109, 3) := by decide +kernel
theorem dX11_tray_30 : decode cX11_tray 30 = .ok (.ireturn, 1) := by decide +kernel
theorem dX11_ask_0 : decode cX11_ask 0 = .ok (.iload_n 1, 1) := by decide +kernel
theorem dX11_ask_1 : decode cX11_ask 1 = .ok (.invokestatic 76, 3) := by decide +kernel
theorem dX11_ask_4 : decode cX11_ask 4 = .ok (.ifCond .eq 13, 3) := by decide +kernel
theorem dX11_ask_7 : decode cX11_ask 7 = .ok (.iload_n 2, 1) := by decide +kernel
theorem dX11_ask_8 : decode cX11_ask 8 = .ok (.ifCond .lt 9, 3) := by decide +kernel
theorem dX11_ask_11 : decode cX11_ask 11 = .ok (.iload_n 2, 1) := by decide +kernel
theorem dX11_ask_12 : decode cX11_ask 12 = .ok (.bipush 7, 2) := by decide +kernel
theorem dX11_ask_14 : decode cX11_ask 14 = .ok (.if_icmp .le 6, 3) := by decide +kernel
theorem dX11_ask_17 : decode cX11_ask 17 = .ok (.bipush (-2), 2) := by decide +kernel
theorem dX11_ask_19 : decode cX11_ask 19 = .ok (.ireturn, 1) := by decide +kernel
theorem dX11_ask_20 : decode cX11_ask 20 = .ok (.aload_n 0, 1) := by decide +kernel
theorem dX11_ask_21 : decode cX11_ask 21 = .ok (.getfield 25, 3) := by decide +kernel
theorem dX11_ask_24 : decode cX11_ask 24 = .ok (.invokevirtual 246, 3) := by decide +kernel
theorem dX11_ask_27 : decode cX11_ask 27 = .ok (.aload_n 0, 1) := by decide +kernel
theorem dX11_ask_28 : decode cX11_ask 28 = .ok (.getfield 20, 3) := by decide +kernel
theorem dX11_ask_31 : decode cX11_ask 31 = .ok (.iload_n 1, 1) := by decide +kernel
theorem dX11_ask_32 : decode cX11_ask 32 = .ok (.aaload, 1) := by decide +kernel
theorem dX11_ask_33 : decode cX11_ask 33 = .ok (.astore_n 3, 1) := by decide +kernel
theorem dX11_ask_34 : decode cX11_ask 34 = .ok (.aload_n 0, 1) := by decide +kernel
theorem dX11_ask_35 : decode cX11_ask 35 = .ok (.getfield 25, 3) := by decide +kernel
theorem dX11_ask_38 : decode cX11_ask 38 = .ok (.aload_n 3, 1) := by decide +kernel
theorem dX11_ask_39 : decode cX11_ask 39 = .ok (.iload_n 2, 1) := by decide +kernel
theorem dX11_ask_40 : decode cX11_ask 40 = .ok (.invokevirtual 251, 3) := by decide +kernel
theorem dX11_ask_43 : decode cX11_ask 43 = .ok (.istore 4, 2) := by decide +kernel
theorem dX11_ask_45 : decode cX11_ask 45 = .ok (.aload_n 0, 1) := by decide +kernel
theorem dX11_ask_46 : decode cX11_ask 46 = .ok (.getfield 25, 3) := by decide +kernel
theorem dX11_ask_49 : decode cX11_ask 49 = .ok (.getfield 254, 3) := by decide +kernel
theorem dX11_ask_52 : decode cX11_ask 52 = .ok (.ifCond .eq 15, 3) := by decide +kernel
theorem dX11_ask_55 : decode cX11_ask 55 = .ok (.aload_n 0, 1) := by decide +kernel
theorem dX11_ask_56 : decode cX11_ask 56 = .ok (.aload_n 0, 1) := by decide +kernel
theorem dX11_ask_57 : decode cX11_ask 57 = .ok (.getfield 25, 3) := by decide +kernel
theorem dX11_ask_60 : decode cX11_ask 60 = .ok (.getfield 254, 3) := by decide +kernel
theorem dX11_ask_63 : decode cX11_ask 63 = .ok (.invokevirtual 87, 3) := by decide +kernel
theorem dX11_ask_66 : decode cX11_ask 66 = .ok (.ireturn, 1) := by decide +kernel
theorem dX11_ask_67 : decode cX11_ask 67 = .ok (.aload_n 0, 1) := by decide +kernel
theorem dX11_ask_68 : decode cX11_ask 68 = .ok (.iload 4, 2) := by decide +kernel
theorem dX11_ask_70 : decode cX11_ask 70 = .ok (.putfield 257, 3) := by decide +kernel
theorem dX11_ask_73 : decode cX11_ask 73 = .ok (.iconst 1, 1) := by decide +kernel
theorem dX11_ask_74 : decode cX11_ask 74 = .ok (.ireturn, 1) := by decide +kernel
theorem dX11_answer_0 : decode cX11_answer 0 = .ok (.aload_n 0, 1) := by decide +kernel
theorem dX11_answer_1 : decode cX11_answer 1 = .ok (.getfield 257, 3) := by decide +kernel
theorem dX11_answer_4 : decode cX11_answer 4 = .ok (.ireturn, 1) := by decide +kernel
theorem dX11_trace_0 : decode cX11_trace 0 = .ok (.aload_n 0, 1) := by decide +kernel
theorem dX11_trace_1 : decode cX11_trace 1 = .ok (.getfield 25, 3) := by decide +kernel
theorem dX11_trace_4 : decode cX11_trace 4 = .ok (.iload_n 1, 1) := by decide +kernel
theorem dX11_trace_5 : decode cX11_trace 5 = .ok (.invokevirtual 260, 3) := by decide +kernel
theorem dX11_trace_8 : decode cX11_trace 8 = .ok (.ireturn, 1) := by decide +kernel
theorem dX11_card_0 : decode cX11_card 0 = .ok (.iload_n 1, 1) := by decide +kernel
theorem dX11_card_1 : decode cX11_card 1 = .ok (.invokestatic 76, 3) := by decide +kernel
theorem dX11_card_4 : decode cX11_card 4 = .ok (.ifCond .ne 6, 3) := by decide +kernel
theorem dX11_card_7 : decode cX11_card 7 = .ok (.bipush (-2), 2) := by decide +kernel
theorem dX11_card_9 : decode cX11_card 9 = .ok (.ireturn, 1) := by decide +kernel
theorem dX11_card_10 : decode cX11_card 10 = .ok (.aload_n 0, 1) := by decide +kernel
theorem dX11_card_11 : decode cX11_card 11 = .ok (.invokevirtual 83, 3) := by decide +kernel
theorem dX11_card_14 : decode cX11_card 14 = .ok (.ifCond .eq 6, 3) := by decide +kernel
theorem dX11_card_17 : decode cX11_card 17 = .ok (.bipush (-4), 2) := by decide +kernel
theorem dX11_card_19 : decode cX11_card 19 = .ok (.ireturn, 1) := by decide +kernel
theorem dX11_card_20 : decode cX11_card 20 = .ok (.aload_n 0, 1) := by decide +kernel
theorem dX11_card_21 : decode cX11_card 21 = .ok (.invokevirtual 263, 3) := by decide +kernel
theorem dX11_card_24 : decode cX11_card 24 = .ok (.astore_n 2, 1) := by decide +kernel
theorem dX11_card_25 : decode cX11_card 25 = .ok (.aload_n 0, 1) := by decide +kernel
theorem dX11_card_26 : decode cX11_card 26 = .ok (.getfield 20, 3) := by decide +kernel
theorem dX11_card_29 : decode cX11_card 29 = .ok (.iload_n 1, 1) := by decide +kernel
theorem dX11_card_30 : decode cX11_card 30 = .ok (.aload_n 2, 1) := by decide +kernel
theorem dX11_card_31 : decode cX11_card 31 = .ok (.aastore, 1) := by decide +kernel
theorem dX11_card_32 : decode cX11_card 32 = .ok (.aload_n 2, 1) := by decide +kernel
theorem dX11_card_33 : decode cX11_card 33 = .ok (.getfield 240, 3) := by decide +kernel
theorem dX11_card_36 : decode cX11_card 36 = .ok (.ireturn, 1) := by decide +kernel
theorem dX11_field_0 : decode cX11_field 0 = .ok (.iload_n 1, 1) := by decide +kernel
theorem dX11_field_1 : decode cX11_field 1 = .ok (.invokestatic 76, 3) := by decide +kernel
theorem dX11_field_4 : decode cX11_field 4 = .ok (.ifCond .eq 10, 3) := by decide +kernel
theorem dX11_field_7 : decode cX11_field 7 = .ok (.iload_n 2, 1) := by decide +kernel
theorem dX11_field_8 : decode cX11_field 8 = .ok (.invokestatic 80, 3) := by decide +kernel
theorem dX11_field_11 : decode cX11_field 11 = .ok (.ifCond .ne 5, 3) := by decide +kernel
theorem dX11_field_14 : decode cX11_field 14 = .ok (.lconst 0, 1) := by decide +kernel
theorem dX11_field_15 : decode cX11_field 15 = .ok (.lreturn, 1) := by decide +kernel
theorem dX11_field_16 : decode cX11_field 16 = .ok (.aload_n 0, 1) := by decide +kernel
theorem dX11_field_17 : decode cX11_field 17 = .ok (.getfield 20, 3) := by decide +kernel
theorem dX11_field_20 : decode cX11_field 20 = .ok (.iload_n 1, 1) := by decide +kernel
theorem dX11_field_21 : decode cX11_field 21 = .ok (.aaload, 1) := by decide +kernel
theorem dX11_field_22 : decode cX11_field 22 = .ok (.astore_n 3, 1) := by decide +kernel
theorem dX11_field_23 : decode cX11_field 23 = .ok (.aload_n 3, 1) := by decide +kernel
theorem dX11_field_24 : decode cX11_field 24 = .ok (.bipush 17, 2) := by decide +kernel
theorem dX11_field_26 : decode cX11_field 26 = .ok (.invokestatic 267, 3) := by decide +kernel
theorem dX11_field_29 : decode cX11_field 29 = .ok (.istore 4, 2) := by decide +kernel
theorem dX11_field_31 : decode cX11_field 31 = .ok (.iload 4, 2) := by decide +kernel
theorem dX11_field_33 : decode cX11_field 33 = .ok (.ifCond .ne 7, 3) := by decide +kernel
theorem dX11_field_36 : decode cX11_field 36 = .ok (.aload_n 3, 1) := by decide +kernel
theorem dX11_field_37 : decode cX11_field 37 = .ok (.ifnonnull 12, 3) := by decide +kernel
theorem dX11_field_40 : decode cX11_field 40 = .ok (.aload_n 0, 1) := by decide +kernel
theorem dX11_field_41 : decode cX11_field 41 = .ok (.iload 4, 2) := by decide +kernel
theorem dX11_field_43 : decode cX11_field 43 = .ok (.invokevirtual 87, 3) := by decide +kernel
theorem dX11_field_46 : decode cX11_field 46 = .ok (.pop, 1) := by decide +kernel
theorem dX11_field_47 : decode cX11_field 47 = .ok (.lconst 0, 1) := by decide +kernel
theorem dX11_field_48 : decode cX11_field 48 = .ok (.lreturn, 1) := by decide +kernel
theorem dX11_field_49 : decode cX11_field 49 = .ok (.aload_n 3, 1) := by decide +kernel
theorem dX11_field_50 : decode cX11_field 50 = .ok (.getfield 134, 3) := by decide +kernel
theorem dX11_field_53 : decode cX11_field 53 = .ok (.iload_n 2, 1) := by decide +kernel
theorem dX11_field_54 : decode cX11_field 54 = .ok (.laload, 1) := by decide +kernel
theorem dX11_field_55 : decode cX11_field 55 = .ok (.lreturn, 1) := by decide +kernel
theorem dX11_setField_0 : decode cX11_setField 0 = .ok (.iload_n 1, 1) := by decide +kernel
theorem dX11_setField_1 : decode cX11_setField 1 = .ok (.invokestatic 76, 3) := by decide +kernel
theorem dX11_setField_4 : decode cX11_setField 4 = .ok (.ifCond .eq 10, 3) := by decide +kernel
theorem dX11_setField_7 : decode cX11_setField 7 = .ok (.iload_n 2, 1) := by decide +kernel
theorem dX11_setField_8 : decode cX11_setField 8 = .ok (.invokestatic 80, 3) := by decide +kernel
theorem dX11_setField_11 : decode cX11_setField 11 = .ok (.ifCond .ne 6, 3) := by decide +kernel
theorem dX11_setField_14 : decode cX11_setField 14 = .ok (.bipush (-2), 2) := by decide +kernel
theorem dX11_setField_16 : decode cX11_setField 16 = .ok (.ireturn, 1) := by decide +kernel
theorem dX11_setField_17 : decode cX11_setField 17 = .ok (.aload_n 0, 1) := by decide +kernel
theorem dX11_setField_18 : decode cX11_setField 18 = .ok (.getfield 20, 3) := by decide +kernel
theorem dX11_setField_21 : decode cX11_setField 21 = .ok (.iload_n 1, 1) := by decide +kernel
theorem dX11_setField_22 : decode cX11_setField 22 = .ok (.aaload, 1) := by decide +kernel
theorem dX11_setField_23 : decode cX11_setField 23 = .ok (.astore 5, 2) := by decide +kernel
theorem dX11_setField_25 : decode cX11_setField 25 = .ok (.aload 5, 2) := by decide +kernel
theorem dX11_setField_27 : decode cX11_setField 27 = .ok (.bipush 17, 2) := by decide +kernel
theorem dX11_setField_29 : decode cX11_setField 29 = .ok (.invokestatic 267, 3) := by decide +kernel
theorem dX11_setField_32 : decode cX11_setField 32 = .ok (.istore 6, 2) := by decide +kernel
theorem dX11_setField_34 : decode cX11_setField 34 = .ok (.iload 6, 2) := by decide +kernel
theorem dX11_setField_36 : decode cX11_setField 36 = .ok (.ifCond .ne 8, 3) := by decide +kernel
theorem dX11_setField_39 : decode cX11_setField 39 = .ok (.aload 5, 2) := by decide +kernel
theorem dX11_setField_41 : decode cX11_setField 41 = .ok (.ifnonnull 10, 3) := by decide +kernel
theorem dX11_setField_44 : decode cX11_setField 44 = .ok (.aload_n 0, 1) := by decide +kernel
theorem dX11_setField_45 : decode cX11_setField 45 = .ok (.iload 6, 2) := by decide +kernel
theorem dX11_setField_47 : decode cX11_setField 47 = .ok (.invokevirtual 87, 3) := by decide +kernel
theorem dX11_setField_50 : decode cX11_setField 50 = .ok (.ireturn, 1) := by decide +kernel
theorem dX11_setField_51 : decode cX11_setField 51 = .ok (.aload 5, 2) := by decide +kernel
theorem dX11_setField_53 : decode cX11_setField 53 = .ok (.getfield 134, 3) := by decide +kernel
theorem dX11_setField_56 : decode cX11_setField 56 = .ok (.iload_n 2, 1) := by decide +kernel
theorem dX11_setField_57 : decode cX11_setField 57 = .ok (.iload_n 2, 1) := by decide +kernel
theorem dX11_setField_58 : decode cX11_setField 58 = .ok (.lload_n 3, 1) := by decide +kernel
theorem dX11_setField_59 : decode cX11_setField 59 = .ok (.invokestatic 137, 3) := by decide +kernel
theorem dX11_setField_62 : decode cX11_setField 62 = .ok (.lastore, 1) := by decide +kernel
theorem dX11_setField_63 : decode cX11_setField 63 = .ok (.iconst 1, 1) := by decide +kernel
theorem dX11_setField_64 : decode cX11_setField 64 = .ok (.ireturn, 1) := by decide +kernel
theorem dX11_lead_0 : decode cX11_lead 0 = .ok (.iload_n 1, 1) := by decide +kernel
theorem dX11_lead_1 : decode cX11_lead 1 = .ok (.invokestatic 76, 3) := by decide +kernel
theorem dX11_lead_4 : decode cX11_lead 4 = .ok (.ifCond .eq 19, 3) := by decide +kernel
theorem dX11_lead_7 : decode cX11_lead 7 = .ok (.iload_n 3, 1) := by decide +kernel
theorem dX11_lead_8 : decode cX11_lead 8 = .ok (.invokestatic 76, 3) := by decide +kernel
theorem dX11_lead_11 : decode cX11_lead 11 = .ok (.ifCond .eq 12, 3) := by decide +kernel
theorem dX11_lead_14 : decode cX11_lead 14 = .ok (.iload_n 2, 1) := by decide +kernel
theorem dX11_lead_15 : decode cX11_lead 15 = .ok (.ifCond .lt 8, 3) := by decide +kernel
theorem dX11_lead_18 : decode cX11_lead 18 = .ok (.iload_n 2, 1) := by decide +kernel
theorem dX11_lead_19 : decode cX11_lead 19 = .ok (.iconst 1, 1) := by decide +kernel
theorem dX11_lead_20 : decode cX11_lead 20 = .ok (.if_icmp .le 6, 3) := by decide +kernel
theorem dX11_lead_23 : decode cX11_lead 23 = .ok (.bipush (-2), 2) := by decide +kernel
theorem dX11_lead_25 : decode cX11_lead 25 = .ok (.ireturn, 1) := by decide +kernel
theorem dX11_lead_26 : decode cX11_lead 26 = .ok (.aload_n 0, 1) := by decide +kernel
theorem dX11_lead_27 : decode cX11_lead 27 = .ok (.getfield 20, 3) := by decide +kernel
theorem dX11_lead_30 : decode cX11_lead 30 = .ok (.iload_n 1, 1) := by decide +kernel
theorem dX11_lead_31 : decode cX11_lead 31 = .ok (.aaload, 1) := by decide +kernel
theorem dX11_lead_32 : decode cX11_lead 32 = .ok (.astore 4, 2) := by decide +kernel
theorem dX11_lead_34 : decode cX11_lead 34 = .ok (.aload 4, 2) := by decide +kernel
theorem dX11_lead_36 : decode cX11_lead 36 = .ok (.bipush 17, 2) := by decide +kernel
theorem dX11_lead_38 : decode cX11_lead 38 = .ok (.invokestatic 164, 3) := by decide +kernel
theorem dX11_lead_41 : decode cX11_lead 41 = .ok (.ifCond .eq 26, 3) := by decide +kernel
theorem dX11_lead_44 : decode cX11_lead 44 = .ok (.aload_n 0, 1) := by decide +kernel
theorem dX11_lead_45 : decode cX11_lead 45 = .ok (.getfield 20, 3) := by decide +kernel
theorem dX11_lead_48 : decode cX11_lead 48 = .ok (.iload_n 3, 1) := by decide +kernel
theorem dX11_lead_49 : decode cX11_lead 49 = .ok (.aaload, 1) := by decide +kernel
theorem dX11_lead_50 : decode cX11_lead 50 = .ok (.iload_n 2, 1) := by decide +kernel
theorem dX11_lead_51 : decode cX11_lead 51 = .ok (.ifCond .ne 8, 3) := by decide +kernel
theorem dX11_lead_54 : decode cX11_lead 54 = .ok (.bipush 17, 2) := by decide +kernel
theorem dX11_lead_56 : decode cX11_lead 56 = .ok (.goto 5, 3) := by decide +kernel
theorem dX11_lead_59 : decode cX11_lead 59 = .ok (.bipush 16, 2) := by decide +kernel
theorem dX11_lead_61 : decode cX11_lead 61 = .ok (.invokestatic 164, 3) := by decide +kernel
theorem dX11_lead_64 : decode cX11_lead 64 = .ok (.ifCond .ne 9, 3) := by decide +kernel
theorem dX11_lead_67 : decode cX11_lead 67 = .ok (.aload_n 0, 1) := by decide +kernel
theorem dX11_lead_68 : decode cX11_lead 68 = .ok (.iconst 4, 1) := by decide +kernel
theorem dX11_lead_69 : decode cX11_lead 69 = .ok (.invokevirtual 87, 3) := by decide +kernel
theorem dX11_lead_72 : decode cX11_lead 72 = .ok (.ireturn, 1) := by decide +kernel
theorem dX11_lead_73 : decode cX11_lead 73 = .ok (.aload 4, 2) := by decide +kernel
theorem dX11_lead_75 : decode cX11_lead 75 = .ok (.ifnonnull 9, 3) := by decide +kernel
theorem dX11_lead_78 : decode cX11_lead 78 = .ok (.aload_n 0, 1) := by decide +kernel
theorem dX11_lead_79 : decode cX11_lead 79 = .ok (.iconst 1, 1) := by decide +kernel
theorem dX11_lead_80 : decode cX11_lead 80 = .ok (.invokevirtual 87, 3) := by decide +kernel
theorem dX11_lead_83 : decode cX11_lead 83 = .ok (.ireturn, 1) := by decide +kernel
theorem dX11_lead_84 : decode cX11_lead 84 = .ok (.aload 4, 2) := by decide +kernel
theorem dX11_lead_86 : decode cX11_lead 86 = .ok (.getfield 101, 3) := by decide +kernel
theorem dX11_lead_89 : decode cX11_lead 89 = .ok (.iload_n 2, 1) := by decide +kernel
theorem dX11_lead_90 : decode cX11_lead 90 = .ok (.aload_n 0, 1) := by decide +kernel
theorem dX11_lead_91 : decode cX11_lead 91 = .ok (.getfield 20, 3) := by decide +kernel
theorem dX11_lead_94 : decode cX11_lead 94 = .ok (.iload_n 3, 1) := by decide +kernel
theorem dX11_lead_95 : decode cX11_lead 95 = .ok (.aaload, 1) := by decide +kernel
theorem dX11_lead_96 : decode cX11_lead 96 = .ok (.aastore, 1) := by decide +kernel
theorem dX11_lead_97 : decode cX11_lead 97 = .ok (.iconst 1, 1) := by decide +kernel
theorem dX11_lead_98 : decode cX11_lead 98 = .ok (.ireturn, 1) := by decide +kernel
theorem dX11_follow_0 : decode cX11_follow 0 = .ok (.iload_n 1, 1) := by decide +kernel
theorem dX11_follow_1 : decode cX11_follow 1 = .ok (.invokestatic 76, 3) := by decide +kernel
theorem dX11_follow_4 : decode cX11_follow 4 = .ok (.ifCond .eq 19, 3) := by decide +kernel
theorem dX11_follow_7 : decode cX11_follow 7 = .ok (.iload_n 2, 1) := by decide +kernel
theorem dX11_follow_8 : decode cX11_follow 8 = .ok (.invokestatic 76, 3) := by decide +kernel
theorem dX11_follow_11 : decode cX11_follow 11 = .ok (.ifCond .eq 12, 3) := by decide +kernel
theorem dX11_follow_14 : decode cX11_follow 14 = .ok (.iload_n 3, 1) := by decide +kernel
theorem dX11_follow_15 : decode cX11_follow 15 = .ok (.ifCond .lt 8, 3) := by decide +kernel
theorem dX11_follow_18 : decode cX11_follow 18 = .ok (.iload_n 3, 1) := by decide +kernel
theorem dX11_follow_19 : decode cX11_follow 19 = .ok (.iconst 1, 1) := by decide +kernel
theorem dX11_follow_20 : decode cX11_follow 20 = .ok (.if_icmp .le 6, 3) := by decide +kernel
theorem dX11_follow_23 : decode cX11_follow 23 = .ok (.bipush (-2), 2) := by decide +kernel
theorem dX11_follow_25 : decode cX11_follow 25 = .ok (.ireturn, 1) := by decide +kernel
theorem dX11_follow_26 : decode cX11_follow 26 = .ok (.aload_n 0, 1) := by decide +kernel
theorem dX11_follow_27 : decode cX11_follow 27 = .ok (.getfield 20, 3) := by decide +kernel
theorem dX11_follow_30 : decode cX11_follow 30 = .ok (.iload_n 2, 1) := by decide +kernel
theorem dX11_follow_31 : decode cX11_follow 31 = .ok (.aaload, 1) := by decide +kernel
theorem dX11_follow_32 : decode cX11_follow 32 = .ok (.astore 4, 2) := by decide +kernel
theorem dX11_follow_34 : decode cX11_follow 34 = .ok (.aload 4, 2) := by decide +kernel
theorem dX11_follow_36 : decode cX11_follow 36 = .ok (.bipush 17, 2) := by decide +kernel
theorem dX11_follow_38 : decode cX11_follow 38 = .ok (.invokestatic 267, 3) := by decide +kernel
theorem dX11_follow_41 : decode cX11_follow 41 = .ok (.istore 5, 2) := by decide +kernel
theorem dX11_follow_43 : decode cX11_follow 43 = .ok (.iload 5, 2) := by decide +kernel
theorem dX11_follow_45 : decode cX11_follow 45 = .ok (.ifCond .ne 8, 3) := by decide +kernel
theorem dX11_follow_48 : decode cX11_follow 48 = .ok (.aload 4, 2) := by decide +kernel
theorem dX11_follow_50 : decode cX11_follow 50 = .ok (.ifnonnull 10, 3) := by decide +kernel
theorem dX11_follow_53 : decode cX11_follow 53 = .ok (.aload_n 0, 1) := by decide +kernel
theorem dX11_follow_54 : decode cX11_follow 54 = .ok (.iload 5, 2) := by decide +kernel
theorem dX11_follow_56 : decode cX11_follow 56 = .ok (.invokevirtual 87, 3) := by decide +kernel
theorem dX11_follow_59 : decode cX11_follow 59 = .ok (.ireturn, 1) := by decide +kernel
theorem dX11_follow_60 : decode cX11_follow 60 = .ok (.aload_n 0, 1) := by decide +kernel
theorem dX11_follow_61 : decode cX11_follow 61 = .ok (.getfield 20, 3) := by decide +kernel
theorem dX11_follow_64 : decode cX11_follow 64 = .ok (.iload_n 1, 1) := by decide +kernel
theorem dX11_follow_65 : decode cX11_follow 65 = .ok (.aload 4, 2) := by decide +kernel
theorem dX11_follow_67 : decode cX11_follow 67 = .ok (.getfield 101, 3) := by decide +kernel
theorem dX11_follow_70 : decode cX11_follow 70 = .ok (.iload_n 3, 1) := by decide +kernel
theorem dX11_follow_71 : decode cX11_follow 71 = .ok (.aaload, 1) := by decide +kernel
theorem dX11_follow_72 : decode cX11_follow 72 = .ok (.aastore, 1) := by decide +kernel
theorem dX11_follow_73 : decode cX11_follow 73 = .ok (.iconst 1, 1) := by decide +kernel
theorem dX11_follow_74 : decode cX11_follow 74 = .ok (.ireturn, 1) := by decide +kernel
theorem dX11_led_0 : decode cX11_led 0 = .ok (.iload_n 1, 1) := by decide +kernel
theorem dX11_led_1 : decode cX11_led 1 = .ok (.invokestatic 76, 3) := by decide +kernel
theorem dX11_led_4 : decode cX11_led 4 = .ok (.ifCond .eq 12, 3) := by decide +kernel
theorem dX11_led_7 : decode cX11_led 7 = .ok (.iload_n 2, 1) := by decide +kernel
theorem dX11_led_8 : decode cX11_led 8 = .ok (.ifCond .lt 8, 3) := by decide +kernel
theorem dX11_led_11 : decode cX11_led 11 = .ok (.iload_n 2, 1) := by decide +kernel
theorem dX11_led_12 : decode cX11_led 12 = .ok (.iconst 2, 1) := by decide +kernel
theorem dX11_led_13 : decode cX11_led 13 = .ok (.if_icmp .le 6, 3) := by decide +kernel
theorem dX11_led_16 : decode cX11_led 16 = .ok (.bipush (-2), 2) := by decide +kernel
theorem dX11_led_18 : decode cX11_led 18 = .ok (.ireturn, 1) := by decide +kernel
theorem dX11_led_19 : decode cX11_led 19 = .ok (.aload_n 0, 1) := by decide +kernel
theorem dX11_led_20 : decode cX11_led 20 = .ok (.getfield 20, 3) := by decide +kernel
theorem dX11_led_23 : decode cX11_led 23 = .ok (.iload_n 1, 1) := by decide +kernel
theorem dX11_led_24 : decode cX11_led 24 = .ok (.aaload, 1) := by decide +kernel
theorem dX11_led_25 : decode cX11_led 25 = .ok (.astore_n 3, 1) := by decide +kernel
theorem dX11_led_26 : decode cX11_led 26 = .ok (.aload_n 3, 1) := by decide +kernel
theorem dX11_led_27 : decode cX11_led 27 = .ok (.bipush 17, 2) := by decide +kernel
theorem dX11_led_29 : decode cX11_led 29 = .ok (.invokestatic 267, 3) := by decide +kernel
theorem dX11_led_32 : decode cX11_led 32 = .ok (.istore 4, 2) := by decide +kernel
theorem dX11_led_34 : decode cX11_led 34 = .ok (.iload 4, 2) := by decide +kernel
theorem dX11_led_36 : decode cX11_led 36 = .ok (.ifCond .ne 7, 3) := by decide +kernel
theorem dX11_led_39 : decode cX11_led 39 = .ok (.aload_n 3, 1) := by decide +kernel
theorem dX11_led_40 : decode cX11_led 40 = .ok (.ifnonnull 10, 3) := by decide +kernel
theorem dX11_led_43 : decode cX11_led 43 = .ok (.aload_n 0, 1) := by decide +kernel
theorem dX11_led_44 : decode cX11_led 44 = .ok (.iload 4, 2) := by decide +kernel
theorem dX11_led_46 : decode cX11_led 46 = .ok (.invokevirtual 87, 3) := by decide +kernel
theorem dX11_led_49 : decode cX11_led 49 = .ok (.ireturn, 1) := by decide +kernel
theorem dX11_led_50 : decode cX11_led 50 = .ok (.aload_n 0, 1) := by decide +kernel
theorem dX11_led_51 : decode cX11_led 51 = .ok (.dup, 1) := by decide +kernel
theorem dX11_led_52 : decode cX11_led 52 = .ok (.getfield 270, 3) := by decide +kernel
theorem dX11_led_55 : decode cX11_led 55 = .ok (.iconst 1, 1) := by decide +kernel
theorem dX11_led_56 : decode cX11_led 56 = .ok (.iadd, 1) := by decide +kernel
theorem dX11_led_57 : decode cX11_led 57 = .ok (.putfield 270, 3) := by decide +kernel
theorem dX11_led_60 : decode cX11_led 60 = .ok (.aload_n 3, 1) := by decide +kernel
theorem dX11_led_61 : decode cX11_led 61 = .ok (.astore 5, 2) := by decide +kernel
theorem dX11_led_63 : decode cX11_led 63 = .ok (.aload_n 3, 1) := by decide +kernel
theorem dX11_led_64 : decode cX11_led 64 = .ok (.astore 6, 2) := by decide +kernel
theorem dX11_led_66 : decode cX11_led 66 = .ok (.iconst 0, 1) := by decide +kernel
theorem dX11_led_67 : decode cX11_led 67 = .ok (.istore 7, 2) := by decide +kernel
theorem dX11_led_69 : decode cX11_led 69 = .ok (.iload 7, 2) := by decide +kernel
theorem dX11_led_71 : decode cX11_led 71 = .ok (.ldc_w 273, 3) := by decide +kernel
theorem dX11_led_74 : decode cX11_led 74 = .ok (.if_icmp .ge 48, 3) := by decide +kernel
theorem dX11_led_77 : decode cX11_led 77 = .ok (.aload 6, 2) := by decide +kernel
theorem dX11_led_79 : decode cX11_led 79 = .ok (.ifnull 43, 3) := by decide +kernel
theorem dX11_led_82 : decode cX11_led 82 = .ok (.aload 6, 2) := by decide +kernel
theorem dX11_led_84 : decode cX11_led 84 = .ok (.getfield 274, 3) := by decide +kernel
theorem dX11_led_87 : decode cX11_led 87 = .ok (.aload_n 0, 1) := by decide +kernel
theorem dX11_led_88 : decode cX11_led 88 = .ok (.getfield 270, 3) := by decide +kernel
theorem dX11_led_91 : decode cX11_led 91 = .ok (.if_icmp .eq 31, 3) := by decide +kernel
theorem dX11_led_94 : decode cX11_led 94 = .ok (.aload 6, 2) := by decide +kernel
theorem dX11_led_96 : decode cX11_led 96 = .ok (.aload_n 0, 1) := by decide +kernel
theorem dX11_led_97 : decode cX11_led 97 = .ok (.getfield 270, 3) := by decide +kernel
theorem dX11_led_100 : decode cX11_led 100 = .ok (.putfield 274, 3) := by decide +kernel
theorem dX11_led_103 : decode cX11_led 103 = .ok (.aload 6, 2) := by decide +kernel
theorem dX11_led_105 : decode cX11_led 105 = .ok (.astore 5, 2) := by decide +kernel
theorem dX11_led_107 : decode cX11_led 107 = .ok (.aload 6, 2) := by decide +kernel
theorem dX11_led_109 : decode cX11_led 109 = .ok (.getfield 101, 3) := by decide +kernel
theorem dX11_led_112 : decode cX11_led 112 = .ok (.iconst 0, 1) := by decide +kernel
theorem dX11_led_113 : decode cX11_led 113 = .ok (.aaload, 1) := by decide +kernel
theorem dX11_led_114 : decode cX11_led 114 = .ok (.astore 6, 2) := by decide +kernel
theorem dX11_led_116 : decode cX11_led 116 = .ok (.iinc 7 1, 3) := by decide +kernel
theorem dX11_led_119 : decode cX11_led 119 = .ok (.goto (-50), 3) := by decide +kernel
theorem dX11_led_122 : decode cX11_led 122 = .ok (.iload_n 2, 1) := by decide +kernel
theorem dX11_led_123 : decode cX11_led 123 = .ok (.ifCond .ne 6, 3) := by decide +kernel
theorem dX11_led_126 : decode cX11_led 126 = .ok (.iload 7, 2) := by decide +kernel
theorem dX11_led_128 : decode cX11_led 128 = .ok (.ireturn, 1) := by decide +kernel
theorem dX11_led_129 : decode cX11_led 129 = .ok (.iload_n 2, 1) := by decide +kernel
theorem dX11_led_130 : decode cX11_led 130 = .ok (.iconst 2, 1) := by decide +kernel
theorem dX11_led_131 : decode cX11_led 131 = .ok (.if_icmp .ne 9, 3) := by decide +kernel
theorem dX11_led_134 : decode cX11_led 134 = .ok (.aload 5, 2) := by decide +kernel
theorem dX11_led_136 : decode cX11_led 136 = .ok (.getfield 240, 3) := by decide +kernel
theorem dX11_led_139 : decode cX11_led 139 = .ok (.ireturn, 1) := by decide +kernel
theorem dX11_led_140 : decode cX11_led 140 = .ok (.aload 6, 2) := by decide +kernel
theorem dX11_led_142 : decode cX11_led 142 = .ok (.ifnonnull 7, 3) := by decide +kernel
theorem dX11_led_145 : decode cX11_led 145 = .ok (.iconst (-1), 1) := by decide +kernel
theorem dX11_led_146 : decode cX11_led 146 = .ok (.goto 8, 3) := by decide +kernel
theorem dX11_led_149 : decode cX11_led 149 = .ok (.aload 6, 2) := by decide +kernel
theorem dX11_led_151 : decode cX11_led 151 = .ok (.getfield 240, 3) := by decide +kernel
theorem dX11_led_154 : decode cX11_led 154 = .ok (.ireturn, 1) := by decide +kernel
theorem dX11_step_0 : decode cX11_step 0 = .ok (.iload_n 1, 1) := by decide +kernel
theorem dX11_step_1 : decode cX11_step 1 = .ok (.invokestatic 277, 3) := by decide +kernel
theorem dX11_step_4 : decode cX11_step 4 = .ok (.ifCond .eq 13, 3) := by decide +kernel
theorem dX11_step_7 : decode cX11_step 7 = .ok (.iload_n 2, 1) := by decide +kernel
theorem dX11_step_8 : decode cX11_step 8 = .ok (.ifCond .lt 9, 3) := by decide +kernel
theorem dX11_step_11 : decode cX11_step 11 = .ok (.iload_n 2, 1) := by decide +kernel
theorem dX11_step_12 : decode cX11_step 12 = .ok (.bipush 20, 2) := by decide +kernel
theorem dX11_step_14 : decode cX11_step 14 = .ok (.if_icmp .le 6, 3) := by decide +kernel
theorem dX11_step_17 : decode cX11_step 17 = .ok (.bipush (-2), 2) := by decide +kernel
theorem dX11_step_19 : decode cX11_step 19 = .ok (.ireturn, 1) := by decide +kernel
theorem dX11_step_20 : decode cX11_step 20 = .ok (.aload_n 0, 1) := by decide +kernel
theorem dX11_step_21 : decode cX11_step 21 = .ok (.getfield 30, 3) := by decide +kernel
theorem dX11_step_24 : decode cX11_step 24 = .ok (.iload_n 1, 1) := by decide +kernel
theorem dX11_step_25 : decode cX11_step 25 = .ok (.iload_n 2, 1) := by decide +kernel
theorem dX11_step_26 : decode cX11_step 26 = .ok (.iload_n 3, 1) := by decide +kernel
theorem dX11_step_27 : decode cX11_step 27 = .ok (.iload 4, 2) := by decide +kernel
theorem dX11_step_29 : decode cX11_step 29 = .ok (.iload 5, 2) := by decide +kernel
theorem dX11_step_31 : decode cX11_step 31 = .ok (.invokevirtual 280, 3) := by decide +kernel
theorem dX11_step_34 : decode cX11_step 34 = .ok (.ireturn, 1) := by decide +kernel
theorem dX11_drop_0 : decode cX11_drop 0 = .ok (.iload_n 1, 1) := by decide +kernel
theorem dX11_drop_1 : decode cX11_drop 1 = .ok (.invokestatic 277, 3) := by decide +kernel
theorem dX11_drop_4 : decode cX11_drop 4 = .ok (.ifCond .eq 14, 3) := by decide +kernel
theorem dX11_drop_7 : decode cX11_drop 7 = .ok (.aload_n 0, 1) := by decide +kernel
theorem dX11_drop_8 : decode cX11_drop 8 = .ok (.getfield 30, 3) := by decide +kernel
theorem dX11_drop_11 : decode cX11_drop 11 = .ok (.iload_n 1, 1) := by decide +kernel
theorem dX11_drop_12 : decode cX11_drop 12 = .ok (.invokevirtual 286, 3) := by decide +kernel
theorem dX11_drop_15 : decode cX11_drop 15 = .ok (.goto 5, 3) := by decide +kernel
theorem dX11_drop_18 : decode cX11_drop 18 = .ok (.bipush (-2), 2) := by decide +kernel
theorem dX11_drop_20 : decode cX11_drop 20 = .ok (.ireturn, 1) := by decide +kernel
theorem dX11_formed_0 : decode cX11_formed 0 = .ok (.iload_n 1, 1) := by decide +kernel
theorem dX11_formed_1 : decode cX11_formed 1 = .ok (.invokestatic 277, 3) := by decide +kernel
theorem dX11_formed_4 : decode cX11_formed 4 = .ok (.ifCond .eq 14, 3) := by decide +kernel
theorem dX11_formed_7 : decode cX11_formed 7 = .ok (.aload_n 0, 1) := by decide +kernel
theorem dX11_formed_8 : decode cX11_formed 8 = .ok (.getfield 30, 3) := by decide +kernel
theorem dX11_formed_11 : decode cX11_formed 11 = .ok (.iload_n 1, 1) := by decide +kernel
theorem dX11_formed_12 : decode cX11_formed 12 = .ok (.invokevirtual 289, 3) := by decide +kernel
theorem dX11_formed_15 : decode cX11_formed 15 = .ok (.goto 4, 3) := by decide +kernel
theorem dX11_formed_18 : decode cX11_formed 18 = .ok (.iconst 0, 1) := by decide +kernel
theorem dX11_formed_19 : decode cX11_formed 19 = .ok (.ireturn, 1) := by decide +kernel
theorem dX11_run_0 : decode cX11_run 0 = .ok (.iload_n 1, 1) := by decide +kernel
theorem dX11_run_1 : decode cX11_run 1 = .ok (.invokestatic 277, 3) := by decide +kernel
theorem dX11_run_4 : decode cX11_run 4 = .ok (.ifCond .ne 6, 3) := by decide +kernel
theorem dX11_run_7 : decode cX11_run 7 = .ok (.bipush (-2), 2) := by decide +kernel
theorem dX11_run_9 : decode cX11_run 9 = .ok (.ireturn, 1) := by decide +kernel
theorem dX11_run_10 : decode cX11_run 10 = .ok (.aload_n 0, 1) := by decide +kernel
theorem dX11_run_11 : decode cX11_run 11 = .ok (.getfield 30, 3) := by decide +kernel
theorem dX11_run_14 : decode cX11_run 14 = .ok (.iload_n 1, 1) := by decide +kernel
theorem dX11_run_15 : decode cX11_run 15 = .ok (.invokevirtual 289, 3) := by decide +kernel
theorem dX11_run_18 : decode cX11_run 18 = .ok (.iconst (-1), 1) := by decide +kernel
theorem dX11_run_19 : decode cX11_run 19 = .ok (.if_icmp .eq 6, 3) := by decide +kernel
theorem dX11_run_22 : decode cX11_run 22 = .ok (.bipush (-3), 2) := by decide +kernel
theorem dX11_run_24 : decode cX11_run 24 = .ok (.ireturn, 1) := by decide +kernel
theorem dX11_run_25 : decode cX11_run 25 = .ok (.aload_n 0, 1) := by decide +kernel
theorem dX11_run_26 : decode cX11_run 26 = .ok (.invokevirtual 83, 3) := by decide +kernel
theorem dX11_run_29 : decode cX11_run 29 = .ok (.ifCond .eq 6, 3) := by decide +kernel
theorem dX11_run_32 : decode cX11_run 32 = .ok (.bipush (-4), 2) := by decide +kernel
theorem dX11_run_34 : decode cX11_run 34 = .ok (.ireturn, 1) := by decide +kernel
theorem dX11_run_35 : decode cX11_run 35 = .ok (.aload_n 0, 1) := by decide +kernel
theorem dX11_run_36 : decode cX11_run 36 = .ok (.getfield 10, 3) := by decide +kernel
theorem dX11_run_39 : decode cX11_run 39 = .ok (.iload_n 1, 1) := by decide +kernel
theorem dX11_run_40 : decode cX11_run 40 = .ok (.invokevirtual 292, 3) := by decide +kernel
theorem dX11_run_43 : decode cX11_run 43 = .ok (.istore_n 2, 1) := by decide +kernel
theorem dX11_run_44 : decode cX11_run 44 = .ok (.aload_n 0, 1) := by decide +kernel
theorem dX11_run_45 : decode cX11_run 45 = .ok (.dup, 1) := by decide +kernel
theorem dX11_run_46 : decode cX11_run 46 = .ok (.getfield 295, 3) := by decide +kernel
theorem dX11_run_49 : decode cX11_run 49 = .ok (.aload_n 0, 1) := by decide +kernel
theorem dX11_run_50 : decode cX11_run 50 = .ok (.getfield 10, 3) := by decide +kernel
theorem dX11_run_53 : decode cX11_run 53 = .ok (.bipush 8, 2) := by decide +kernel
theorem dX11_run_55 : decode cX11_run 55 = .ok (.invokevirtual 298, 3) := by decide +kernel
theorem dX11_run_58 : decode cX11_run 58 = .ok (.iadd, 1) := by decide +kernel
theorem dX11_run_59 : decode cX11_run 59 = .ok (.putfield 295, 3) := by decide +kernel
theorem dX11_run_62 : decode cX11_run 62 = .ok (.aload_n 0, 1) := by decide +kernel
theorem dX11_run_63 : decode cX11_run 63 = .ok (.getfield 10, 3) := by decide +kernel
theorem dX11_run_66 : decode cX11_run 66 = .ok (.invokevirtual 301, 3) := by decide +kernel
theorem dX11_run_69 : decode cX11_run 69 = .ok (.ifCond .eq 14, 3) := by decide +kernel
theorem dX11_run_72 : decode cX11_run 72 = .ok (.aload_n 0, 1) := by decide +kernel
theorem dX11_run_73 : decode cX11_run 73 = .ok (.aload_n 0, 1) := by decide +kernel
theorem dX11_run_74 : decode cX11_run 74 = .ok (.getfield 10, 3) := by decide +kernel
theorem dX11_run_77 : decode cX11_run 77 = .ok (.invokevirtual 301, 3) := by decide +kernel
theorem dX11_run_80 : decode cX11_run 80 = .ok (.putfield 304, 3) := by decide +kernel
theorem dX11_run_83 : decode cX11_run 83 = .ok (.iload_n 2, 1) := by decide +kernel
theorem dX11_run_84 : decode cX11_run 84 = .ok (.ireturn, 1) := by decide +kernel
theorem dX11_ran_0 : decode cX11_ran 0 = .ok (.iload_n 1, 1) := by decide +kernel
theorem dX11_ran_1 : decode cX11_ran 1 = .ok (.ifCond .lt 9, 3) := by decide +kernel
theorem dX11_ran_4 : decode cX11_ran 4 = .ok (.iload_n 1, 1) := by decide +kernel
theorem dX11_ran_5 : decode cX11_ran 5 = .ok (.bipush 8, 2) := by decide +kernel
theorem dX11_ran_7 : decode cX11_ran 7 = .ok (.if_icmp .le 6, 3) := by decide +kernel
theorem dX11_ran_10 : decode cX11_ran 10 = .ok (.bipush (-2), 2) := by decide +kernel
theorem dX11_ran_12 : decode cX11_ran 12 = .ok (.ireturn, 1) := by decide +kernel
theorem dX11_ran_13 : decode cX11_ran 13 = .ok (.aload_n 0, 1) := by decide +kernel
theorem dX11_ran_14 : decode cX11_ran 14 = .ok (.getfield 10, 3) := by decide +kernel
theorem dX11_ran_17 : decode cX11_ran 17 = .ok (.iload_n 1, 1) := by decide +kernel
theorem dX11_ran_18 : decode cX11_ran 18 = .ok (.invokevirtual 298, 3) := by decide +kernel
theorem dX11_ran_21 : decode cX11_ran 21 = .ok (.ireturn, 1) := by decide +kernel
theorem dX11_stock_0 : decode cX11_stock 0 = .ok (.iload_n 1, 1) := by decide +kernel
theorem dX11_stock_1 : decode cX11_stock 1 = .ok (.invokestatic 307, 3) := by decide +kernel
theorem dX11_stock_4 : decode cX11_stock 4 = .ok (.ifCond .eq 15, 3) := by decide +kernel
theorem dX11_stock_7 : decode cX11_stock 7 = .ok (.aload_n 0, 1) := by decide +kernel
theorem dX11_stock_8 : decode cX11_stock 8 = .ok (.getfield 35, 3) := by decide +kernel
theorem dX11_stock_11 : decode cX11_stock 11 = .ok (.getfield 310, 3) := by decide +kernel
theorem dX11_stock_14 : decode cX11_stock 14 = .ok (.iload_n 1, 1) := by decide +kernel
theorem dX11_stock_15 : decode cX11_stock 15 = .ok (.laload, 1) := by decide +kernel
theorem dX11_stock_16 : decode cX11_stock 16 = .ok (.goto 4, 3) := by decide +kernel
theorem dX11_stock_19 : decode cX11_stock 19 = .ok (.lconst 0, 1) := by decide +kernel
theorem dX11_stock_20 : decode cX11_stock 20 = .ok (.lreturn, 1) := by decide +kernel
theorem dX11_setStock_0 : decode cX11_setStock 0 = .ok (.iload_n 1, 1) := by decide +kernel
theorem dX11_setStock_1 : decode cX11_setStock 1 = .ok (.invokestatic 307, 3) := by decide +kernel
theorem dX11_setStock_4 : decode cX11_setStock 4 = .ok (.ifCond .ne 6, 3) := by decide +kernel
theorem dX11_setStock_7 : decode cX11_setStock 7 = .ok (.bipush (-2), 2) := by decide +kernel
theorem dX11_setStock_9 : decode cX11_setStock 9 = .ok (.ireturn, 1) := by decide +kernel
theorem dX11_setStock_10 : decode cX11_setStock 10 = .ok (.aload_n 0, 1) := by decide +kernel
theorem dX11_setStock_11 : decode cX11_setStock 11 = .ok (.getfield 35, 3) := by decide +kernel
theorem dX11_setStock_14 : decode cX11_setStock 14 = .ok (.getfield 310, 3) := by decide +kernel
theorem dX11_setStock_17 : decode cX11_setStock 17 = .ok (.iload_n 1, 1) := by decide +kernel
theorem dX11_setStock_18 : decode cX11_setStock 18 = .ok (.lload_n 2, 1) := by decide +kernel
theorem dX11_setStock_19 : decode cX11_setStock 19 = .ok (.lastore, 1) := by decide +kernel
theorem dX11_setStock_20 : decode cX11_setStock 20 = .ok (.iconst 1, 1) := by decide +kernel
theorem dX11_setStock_21 : decode cX11_setStock 21 = .ok (.ireturn, 1) := by decide +kernel
theorem dX11_valve_0 : decode cX11_valve 0 = .ok (.iload_n 1, 1) := by decide +kernel
theorem dX11_valve_1 : decode cX11_valve 1 = .ok (.invokestatic 315, 3) := by decide +kernel
theorem dX11_valve_4 : decode cX11_valve 4 = .ok (.ifCond .eq 12, 3) := by decide +kernel
theorem dX11_valve_7 : decode cX11_valve 7 = .ok (.iload_n 2, 1) := by decide +kernel
theorem dX11_valve_8 : decode cX11_valve 8 = .ok (.ifCond .lt 8, 3) := by decide +kernel
theorem dX11_valve_11 : decode cX11_valve 11 = .ok (.iload_n 2, 1) := by decide +kernel
theorem dX11_valve_12 : decode cX11_valve 12 = .ok (.iconst 1, 1) := by decide +kernel
theorem dX11_valve_13 : decode cX11_valve 13 = .ok (.if_icmp .le 5, 3) := by decide +kernel
theorem dX11_valve_16 : decode cX11_valve 16 = .ok (.iconst 0, 1) := by decide +kernel
theorem dX11_valve_17 : decode cX11_valve 17 = .ok (.ireturn, 1) := by decide +kernel
theorem dX11_valve_18 : decode cX11_valve 18 = .ok (.iload_n 2, 1) := by decide +kernel
theorem dX11_valve_19 : decode cX11_valve 19 = .ok (.ifCond .ne 15, 3) := by decide +kernel
theorem dX11_valve_22 : decode cX11_valve 22 = .ok (.aload_n 0, 1) := by decide +kernel
theorem dX11_valve_23 : decode cX11_valve 23 = .ok (.getfield 35, 3) := by decide +kernel
theorem dX11_valve_26 : decode cX11_valve 26 = .ok (.getfield 318, 3) := by decide +kernel
theorem dX11_valve_29 : decode cX11_valve 29 = .ok (.iload_n 1, 1) := by decide +kernel
theorem dX11_valve_30 : decode cX11_valve 30 = .ok (.iaload, 1) := by decide +kernel
theorem dX11_valve_31 : decode cX11_valve 31 = .ok (.goto 12, 3) := by decide +kernel
theorem dX11_valve_34 : decode cX11_valve 34 = .ok (.aload_n 0, 1) := by decide +kernel
theorem dX11_valve_35 : decode cX11_valve 35 = .ok (.getfield 35, 3) := by decide +kernel
theorem dX11_valve_38 : decode cX11_valve 38 = .ok (.getfield 322, 3) := by decide +kernel
theorem dX11_valve_41 : decode cX11_valve 41 = .ok (.iload_n 1, 1) := by decide +kernel
theorem dX11_valve_42 : decode cX11_valve 42 = .ok (.iaload, 1) := by decide +kernel
theorem dX11_valve_43 : decode cX11_valve 43 = .ok (.ireturn, 1) := by decide +kernel
theorem dX11_line_0 : decode cX11_line 0 = .ok (.iload_n 1, 1) := by decide +kernel
theorem dX11_line_1 : decode cX11_line 1 = .ok (.invokestatic 325, 3) := by decide +kernel
theorem dX11_line_4 : decode cX11_line 4 = .ok (.ifCond .ne 6, 3) := by decide +kernel
theorem dX11_line_7 : decode cX11_line 7 = .ok (.bipush (-2), 2) := by decide +kernel
theorem dX11_line_9 : decode cX11_line 9 = .ok (.ireturn, 1) := by decide +kernel
theorem dX11_line_10 : decode cX11_line 10 = .ok (.aload_n 0, 1) := by decide +kernel
theorem dX11_line_11 : decode cX11_line 11 = .ok (.getfield 47, 3) := by decide +kernel
theorem dX11_line_14 : decode cX11_line 14 = .ok (.iload_n 1, 1) := by decide +kernel
theorem dX11_line_15 : decode cX11_line 15 = .ok (.iload_n 2, 1) := by decide +kernel
theorem dX11_line_16 : decode cX11_line 16 = .ok (.iload_n 3, 1) := by decide +kernel
theorem dX11_line_17 : decode cX11_line 17 = .ok (.invokevirtual 328, 3) := by decide +kernel
theorem dX11_line_20 : decode cX11_line 20 = .ok (.ireturn, 1) := by decide +kernel
theorem dX11_rest_0 : decode cX11_rest 0 = .ok (.iload_n 1, 1) := by decide +kernel
theorem dX11_rest_1 : decode cX11_rest 1 = .ok (.invokestatic 325, 3) := by decide +kernel
theorem dX11_rest_4 : decode cX11_rest 4 = .ok (.ifCond .eq 15, 3) := by decide +kernel
theorem dX11_rest_7 : decode cX11_rest 7 = .ok (.iload_n 2, 1) := by decide +kernel
theorem dX11_rest_8 : decode cX11_rest 8 = .ok (.iconst (-1), 1) := by decide +kernel
theorem dX11_rest_9 : decode cX11_rest 9 = .ok (.if_icmp .eq 13, 3) := by decide +kernel
theorem dX11_rest_12 : decode cX11_rest 12 = .ok (.iload_n 2, 1) := by decide +kernel
theorem dX11_rest_13 : decode cX11_rest 13 = .ok (.invokestatic 325, 3) := by decide +kernel
theorem dX11_rest_16 : decode cX11_rest 16 = .ok (.ifCond .ne 6, 3) := by decide +kernel
theorem dX11_rest_19 : decode cX11_rest 19 = .ok (.bipush (-2), 2) := by decide +kernel
theorem dX11_rest_21 : decode cX11_rest 21 = .ok (.ireturn, 1) := by decide +kernel
theorem dX11_rest_22 : decode cX11_rest 22 = .ok (.aload_n 0, 1) := by decide +kernel
theorem dX11_rest_23 : decode cX11_rest 23 = .ok (.getfield 47, 3) := by decide +kernel
theorem dX11_rest_26 : decode cX11_rest 26 = .ok (.iload_n 1, 1) := by decide +kernel
theorem dX11_rest_27 : decode cX11_rest 27 = .ok (.iload_n 2, 1) := by decide +kernel
theorem dX11_rest_28 : decode cX11_rest 28 = .ok (.invokevirtual 333, 3) := by decide +kernel
theorem dX11_rest_31 : decode cX11_rest 31 = .ok (.ireturn, 1) := by decide +kernel
theorem dX11_value_0 : decode cX11_value 0 = .ok (.iload_n 1, 1) := by decide +kernel
theorem dX11_value_1 : decode cX11_value 1 = .ok (.invokestatic 325, 3) := by decide +kernel
theorem dX11_value_4 : decode cX11_value 4 = .ok (.ifCond .eq 15, 3) := by decide +kernel
theorem dX11_value_7 : decode cX11_value 7 = .ok (.aload_n 0, 1) := by decide +kernel
theorem dX11_value_8 : decode cX11_value 8 = .ok (.getfield 47, 3) := by decide +kernel
theorem dX11_value_11 : decode cX11_value 11 = .ok (.iload_n 1, 1) := by decide +kernel
theorem dX11_value_12 : decode cX11_value 12 = .ok (.iload_n 2, 1) := by decide +kernel
theorem dX11_value_13 : decode cX11_value 13 = .ok (.invokevirtual 336, 3) := by decide +kernel
theorem dX11_value_16 : decode cX11_value 16 = .ok (.goto 4, 3) := by decide +kernel
theorem dX11_value_19 : decode cX11_value 19 = .ok (.iconst 0, 1) := by decide +kernel
theorem dX11_value_20 : decode cX11_value 20 = .ok (.ireturn, 1) := by decide +kernel
theorem dX11_laid_0 : decode cX11_laid 0 = .ok (.aload_n 0, 1) := by decide +kernel
theorem dX11_laid_1 : decode cX11_laid 1 = .ok (.getfield 47, 3) := by decide +kernel
theorem dX11_laid_4 : decode cX11_laid 4 = .ok (.iload_n 1, 1) := by decide +kernel
theorem dX11_laid_5 : decode cX11_laid 5 = .ok (.invokevirtual 339, 3) := by decide +kernel
theorem dX11_laid_8 : decode cX11_laid 8 = .ok (.ireturn, 1) := by decide +kernel
theorem dX11_read_0 : decode cX11_read 0 = .ok (.iload_n 1, 1) := by decide +kernel
theorem dX11_read_1 : decode cX11_read 1 = .ok (.invokestatic 342, 3) := by decide +kernel
theorem dX11_read_4 : decode cX11_read 4 = .ok (.ifCond .ne 6, 3) := by decide +kernel
theorem dX11_read_7 : decode cX11_read 7 = .ok (.bipush (-2), 2) := by decide +kernel
theorem dX11_read_9 : decode cX11_read 9 = .ok (.ireturn, 1) := by decide +kernel
theorem dX11_read_10 : decode cX11_read 10 = .ok (.aload_n 0, 1) := by decide +kernel
theorem dX11_read_11 : decode cX11_read 11 = .ok (.getfield 39, 3) := by decide +kernel
theorem dX11_read_14 : decode cX11_read 14 = .ok (.iload_n 1, 1) := by decide +kernel
theorem dX11_read_15 : decode cX11_read 15 = .ok (.bipush 7, 2) := by decide +kernel
theorem dX11_read_17 : decode cX11_read 17 = .ok (.lload_n 2, 1) := by decide +kernel
theorem dX11_read_18 : decode cX11_read 18 = .ok (.invokestatic 137, 3) := by decide +kernel
theorem dX11_read_21 : decode cX11_read 21 = .ok (.invokevirtual 345, 3) := by decide +kernel
theorem dX11_read_24 : decode cX11_read 24 = .ok (.iconst 1, 1) := by decide +kernel
theorem dX11_read_25 : decode cX11_read 25 = .ok (.ireturn, 1) := by decide +kernel
theorem dX11_part_0 : decode cX11_part 0 = .ok (.lload_n 1, 1) := by decide +kernel
theorem dX11_part_1 : decode cX11_part 1 = .ok (.invokestatic 349, 3) := by decide +kernel
theorem dX11_part_4 : decode cX11_part 4 = .ok (.ifCond .eq 12, 3) := by decide +kernel
theorem dX11_part_7 : decode cX11_part 7 = .ok (.lload_n 1, 1) := by decide +kernel
theorem dX11_part_8 : decode cX11_part 8 = .ok (.invokestatic 353, 3) := by decide +kernel
theorem dX11_part_11 : decode cX11_part 11 = .ok (.dconst 0, 1) := by decide +kernel
theorem dX11_part_12 : decode cX11_part 12 = .ok (.dcmp .g, 1) := by decide +kernel
theorem dX11_part_13 : decode cX11_part 13 = .ok (.ifCond .ge 6, 3) := by decide +kernel
theorem dX11_part_16 : decode cX11_part 16 = .ok (.bipush (-2), 2) := by decide +kernel
theorem dX11_part_18 : decode cX11_part 18 = .ok (.ireturn, 1) := by decide +kernel
theorem dX11_part_19 : decode cX11_part 19 = .ok (.aload_n 0, 1) := by decide +kernel
theorem dX11_part_20 : decode cX11_part 20 = .ok (.getfield 39, 3) := by decide +kernel
theorem dX11_part_23 : decode cX11_part 23 = .ok (.lload_n 1, 1) := by decide +kernel
theorem dX11_part_24 : decode cX11_part 24 = .ok (.invokestatic 353, 3) := by decide +kernel
theorem dX11_part_27 : decode cX11_part 27 = .ok (.putfield 357, 3) := by decide +kernel
theorem dX11_part_30 : decode cX11_part 30 = .ok (.iconst 1, 1) := by decide +kernel
theorem dX11_part_31 : decode cX11_part 31 = .ok (.ireturn, 1) := by decide +kernel
theorem dX11_probe_0 : decode cX11_probe 0 = .ok (.iload_n 1, 1) := by decide +kernel
theorem dX11_probe_1 : decode cX11_probe 1 = .ok (.invokestatic 342, 3) := by decide +kernel
theorem dX11_probe_4 : decode cX11_probe 4 = .ok (.ifCond .eq 12, 3) := by decide +kernel
theorem dX11_probe_7 : decode cX11_probe 7 = .ok (.iload_n 2, 1) := by decide +kernel
theorem dX11_probe_8 : decode cX11_probe 8 = .ok (.ifCond .lt 8, 3) := by decide +kernel
theorem dX11_probe_11 : decode cX11_probe 11 = .ok (.iload_n 2, 1) := by decide +kernel
theorem dX11_probe_12 : decode cX11_probe 12 = .ok (.iconst 4, 1) := by decide +kernel
theorem dX11_probe_13 : decode cX11_probe 13 = .ok (.if_icmp .le 6, 3) := by decide +kernel
theorem dX11_probe_16 : decode cX11_probe 16 = .ok (.bipush (-2), 2) := by decide +kernel
theorem dX11_probe_18 : decode cX11_probe 18 = .ok (.ireturn, 1) := by decide +kernel
theorem dX11_probe_19 : decode cX11_probe 19 = .ok (.aload_n 0, 1) := by decide +kernel
theorem dX11_probe_20 : decode cX11_probe 20 = .ok (.getfield 39, 3) := by decide +kernel
theorem dX11_probe_23 : decode cX11_probe 23 = .ok (.getfield 361, 3) := by decide +kernel
theorem dX11_probe_26 : decode cX11_probe 26 = .ok (.iload_n 1, 1) := by decide +kernel
theorem dX11_probe_27 : decode cX11_probe 27 = .ok (.aaload, 1) := by decide +kernel
theorem dX11_probe_28 : decode cX11_probe 28 = .ok (.iload_n 2, 1) := by decide +kernel
theorem dX11_probe_29 : decode cX11_probe 29 = .ok (.iaload, 1) := by decide +kernel
theorem dX11_probe_30 : decode cX11_probe 30 = .ok (.ireturn, 1) := by decide +kernel
theorem dX11_voted_0 : decode cX11_voted 0 = .ok (.iload_n 1, 1) := by decide +kernel
theorem dX11_voted_1 : decode cX11_voted 1 = .ok (.invokestatic 365, 3) := by decide +kernel
theorem dX11_voted_4 : decode cX11_voted 4 = .ok (.ifCond .eq 15, 3) := by decide +kernel
theorem dX11_voted_7 : decode cX11_voted 7 = .ok (.aload_n 0, 1) := by decide +kernel
theorem dX11_voted_8 : decode cX11_voted 8 = .ok (.getfield 39, 3) := by decide +kernel
theorem dX11_voted_11 : decode cX11_voted 11 = .ok (.getfield 368, 3) := by decide +kernel
theorem dX11_voted_14 : decode cX11_voted 14 = .ok (.iload_n 1, 1) := by decide +kernel
theorem dX11_voted_15 : decode cX11_voted 15 = .ok (.laload, 1) := by decide +kernel
theorem dX11_voted_16 : decode cX11_voted 16 = .ok (.goto 4, 3) := by decide +kernel
theorem dX11_voted_19 : decode cX11_voted 19 = .ok (.lconst 0, 1) := by decide +kernel
theorem dX11_voted_20 : decode cX11_voted 20 = .ok (.lreturn, 1) := by decide +kernel
theorem dX11_weather_0 : decode cX11_weather 0 = .ok (.aload_n 0, 1) := by decide +kernel
theorem dX11_weather_1 : decode cX11_weather 1 = .ok (.getfield 39, 3) := by decide +kernel
theorem dX11_weather_4 : decode cX11_weather 4 = .ok (.iload_n 1, 1) := by decide +kernel
theorem dX11_weather_5 : decode cX11_weather 5 = .ok (.iload_n 2, 1) := by decide +kernel
theorem dX11_weather_6 : decode cX11_weather 6 = .ok (.invokevirtual 371, 3) := by decide +kernel
theorem dX11_weather_9 : decode cX11_weather 9 = .ok (.ireturn, 1) := by decide +kernel
theorem dX11_mark_0 : decode cX11_mark 0 = .ok (.iload_n 1, 1) := by decide +kernel
theorem dX11_mark_1 : decode cX11_mark 1 = .ok (.invokestatic 365, 3) := by decide +kernel
theorem dX11_mark_4 : decode cX11_mark 4 = .ok (.ifCond .eq 16, 3) := by decide +kernel
theorem dX11_mark_7 : decode cX11_mark 7 = .ok (.aload_n 0, 1) := by decide +kernel
theorem dX11_mark_8 : decode cX11_mark 8 = .ok (.getfield 39, 3) := by decide +kernel
theorem dX11_mark_11 : decode cX11_mark 11 = .ok (.iload_n 1, 1) := by decide +kernel
theorem dX11_mark_12 : decode cX11_mark 12 = .ok (.iload_n 2, 1) := by decide +kernel
theorem dX11_mark_13 : decode cX11_mark 13 = .ok (.iload_n 3, 1) := by decide +kernel
theorem dX11_mark_14 : decode cX11_mark 14 = .ok (.invokevirtual 374, 3) := by decide +kernel
theorem dX11_mark_17 : decode cX11_mark 17 = .ok (.goto 5, 3) := by decide +kernel
theorem dX11_mark_20 : decode cX11_mark 20 = .ok (.bipush (-2), 2) := by decide +kernel
theorem dX11_mark_22 : decode cX11_mark 22 = .ok (.ireturn, 1) := by decide +kernel
theorem dX11_unmark_0 : decode cX11_unmark 0 = .ok (.iload_n 1, 1) := by decide +kernel
theorem dX11_unmark_1 : decode cX11_unmark 1 = .ok (.invokestatic 365, 3) := by decide +kernel
theorem dX11_unmark_4 : decode cX11_unmark 4 = .ok (.ifCond .eq 14, 3) := by decide +kernel
theorem dX11_unmark_7 : decode cX11_unmark 7 = .ok (.aload_n 0, 1) := by decide +kernel
theorem dX11_unmark_8 : decode cX11_unmark 8 = .ok (.getfield 39, 3) := by decide +kernel
theorem dX11_unmark_11 : decode cX11_unmark 11 = .ok (.iload_n 1, 1) := by decide +kernel
theorem dX11_unmark_12 : decode cX11_unmark 12 = .ok (.invokevirtual 377, 3) := by decide +kernel
theorem dX11_unmark_15 : decode cX11_unmark 15 = .ok (.goto 5, 3) := by decide +kernel
theorem dX11_unmark_18 : decode cX11_unmark 18 = .ok (.bipush (-2), 2) := by decide +kernel
theorem dX11_unmark_20 : decode cX11_unmark 20 = .ok (.ireturn, 1) := by decide +kernel
theorem dX11_wish_0 : decode cX11_wish 0 = .ok (.iload_n 1, 1) := by decide +kernel
theorem dX11_wish_1 : decode cX11_wish 1 = .ok (.invokestatic 365, 3) := by decide +kernel
theorem dX11_wish_4 : decode cX11_wish 4 = .ok (.ifCond .eq 14, 3) := by decide +kernel
theorem dX11_wish_7 : decode cX11_wish 7 = .ok (.iload_n 2, 1) := by decide +kernel
theorem dX11_wish_8 : decode cX11_wish 8 = .ok (.ifCond .lt 10, 3) := by decide +kernel
theorem dX11_wish_11 : decode cX11_wish 11 = .ok (.iload_n 2, 1) := by decide +kernel
theorem dX11_wish_12 : decode cX11_wish 12 = .ok (.sipush 1439, 3) := by decide +kernel
theorem dX11_wish_15 : decode cX11_wish 15 = .ok (.if_icmp .le 7, 3) := by decide +kernel
theorem dX11_wish_18 : decode cX11_wish 18 = .ok (.ldc_w 380, 3) := by decide +kernel
theorem dX11_wish_21 : decode cX11_wish 21 = .ok (.ireturn, 1) := by decide +kernel
theorem dX11_wish_22 : decode cX11_wish 22 = .ok (.aload_n 0, 1) := by decide +kernel
theorem dX11_wish_23 : decode cX11_wish 23 = .ok (.getfield 39, 3) := by decide +kernel
theorem dX11_wish_26 : decode cX11_wish 26 = .ok (.iload_n 1, 1) := by decide +kernel
theorem dX11_wish_27 : decode cX11_wish 27 = .ok (.invokevirtual 381, 3) := by decide +kernel
theorem dX11_wish_30 : decode cX11_wish 30 = .ok (.ifCond .eq 15, 3) := by decide +kernel
theorem dX11_wish_33 : decode cX11_wish 33 = .ok (.aload_n 0, 1) := by decide +kernel
theorem dX11_wish_34 : decode cX11_wish 34 = .ok (.getfield 39, 3) := by decide +kernel
theorem dX11_wish_37 : decode cX11_wish 37 = .ok (.iload_n 1, 1) := by decide +kernel
theorem dX11_wish_38 : decode cX11_wish 38 = .ok (.iload_n 2, 1) := by decide +kernel
theorem dX11_wish_39 : decode cX11_wish 39 = .ok (.invokevirtual 384, 3) := by decide +kernel
theorem dX11_wish_42 : decode cX11_wish 42 = .ok (.goto 6, 3) := by decide +kernel
theorem dX11_wish_45 : decode cX11_wish 45 = .ok (.ldc_w 387, 3) := by decide +kernel
theorem dX11_wish_48 : decode cX11_wish 48 = .ok (.ireturn, 1) := by decide +kernel
theorem dX11_minute_0 : decode cX11_minute 0 = .ok (.iload_n 1, 1) := by decide +kernel
theorem dX11_minute_1 : decode cX11_minute 1 = .ok (.iconst 1, 1) := by decide +kernel
theorem dX11_minute_2 : decode cX11_minute 2 = .ok (.if_icmp .lt 9, 3) := by decide +kernel
theorem dX11_minute_5 : decode cX11_minute 5 = .ok (.iload_n 1, 1) := by decide +kernel
theorem dX11_minute_6 : decode cX11_minute 6 = .ok (.bipush 100, 2) := by decide +kernel
theorem dX11_minute_8 : decode cX11_minute 8 = .ok (.if_icmp .le 6, 3) := by decide +kernel
theorem dX11_minute_11 : decode cX11_minute 11 = .ok (.bipush (-2), 2) := by decide +kernel
theorem dX11_minute_13 : decode cX11_minute 13 = .ok (.ireturn, 1) := by decide +kernel
theorem dX11_minute_14 : decode cX11_minute 14 = .ok (.aload_n 0, 1) := by decide +kernel
theorem dX11_minute_15 : decode cX11_minute 15 = .ok (.getfield 39, 3) := by decide +kernel
theorem dX11_minute_18 : decode cX11_minute 18 = .ok (.getfield 388, 3) := by decide +kernel
theorem dX11_minute_21 : decode cX11_minute 21 = .ok (.iload_n 1, 1) := by decide +kernel
theorem dX11_minute_22 : decode cX11_minute 22 = .ok (.iadd, 1) := by decide +kernel
theorem dX11_minute_23 : decode cX11_minute 23 = .ok (.ldc_w 391, 3) := by decide +kernel
theorem dX11_minute_26 : decode cX11_minute 26 = .ok (.if_icmp .le 6, 3) := by decide +kernel
theorem dX11_minute_29 : decode cX11_minute 29 = .ok (.bipush (-4), 2) := by decide +kernel
theorem dX11_minute_31 : decode cX11_minute 31 = .ok (.ireturn, 1) := by decide +kernel
theorem dX11_minute_32 : decode cX11_minute 32 = .ok (.iconst 0, 1) := by decide +kernel
theorem dX11_minute_33 : decode cX11_minute 33 = .ok (.istore_n 2, 1) := by decide +kernel
theorem dX11_minute_34 : decode cX11_minute 34 = .ok (.iload_n 2, 1) := by decide +kernel
theorem dX11_minute_35 : decode cX11_minute 35 = .ok (.iload_n 1, 1) := by decide +kernel
theorem dX11_minute_36 : decode cX11_minute 36 = .ok (.if_icmp .ge 16, 3) := by decide +kernel
theorem dX11_minute_39 : decode cX11_minute 39 = .ok (.aload_n 0, 1) := by decide +kernel
theorem dX11_minute_40 : decode cX11_minute 40 = .ok (.getfield 39, 3) := by decide +kernel
theorem dX11_minute_43 : decode cX11_minute 43 = .ok (.invokevirtual 392, 3) := by decide +kernel
theorem dX11_minute_46 : decode cX11_minute 46 = .ok (.iinc 2 1, 3) := by decide +kernel
theorem dX11_minute_49 : decode cX11_minute 49 = .ok (.goto (-15), 3) := by decide +kernel
theorem dX11_minute_52 : decode cX11_minute 52 = .ok (.aload_n 0, 1) := by decide +kernel
theorem dX11_minute_53 : decode cX11_minute 53 = .ok (.getfield 39, 3) := by decide +kernel
theorem dX11_minute_56 : decode cX11_minute 56 = .ok (.getfield 388, 3) := by decide +kernel
theorem dX11_minute_59 : decode cX11_minute 59 = .ok (.ireturn, 1) := by decide +kernel
theorem dX11_air_0 : decode cX11_air 0 = .ok (.iload_n 1, 1) := by decide +kernel
theorem dX11_air_1 : decode cX11_air 1 = .ok (.invokestatic 365, 3) := by decide +kernel
theorem dX11_air_4 : decode cX11_air 4 = .ok (.ifCond .eq 27, 3) := by decide +kernel
theorem dX11_air_7 : decode cX11_air 7 = .ok (.iload_n 2, 1) := by decide +kernel
theorem dX11_air_8 : decode cX11_air 8 = .ok (.ifCond .lt 23, 3) := by decide +kernel
theorem dX11_air_11 : decode cX11_air 11 = .ok (.iload_n 2, 1) := by decide +kernel
theorem dX11_air_12 : decode cX11_air 12 = .ok (.bipush 10, 2) := by decide +kernel
theorem dX11_air_14 : decode cX11_air 14 = .ok (.if_icmp .gt 17, 3) := by decide +kernel
theorem dX11_air_17 : decode cX11_air 17 = .ok (.aload_n 0, 1) := by decide +kernel
theorem dX11_air_18 : decode cX11_air 18 = .ok (.getfield 39, 3) := by decide +kernel
theorem dX11_air_21 : decode cX11_air 21 = .ok (.getfield 395, 3) := by decide +kernel
theorem dX11_air_24 : decode cX11_air 24 = .ok (.iload_n 1, 1) := by decide +kernel
theorem dX11_air_25 : decode cX11_air 25 = .ok (.aaload, 1) := by decide +kernel
theorem dX11_air_26 : decode cX11_air 26 = .ok (.iload_n 2, 1) := by decide +kernel
theorem dX11_air_27 : decode cX11_air 27 = .ok (.laload, 1) := by decide +kernel
theorem dX11_air_28 : decode cX11_air 28 = .ok (.goto 4, 3) := by decide +kernel
theorem dX11_air_31 : decode cX11_air 31 = .ok (.lconst 0, 1) := by decide +kernel
theorem dX11_air_32 : decode cX11_air 32 = .ok (.lreturn, 1) := by decide +kernel
theorem dX11_shares_0 : decode cX11_shares 0 = .ok (.iload_n 1, 1) := by decide +kernel
theorem dX11_shares_1 : decode cX11_shares 1 = .ok (.invokestatic 76, 3) := by decide +kernel
theorem dX11_shares_4 : decode cX11_shares 4 = .ok (.ifCond .eq 21, 3) := by decide +kernel
theorem dX11_shares_7 : decode cX11_shares 7 = .ok (.iload_n 3, 1) := by decide +kernel
theorem dX11_shares_8 : decode cX11_shares 8 = .ok (.invokestatic 76, 3) := by decide +kernel
theorem dX11_shares_11 : decode cX11_shares 11 = .ok (.ifCond .eq 14, 3) := by decide +kernel
theorem dX11_shares_14 : decode cX11_shares 14 = .ok (.iload_n 2, 1) := by decide +kernel
theorem dX11_shares_15 : decode cX11_shares 15 = .ok (.ifCond .lt 10, 3) := by decide +kernel
theorem dX11_shares_18 : decode cX11_shares 18 = .ok (.iload_n 2, 1) := by decide +kernel
theorem dX11_shares_19 : decode cX11_shares 19 = .ok (.ldc_w 399, 3) := by decide +kernel
theorem dX11_shares_22 : decode cX11_shares 22 = .ok (.if_icmp .le 6, 3) := by decide +kernel
theorem dX11_shares_25 : decode cX11_shares 25 = .ok (.bipush (-2), 2) := by decide +kernel
theorem dX11_shares_27 : decode cX11_shares 27 = .ok (.ireturn, 1) := by decide +kernel
theorem dX11_shares_28 : decode cX11_shares 28 = .ok (.aload_n 0, 1) := by decide +kernel
theorem dX11_shares_29 : decode cX11_shares 29 = .ok (.getfield 20, 3) := by decide +kernel
theorem dX11_shares_32 : decode cX11_shares 32 = .ok (.iload_n 1, 1) := by decide +kernel
theorem dX11_shares_33 : decode cX11_shares 33 = .ok (.aaload, 1) := by decide +kernel
theorem dX11_shares_34 : decode cX11_shares 34 = .ok (.astore 4, 2) := by decide +kernel
theorem dX11_shares_36 : decode cX11_shares 36 = .ok (.aload 4, 2) := by decide +kernel
theorem dX11_shares_38 : decode cX11_shares 38 = .ok (.iconst 4, 1) := by decide +kernel
theorem dX11_shares_39 : decode cX11_shares 39 = .ok (.invokestatic 267, 3) := by decide +kernel
theorem dX11_shares_42 : decode cX11_shares 42 = .ok (.istore 5, 2) := by decide +kernel
theorem dX11_shares_44 : decode cX11_shares 44 = .ok (.iload 5, 2) := by decide +kernel
theorem dX11_shares_46 : decode cX11_shares 46 = .ok (.ifCond .ne 8, 3) := by decide +kernel
theorem dX11_shares_49 : decode cX11_shares 49 = .ok (.aload 4, 2) := by decide +kernel
theorem dX11_shares_51 : decode cX11_shares 51 = .ok (.ifnonnull 10, 3) := by decide +kernel
theorem dX11_shares_54 : decode cX11_shares 54 = .ok (.aload_n 0, 1) := by decide +kernel
theorem dX11_shares_55 : decode cX11_shares 55 = .ok (.iload 5, 2) := by decide +kernel
theorem dX11_shares_57 : decode cX11_shares 57 = .ok (.invokevirtual 87, 3) := by decide +kernel
theorem dX11_shares_60 : decode cX11_shares 60 = .ok (.ireturn, 1) := by decide +kernel
theorem dX11_shares_61 : decode cX11_shares 61 = .ok (.aload 4, 2) := by decide +kernel
theorem dX11_shares_63 : decode cX11_shares 63 = .ok (.getfield 134, 3) := by decide +kernel
theorem dX11_shares_66 : decode cX11_shares 66 = .ok (.arraylength, 1) := by decide +kernel
theorem dX11_shares_67 : decode cX11_shares 67 = .ok (.bipush 40, 2) := by decide +kernel
theorem dX11_shares_69 : decode cX11_shares 69 = .ok (.invokestatic 400, 3) := by decide +kernel
theorem dX11_shares_72 : decode cX11_shares 72 = .ok (.istore 6, 2) := by decide +kernel
theorem dX11_shares_74 : decode cX11_shares 74 = .ok (.aload 4, 2) := by decide +kernel
theorem dX11_shares_76 : decode cX11_shares 76 = .ok (.invokestatic 403, 3) := by decide +kernel
theorem dX11_shares_79 : decode cX11_shares 79 = .ok (.ifCond .ne 6, 3) := by decide +kernel
theorem dX11_shares_82 : decode cX11_shares 82 = .ok (.bipush (-3), 2) := by decide +kernel
theorem dX11_shares_84 : decode cX11_shares 84 = .ok (.ireturn, 1) := by decide +kernel
theorem dX11_shares_85 : decode cX11_shares 85 = .ok (.aload_n 0, 1) := by decide +kernel
theorem dX11_shares_86 : decode cX11_shares 86 = .ok (.invokevirtual 83, 3) := by decide +kernel
theorem dX11_shares_89 : decode cX11_shares 89 = .ok (.ifCond .eq 6, 3) := by decide +kernel
theorem dX11_shares_92 : decode cX11_shares 92 = .ok (.bipush (-4), 2) := by decide +kernel
theorem dX11_shares_94 : decode cX11_shares 94 = .ok (.ireturn, 1) := by decide +kernel
theorem dX11_shares_95 : decode cX11_shares 95 = .ok (.iconst 0, 1) := by decide +kernel
theorem dX11_shares_96 : decode cX11_shares 96 = .ok (.istore 7, 2) := by decide +kernel
theorem dX11_shares_98 : decode cX11_shares 98 = .ok (.iload 7, 2) := by decide +kernel
theorem dX11_shares_100 : decode cX11_shares 100 = .ok (.iload 6, 2) := by decide +kernel
theorem dX11_shares_102 : decode cX11_shares 102 = .ok (.if_icmp .ge 24, 3) := by decide +kernel
theorem dX11_shares_105 : decode cX11_shares 105 = .ok (.aload_n 0, 1) := by decide +kernel
theorem dX11_shares_106 : decode cX11_shares 106 = .ok (.getfield 73, 3) := by decide +kernel
theorem dX11_shares_109 : decode cX11_shares 109 = .ok (.iload 7, 2) := by decide +kernel
theorem dX11_shares_111 : decode cX11_shares 111 = .ok (.aload 4, 2) := by decide +kernel
theorem dX11_shares_113 : decode cX11_shares 113 = .ok (.getfield 134, 3) := by decide +kernel
theorem dX11_shares_116 : decode cX11_shares 116 = .ok (.iload 7, 2) := by decide +kernel
theorem dX11_shares_118 : decode cX11_shares 118 = .ok (.laload, 1) := by decide +kernel
theorem dX11_shares_119 : decode cX11_shares 119 = .ok (.lastore, 1) := by decide +kernel
theorem dX11_shares_120 : decode cX11_shares 120 = .ok (.iinc 7 1, 3) := by decide +kernel
theorem dX11_shares_123 : decode cX11_shares 123 = .ok (.goto (-25), 3) := by decide +kernel
theorem dX11_shares_126 : decode cX11_shares 126 = .ok (.aload_n 0, 1) := by decide +kernel
theorem dX11_shares_127 : decode cX11_shares 127 = .ok (.iconst 5, 1) := by decide +kernel
theorem dX11_shares_128 : decode cX11_shares 128 = .ok (.iload 6, 2) := by decide +kernel
theorem dX11_shares_130 : decode cX11_shares 130 = .ok (.invokevirtual 91, 3) := by decide +kernel
theorem dX11_shares_133 : decode cX11_shares 133 = .ok (.astore 7, 2) := by decide +kernel
theorem dX11_shares_135 : decode cX11_shares 135 = .ok (.iload_n 2, 1) := by decide +kernel
theorem dX11_shares_136 : decode cX11_shares 136 = .ok (.i2l, 1) := by decide +kernel
theorem dX11_shares_137 : decode cX11_shares 137 = .ok (.aload_n 0, 1) := by decide +kernel
theorem dX11_shares_138 : decode cX11_shares 138 = .ok (.getfield 73, 3) := by decide +kernel
theorem dX11_shares_141 : decode cX11_shares 141 = .ok (.iload 6, 2) := by decide +kernel
theorem dX11_shares_143 : decode cX11_shares 143 = .ok (.aload 7, 2) := by decide +kernel
theorem dX11_shares_145 : decode cX11_shares 145 = .ok (.getfield 134, 3) := by decide +kernel
theorem dX11_shares_148 : decode cX11_shares 148 = .ok (.aload_n 0, 1) := by decide +kernel
theorem dX11_shares_149 : decode cX11_shares 149 = .ok (.getfield 69, 3) := by decide +kernel
theorem dX11_shares_152 : decode cX11_shares 152 = .ok (.invokestatic 406, 3) := by decide +kernel
theorem dX11_shares_155 : decode cX11_shares 155 = .ok (.aload_n 0, 1) := by decide +kernel
theorem dX11_shares_156 : decode cX11_shares 156 = .ok (.getfield 20, 3) := by decide +kernel
theorem dX11_shares_159 : decode cX11_shares 159 = .ok (.iload_n 3, 1) := by decide +kernel
theorem dX11_shares_160 : decode cX11_shares 160 = .ok (.aload 7, 2) := by decide +kernel
theorem dX11_shares_162 : decode cX11_shares 162 = .ok (.aastore, 1) := by decide +kernel
theorem dX11_shares_163 : decode cX11_shares 163 = .ok (.iconst 1, 1) := by decide +kernel
theorem dX11_shares_164 : decode cX11_shares 164 = .ok (.ireturn, 1) := by decide +kernel
theorem dX11_quotient_0 : decode cX11_quotient 0 = .ok (.iload_n 1, 1) := by decide +kernel
theorem dX11_quotient_1 : decode cX11_quotient 1 = .ok (.iconst 4, 1) := by decide +kernel
theorem dX11_quotient_2 : decode cX11_quotient 2 = .ok (.if_icmp .eq 8, 3) := by decide +kernel
theorem dX11_quotient_5 : decode cX11_quotient 5 = .ok (.iload_n 1, 1) := by decide +kernel
theorem dX11_quotient_6 : decode cX11_quotient 6 = .ok (.iconst 5, 1) := by decide +kernel
theorem dX11_quotient_7 : decode cX11_quotient 7 = .ok (.if_icmp .ne 14, 3) := by decide +kernel
theorem dX11_quotient_10 : decode cX11_quotient 10 = .ok (.iload 6, 2) := by decide +kernel
theorem dX11_quotient_12 : decode cX11_quotient 12 = .ok (.ifCond .lt 9, 3) := by decide +kernel
theorem dX11_quotient_15 : decode cX11_quotient 15 = .ok (.iload 6, 2) := by decide +kernel
theorem dX11_quotient_17 : decode cX11_quotient 17 = .ok (.iconst 1, 1) := by decide +kernel
theorem dX11_quotient_18 : decode cX11_quotient 18 = .ok (.if_icmp .le 5, 3) := by decide +kernel
theorem dX11_quotient_21 : decode cX11_quotient 21 = .ok (.lconst 0, 1) := by decide +kernel
theorem dX11_quotient_22 : decode cX11_quotient 22 = .ok (.lreturn, 1) := by decide +kernel
theorem dX11_quotient_23 : decode cX11_quotient 23 = .ok (.iload_n 1, 1) := by decide +kernel
theorem dX11_quotient_24 : decode cX11_quotient 24 = .ok (.iconst 4, 1) := by decide +kernel
theorem dX11_quotient_25 : decode cX11_quotient 25 = .ok (.if_icmp .ne 47, 3) := by decide +kernel
theorem dX11_quotient_28 : decode cX11_quotient 28 = .ok (.lload_n 2, 1) := by decide +kernel
theorem dX11_quotient_29 : decode cX11_quotient 29 = .ok (.l2i, 1) := by decide +kernel
theorem dX11_quotient_30 : decode cX11_quotient 30 = .ok (.istore 7, 2) := by decide +kernel
theorem dX11_quotient_32 : decode cX11_quotient 32 = .ok (.lload 4, 2) := by decide +kernel
theorem dX11_quotient_34 : decode cX11_quotient 34 = .ok (.l2i, 1) := by decide +kernel
theorem dX11_quotient_35 : decode cX11_quotient 35 = .ok (.istore 8, 2) := by decide +kernel
theorem dX11_quotient_37 : decode cX11_quotient 37 = .ok (.iload 8, 2) := by decide +kernel
theorem dX11_quotient_39 : decode cX11_quotient 39 = .ok (.ifCond .ne 12, 3) := by decide +kernel
theorem dX11_quotient_42 : decode cX11_quotient 42 = .ok (.aload_n 0, 1) := by decide +kernel
theorem dX11_quotient_43 : decode cX11_quotient 43 = .ok (.bipush 6, 2) := by decide +kernel
theorem dX11_quotient_45 : decode cX11_quotient 45 = .ok (.invokevirtual 87, 3) := by decide +kernel
theorem dX11_quotient_48 : decode cX11_quotient 48 = .ok (.pop, 1) := by decide +kernel
theorem dX11_quotient_49 : decode cX11_quotient 49 = .ok (.lconst 0, 1) := by decide +kernel
theorem dX11_quotient_50 : decode cX11_quotient 50 = .ok (.lreturn, 1) := by decide +kernel
theorem dX11_quotient_51 : decode cX11_quotient 51 = .ok (.iload 6, 2) := by decide +kernel
theorem dX11_quotient_53 : decode cX11_quotient 53 = .ok (.ifCond .ne 12, 3) := by decide +kernel
theorem dX11_quotient_56 : decode cX11_quotient 56 = .ok (.iload 7, 2) := by decide +kernel
theorem dX11_quotient_58 : decode cX11_quotient 58 = .ok (.iload 8, 2) := by decide +kernel
theorem dX11_quotient_60 : decode cX11_quotient 60 = .ok (.idiv, 1) := by decide +kernel
theorem dX11_quotient_61 : decode cX11_quotient 61 = .ok (.i2l, 1) := by decide +kernel
theorem dX11_quotient_62 : decode cX11_quotient 62 = .ok (.goto 9, 3) := by decide +kernel
theorem dX11_quotient_65 : decode cX11_quotient 65 = .ok (.iload 7, 2) := by decide +kernel
theorem dX11_quotient_67 : decode cX11_quotient 67 = .ok (.iload 8, 2) := by decide +kernel
theorem dX11_quotient_69 : decode cX11_quotient 69 = .ok (.irem, 1) := by decide +kernel
theorem dX11_quotient_70 : decode cX11_quotient 70 = .ok (.i2l, 1) := by decide +kernel
theorem dX11_quotient_71 : decode cX11_quotient 71 = .ok (.lreturn, 1) := by decide +kernel
theorem dX11_quotient_72 : decode cX11_quotient 72 = .ok (.lload 4, 2) := by decide +kernel
theorem dX11_quotient_74 : decode cX11_quotient 74 = .ok (.lconst 0, 1) := by decide +kernel
theorem dX11_quotient_75 : decode cX11_quotient 75 = .ok (.lcmp, 1) := by decide +kernel
theorem dX11_quotient_76 : decode cX11_quotient 76 = .ok (.ifCond .ne 12, 3) := by decide +kernel
theorem dX11_quotient_79 : decode cX11_quotient 79 = .ok (.aload_n 0, 1) := by decide +kernel
theorem dX11_quotient_80 : decode cX11_quotient 80 = .ok (.bipush 6, 2) := by decide +kernel
theorem dX11_quotient_82 : decode cX11_quotient 82 = .ok (.invokevirtual 87, 3) := by decide +kernel
theorem dX11_quotient_85 : decode cX11_quotient 85 = .ok (.pop, 1) := by decide +kernel
theorem dX11_quotient_86 : decode cX11_quotient 86 = .ok (.lconst 0, 1) := by decide +kernel
theorem dX11_quotient_87 : decode cX11_quotient 87 = .ok (.lreturn, 1) := by decide +kernel
theorem dX11_quotient_88 : decode cX11_quotient 88 = .ok (.iload 6, 2) := by decide +kernel
theorem dX11_quotient_90 : decode cX11_quotient 90 = .ok (.ifCond .ne 10, 3) := by decide +kernel
theorem dX11_quotient_93 : decode cX11_quotient 93 = .ok (.lload_n 2, 1) := by decide +kernel
theorem dX11_quotient_94 : decode cX11_quotient 94 = .ok (.lload 4, 2) := by decide +kernel
theorem dX11_quotient_96 : decode cX11_quotient 96 = .ok (.ldiv, 1) := by decide +kernel
theorem dX11_quotient_97 : decode cX11_quotient 97 = .ok (.goto 7, 3) := by decide +kernel
theorem dX11_quotient_100 : decode cX11_quotient 100 = .ok (.lload_n 2, 1) := by decide +kernel
theorem dX11_quotient_101 : decode cX11_quotient 101 = .ok (.lload 4, 2) := by decide +kernel
theorem dX11_quotient_103 : decode cX11_quotient 103 = .ok (.lrem, 1) := by decide +kernel
theorem dX11_quotient_104 : decode cX11_quotient 104 = .ok (.lreturn, 1) := by decide +kernel
theorem dX11_compare_0 : decode cX11_compare 0 = .ok (.iload_n 1, 1) := by decide +kernel
theorem dX11_compare_1 : decode cX11_compare 1 = .ok (.bipush 6, 2) := by decide +kernel
theorem dX11_compare_3 : decode cX11_compare 3 = .ok (.if_icmp .eq 9, 3) := by decide +kernel
theorem dX11_compare_6 : decode cX11_compare 6 = .ok (.iload_n 1, 1) := by decide +kernel
theorem dX11_compare_7 : decode cX11_compare 7 = .ok (.bipush 7, 2) := by decide +kernel
theorem dX11_compare_9 : decode cX11_compare 9 = .ok (.if_icmp .ne 18, 3) := by decide +kernel
theorem dX11_compare_12 : decode cX11_compare 12 = .ok (.iload_n 2, 1) := by decide +kernel
theorem dX11_compare_13 : decode cX11_compare 13 = .ok (.invokestatic 76, 3) := by decide +kernel
theorem dX11_compare_16 : decode cX11_compare 16 = .ok (.ifCond .eq 11, 3) := by decide +kernel
theorem dX11_compare_19 : decode cX11_compare 19 = .ok (.iload 4, 2) := by decide +kernel
theorem dX11_compare_21 : decode cX11_compare 21 = .ok (.invokestatic 76, 3) := by decide +kernel
theorem dX11_compare_24 : decode cX11_compare 24 = .ok (.ifCond .ne 6, 3) := by decide +kernel
theorem dX11_compare_27 : decode cX11_compare 27 = .ok (.bipush (-2), 2) := by decide +kernel
theorem dX11_compare_29 : decode cX11_compare 29 = .ok (.ireturn, 1) := by decide +kernel
theorem dX11_compare_30 : decode cX11_compare 30 = .ok (.aload_n 0, 1) := by decide +kernel
theorem dX11_compare_31 : decode cX11_compare 31 = .ok (.getfield 20, 3) := by decide +kernel
theorem dX11_compare_34 : decode cX11_compare 34 = .ok (.iload_n 2, 1) := by decide +kernel
theorem dX11_compare_35 : decode cX11_compare 35 = .ok (.aaload, 1) := by decide +kernel
theorem dX11_compare_36 : decode cX11_compare 36 = .ok (.astore 6, 2) := by decide +kernel
theorem dX11_compare_38 : decode cX11_compare 38 = .ok (.aload_n 0, 1) := by decide +kernel
theorem dX11_compare_39 : decode cX11_compare 39 = .ok (.getfield 20, 3) := by decide +kernel
theorem dX11_compare_42 : decode cX11_compare 42 = .ok (.iload 4, 2) := by decide +kernel
theorem dX11_compare_44 : decode cX11_compare 44 = .ok (.aaload, 1) := by decide +kernel
theorem dX11_compare_45 : decode cX11_compare 45 = .ok (.astore 7, 2) := by decide +kernel
theorem dX11_compare_47 : decode cX11_compare 47 = .ok (.aload 6, 2) := by decide +kernel
theorem dX11_compare_49 : decode cX11_compare 49 = .ok (.iload_n 1, 1) := by decide +kernel
theorem dX11_compare_50 : decode cX11_compare 50 = .ok (.invokestatic 164, 3) := by decide +kernel
theorem dX11_compare_53 : decode cX11_compare 53 = .ok (.ifCond .eq 12, 3) := by decide +kernel
theorem dX11_compare_56 : decode cX11_compare 56 = .ok (.aload 7, 2) := by decide +kernel
theorem dX11_compare_58 : decode cX11_compare 58 = .ok (.iload_n 1, 1) := by decide +kernel
theorem dX11_compare_59 : decode cX11_compare 59 = .ok (.invokestatic 164, 3) := by decide +kernel
theorem dX11_compare_62 : decode cX11_compare 62 = .ok (.ifCond .ne 9, 3) := by decide +kernel
theorem dX11_compare_65 : decode cX11_compare 65 = .ok (.aload_n 0, 1) := by decide +kernel
theorem dX11_compare_66 : decode cX11_compare 66 = .ok (.iconst 4, 1) := by decide +kernel
theorem dX11_compare_67 : decode cX11_compare 67 = .ok (.invokevirtual 87, 3) := by decide +kernel
theorem dX11_compare_70 : decode cX11_compare 70 = .ok (.ireturn, 1) := by decide +kernel
theorem dX11_compare_71 : decode cX11_compare 71 = .ok (.aload 6, 2) := by decide +kernel
theorem dX11_compare_73 : decode cX11_compare 73 = .ok (.iload_n 1, 1) := by decide +kernel
theorem dX11_compare_74 : decode cX11_compare 74 = .ok (.iload_n 3, 1) := by decide +kernel
theorem dX11_compare_75 : decode cX11_compare 75 = .ok (.invokestatic 130, 3) := by decide +kernel
theorem dX11_compare_78 : decode cX11_compare 78 = .ok (.istore 8, 2) := by decide +kernel
theorem dX11_compare_80 : decode cX11_compare 80 = .ok (.iload 8, 2) := by decide +kernel
theorem dX11_compare_82 : decode cX11_compare 82 = .ok (.ifCond .ne 13, 3) := by decide +kernel
theorem dX11_compare_85 : decode cX11_compare 85 = .ok (.aload 7, 2) := by decide +kernel
theorem dX11_compare_87 : decode cX11_compare 87 = .ok (.iload_n 1, 1) := by decide +kernel
theorem dX11_compare_88 : decode cX11_compare 88 = .ok (.iload 5, 2) := by decide +kernel
theorem dX11_compare_90 : decode cX11_compare 90 = .ok (.invokestatic 130, 3) := by decide +kernel
theorem dX11_compare_93 : decode cX11_compare 93 = .ok (.istore 8, 2) := by decide +kernel
theorem dX11_compare_95 : decode cX11_compare 95 = .ok (.iload 8, 2) := by decide +kernel
theorem dX11_compare_97 : decode cX11_compare 97 = .ok (.ifCond .ne 13, 3) := by decide +kernel
theorem dX11_compare_100 : decode cX11_compare 100 = .ok (.aload 6, 2) := by decide +kernel
theorem dX11_compare_102 : decode cX11_compare 102 = .ok (.ifnull 8, 3) := by decide +kernel
theorem dX11_compare_105 : decode cX11_compare 105 = .ok (.aload 7, 2) := by decide +kernel
theorem dX11_compare_107 : decode cX11_compare 107 = .ok (.ifnonnull 10, 3) := by decide +kernel
theorem dX11_compare_110 : decode cX11_compare 110 = .ok (.aload_n 0, 1) := by decide +kernel
theorem dX11_compare_111 : decode cX11_compare 111 = .ok (.iload 8, 2) := by decide +kernel
theorem dX11_compare_113 : decode cX11_compare 113 = .ok (.invokevirtual 87, 3) := by decide +kernel
theorem dX11_compare_116 : decode cX11_compare 116 = .ok (.ireturn, 1) := by decide +kernel
theorem dX11_compare_117 : decode cX11_compare 117 = .ok (.iload_n 1, 1) := by decide +kernel
theorem dX11_compare_118 : decode cX11_compare 118 = .ok (.aload 6, 2) := by decide +kernel
theorem dX11_compare_120 : decode cX11_compare 120 = .ok (.getfield 134, 3) := by decide +kernel
theorem dX11_compare_123 : decode cX11_compare 123 = .ok (.iload_n 3, 1) := by decide +kernel
theorem dX11_compare_124 : decode cX11_compare 124 = .ok (.laload, 1) := by decide +kernel
theorem dX11_compare_125 : decode cX11_compare 125 = .ok (.invokestatic 410, 3) := by decide +kernel
theorem dX11_compare_128 : decode cX11_compare 128 = .ok (.iload_n 1, 1) := by decide +kernel
theorem dX11_compare_129 : decode cX11_compare 129 = .ok (.aload 7, 2) := by decide +kernel
theorem dX11_compare_131 : decode cX11_compare 131 = .ok (.getfield 134, 3) := by decide +kernel
theorem dX11_compare_134 : decode cX11_compare 134 = .ok (.iload 5, 2) := by decide +kernel
theorem dX11_compare_136 : decode cX11_compare 136 = .ok (.laload, 1) := by decide +kernel
theorem dX11_compare_137 : decode cX11_compare 137 = .ok (.invokestatic 410, 3) := by decide +kernel
theorem dX11_compare_140 : decode cX11_compare 140 = .ok (.invokestatic 413, 3) := by decide +kernel
theorem dX11_compare_143 : decode cX11_compare 143 = .ok (.ireturn, 1) := by decide +kernel
theorem dX11_real_0 : decode cX11_real 0 = .ok (.iload_n 1, 1) := by decide +kernel
theorem dX11_real_1 : decode cX11_real 1 = .ok (.bipush 6, 2) := by decide +kernel
theorem dX11_real_3 : decode cX11_real 3 = .ok (.if_icmp .eq 9, 3) := by decide +kernel
theorem dX11_real_6 : decode cX11_real 6 = .ok (.iload_n 1, 1) := by decide +kernel
theorem dX11_real_7 : decode cX11_real 7 = .ok (.bipush 7, 2) := by decide +kernel
theorem dX11_real_9 : decode cX11_real 9 = .ok (.if_icmp .ne 19, 3) := by decide +kernel
theorem dX11_real_12 : decode cX11_real 12 = .ok (.iload_n 2, 1) := by decide +kernel
theorem dX11_real_13 : decode cX11_real 13 = .ok (.invokestatic 76, 3) := by decide +kernel
theorem dX11_real_16 : decode cX11_real 16 = .ok (.ifCond .eq 12, 3) := by decide +kernel
theorem dX11_real_19 : decode cX11_real 19 = .ok (.iload_n 3, 1) := by decide +kernel
theorem dX11_real_20 : decode cX11_real 20 = .ok (.ifCond .lt 8, 3) := by decide +kernel
theorem dX11_real_23 : decode cX11_real 23 = .ok (.iload_n 3, 1) := by decide +kernel
theorem dX11_real_24 : decode cX11_real 24 = .ok (.iconst 3, 1) := by decide +kernel
theorem dX11_real_25 : decode cX11_real 25 = .ok (.if_icmp .le 5, 3) := by decide +kernel
theorem dX11_real_28 : decode cX11_real 28 = .ok (.lconst 0, 1) := by decide +kernel
theorem dX11_real_29 : decode cX11_real 29 = .ok (.lreturn, 1) := by decide +kernel
theorem dX11_real_30 : decode cX11_real 30 = .ok (.aload_n 0, 1) := by decide +kernel
theorem dX11_real_31 : decode cX11_real 31 = .ok (.getfield 20, 3) := by decide +kernel
theorem dX11_real_34 : decode cX11_real 34 = .ok (.iload_n 2, 1) := by decide +kernel
theorem dX11_real_35 : decode cX11_real 35 = .ok (.aaload, 1) := by decide +kernel
theorem dX11_real_36 : decode cX11_real 36 = .ok (.astore 4, 2) := by decide +kernel
theorem dX11_real_38 : decode cX11_real 38 = .ok (.aload 4, 2) := by decide +kernel
theorem dX11_real_40 : decode cX11_real 40 = .ok (.iload_n 1, 1) := by decide +kernel
theorem dX11_real_41 : decode cX11_real 41 = .ok (.invokestatic 267, 3) := by decide +kernel
theorem dX11_real_44 : decode cX11_real 44 = .ok (.istore 5, 2) := by decide +kernel
theorem dX11_real_46 : decode cX11_real 46 = .ok (.iload 5, 2) := by decide +kernel
theorem dX11_real_48 : decode cX11_real 48 = .ok (.ifCond .ne 8, 3) := by decide +kernel
theorem dX11_real_51 : decode cX11_real 51 = .ok (.aload 4, 2) := by decide +kernel
theorem dX11_real_53 : decode cX11_real 53 = .ok (.ifnonnull 12, 3) := by decide +kernel
theorem dX11_real_56 : decode cX11_real 56 = .ok (.aload_n 0, 1) := by decide +kernel
theorem dX11_real_57 : decode cX11_real 57 = .ok (.iload 5, 2) := by decide +kernel
theorem dX11_real_59 : decode cX11_real 59 = .ok (.invokevirtual 87, 3) := by decide +kernel
theorem dX11_real_62 : decode cX11_real 62 = .ok (.pop, 1) := by decide +kernel
theorem dX11_real_63 : decode cX11_real 63 = .ok (.lconst 0, 1) := by decide +kernel
theorem dX11_real_64 : decode cX11_real 64 = .ok (.lreturn, 1) := by decide +kernel
theorem dX11_real_65 : decode cX11_real 65 = .ok (.aload_n 0, 1) := by decide +kernel
theorem dX11_real_66 : decode cX11_real 66 = .ok (.aload 4, 2) := by decide +kernel
theorem dX11_real_68 : decode cX11_real 68 = .ok (.iload_n 1, 1) := by decide +kernel
theorem dX11_real_69 : decode cX11_real 69 = .ok (.invokevirtual 417, 3) := by decide +kernel
theorem dX11_real_72 : decode cX11_real 72 = .ok (.istore 6, 2) := by decide +kernel
theorem dX11_real_74 : decode cX11_real 74 = .ok (.iload 6, 2) := by decide +kernel
theorem dX11_real_76 : decode cX11_real 76 = .ok (.ifCond .ne 7, 3) := by decide +kernel
theorem dX11_real_79 : decode cX11_real 79 = .ok (.ldc2_w 420, 3) := by decide +kernel
theorem dX11_real_82 : decode cX11_real 82 = .ok (.lreturn, 1) := by decide +kernel
theorem dX11_real_83 : decode cX11_real 83 = .ok (.iload_n 3, 1) := by decide +kernel
theorem dX11_real_84 : decode cX11_real 84 = .ok (.iconst 2, 1) := by decide +kernel
theorem dX11_real_85 : decode cX11_real 85 = .ok (.if_icmp .ne 10, 3) := by decide +kernel
theorem dX11_real_88 : decode cX11_real 88 = .ok (.aload_n 0, 1) := by decide +kernel
theorem dX11_real_89 : decode cX11_real 89 = .ok (.iload 6, 2) := by decide +kernel
theorem dX11_real_91 : decode cX11_real 91 = .ok (.invokevirtual 422, 3) := by decide +kernel
theorem dX11_real_94 : decode cX11_real 94 = .ok (.lreturn, 1) := by decide +kernel
theorem dX11_real_95 : decode cX11_real 95 = .ok (.aload_n 0, 1) := by decide +kernel
theorem dX11_real_96 : decode cX11_real 96 = .ok (.getfield 69, 3) := by decide +kernel
theorem dX11_real_99 : decode cX11_real 99 = .ok (.iload 6, 2) := by decide +kernel
theorem dX11_real_101 : decode cX11_real 101 = .ok (.invokestatic 426, 3) := by decide +kernel
theorem dX11_real_104 : decode cX11_real 104 = .ok (.iload_n 3, 1) := by decide +kernel
theorem dX11_real_105 : decode cX11_real 105 = .ok (.ifCond .ne 7, 3) := by decide +kernel
theorem dX11_real_108 : decode cX11_real 108 = .ok (.iconst 0, 1) := by decide +kernel
theorem dX11_real_109 : decode cX11_real 109 = .ok (.goto 21, 3) := by decide +kernel
theorem dX11_real_112 : decode cX11_real 112 = .ok (.iload_n 3, 1) := by decide +kernel
theorem dX11_real_113 : decode cX11_real 113 = .ok (.iconst 1, 1) := by decide +kernel
theorem dX11_real_114 : decode cX11_real 114 = .ok (.if_icmp .ne 10, 3) := by decide +kernel
theorem dX11_real_117 : decode cX11_real 117 = .ok (.iload 6, 2) := by decide +kernel
theorem dX11_real_119 : decode cX11_real 119 = .ok (.iconst 1, 1) := by decide +kernel
theorem dX11_real_120 : decode cX11_real 120 = .ok (.isub, 1) := by decide +kernel
theorem dX11_real_121 : decode cX11_real 121 = .ok (.goto 9, 3) := by decide +kernel
theorem dX11_real_124 : decode cX11_real 124 = .ok (.iload 6, 2) := by decide +kernel
theorem dX11_real_126 : decode cX11_real 126 = .ok (.iconst 1, 1) := by decide +kernel
theorem dX11_real_127 : decode cX11_real 127 = .ok (.isub, 1) := by decide +kernel
theorem dX11_real_128 : decode cX11_real 128 = .ok (.iconst 2, 1) := by decide +kernel
theorem dX11_real_129 : decode cX11_real 129 = .ok (.idiv, 1) := by decide +kernel
theorem dX11_real_130 : decode cX11_real 130 = .ok (.istore 7, 2) := by decide +kernel
theorem dX11_real_132 : decode cX11_real 132 = .ok (.aload_n 0, 1) := by decide +kernel
theorem dX11_real_133 : decode cX11_real 133 = .ok (.getfield 69, 3) := by decide +kernel
theorem dX11_real_136 : decode cX11_real 136 = .ok (.iload 7, 2) := by decide +kernel
theorem dX11_real_138 : decode cX11_real 138 = .ok (.laload, 1) := by decide +kernel
theorem dX11_real_139 : decode cX11_real 139 = .ok (.lreturn, 1) := by decide +kernel
theorem dX11_wholeMean_0 : decode cX11_wholeMean 0 = .ok (.iload_n 1, 1) := by decide +kernel
theorem dX11_wholeMean_1 : decode cX11_wholeMean 1 = .ok (.invokestatic 76, 3) := by decide +kernel
theorem dX11_wholeMean_4 : decode cX11_wholeMean 4 = .ok (.ifCond .ne 6, 3) := by decide +kernel
theorem dX11_wholeMean_7 : decode cX11_wholeMean 7 = .ok (.bipush (-2), 2) := by decide +kernel
theorem dX11_wholeMean_9 : decode cX11_wholeMean 9 = .ok (.ireturn, 1) := by decide +kernel
theorem dX11_wholeMean_10 : decode cX11_wholeMean 10 = .ok (.aload_n 0, 1) := by decide +kernel
theorem dX11_wholeMean_11 : decode cX11_wholeMean 11 = .ok (.getfield 20, 3) := by decide +kernel
theorem dX11_wholeMean_14 : decode cX11_wholeMean 14 = .ok (.iload_n 1, 1) := by decide +kernel
theorem dX11_wholeMean_15 : decode cX11_wholeMean 15 = .ok (.aaload, 1) := by decide +kernel
theorem dX11_wholeMean_16 : decode cX11_wholeMean 16 = .ok (.astore_n 2, 1) := by decide +kernel
theorem dX11_wholeMean_17 : decode cX11_wholeMean 17 = .ok (.aload_n 2, 1) := by decide +kernel
theorem dX11_wholeMean_18 : decode cX11_wholeMean 18 = .ok (.iconst 4, 1) := by decide +kernel
theorem dX11_wholeMean_19 : decode cX11_wholeMean 19 = .ok (.invokestatic 267, 3) := by decide +kernel
theorem dX11_wholeMean_22 : decode cX11_wholeMean 22 = .ok (.istore_n 3, 1) := by decide +kernel
theorem dX11_wholeMean_23 : decode cX11_wholeMean 23 = .ok (.iload_n 3, 1) := by decide +kernel
theorem dX11_wholeMean_24 : decode cX11_wholeMean 24 = .ok (.ifCond .ne 7, 3) := by decide +kernel
theorem dX11_wholeMean_27 : decode cX11_wholeMean 27 = .ok (.aload_n 2, 1) := by decide +kernel
theorem dX11_wholeMean_28 : decode cX11_wholeMean 28 = .ok (.ifnonnull 9, 3) := by decide +kernel
theorem dX11_wholeMean_31 : decode cX11_wholeMean 31 = .ok (.aload_n 0, 1) := by decide +kernel
theorem dX11_wholeMean_32 : decode cX11_wholeMean 32 = .ok (.iload_n 3, 1) := by decide +kernel
theorem dX11_wholeMean_33 : decode cX11_wholeMean 33 = .ok (.invokevirtual 87, 3) := by decide +kernel
theorem dX11_wholeMean_36 : decode cX11_wholeMean 36 = .ok (.ireturn, 1) := by decide +kernel
theorem dX11_wholeMean_37 : decode cX11_wholeMean 37 = .ok (.aload_n 2, 1) := by decide +kernel
theorem dX11_wholeMean_38 : decode cX11_wholeMean 38 = .ok (.getfield 134, 3) := by decide +kernel
theorem dX11_wholeMean_41 : decode cX11_wholeMean 41 = .ok (.arraylength, 1) := by decide +kernel
theorem dX11_wholeMean_42 : decode cX11_wholeMean 42 = .ok (.istore 4, 2) := by decide +kernel
theorem dX11_wholeMean_44 : decode cX11_wholeMean 44 = .ok (.iload 4, 2) := by decide +kernel
theorem dX11_wholeMean_46 : decode cX11_wholeMean 46 = .ok (.ifCond .ne 10, 3) := by decide +kernel
theorem dX11_wholeMean_49 : decode cX11_wholeMean 49 = .ok (.aload_n 0, 1) := by decide +kernel
theorem dX11_wholeMean_50 : decode cX11_wholeMean 50 = .ok (.bipush 6, 2) := by decide +kernel
theorem dX11_wholeMean_52 : decode cX11_wholeMean 52 = .ok (.invokevirtual 87, 3) := by decide +kernel
theorem dX11_wholeMean_55 : decode cX11_wholeMean 55 = .ok (.ireturn, 1) := by decide +kernel
theorem dX11_wholeMean_56 : decode cX11_wholeMean 56 = .ok (.lconst 0, 1) := by decide +kernel
theorem dX11_wholeMean_57 : decode cX11_wholeMean 57 = .ok (.lstore 5, 2) := by decide +kernel
theorem dX11_wholeMean_59 : decode cX11_wholeMean 59 = .ok (.iconst 0, 1) := by decide +kernel
theorem dX11_wholeMean_60 : decode cX11_wholeMean 60 = .ok (.istore 7, 2) := by decide +kernel
theorem dX11_wholeMean_62 : decode cX11_wholeMean 62 = .ok (.iload 7, 2) := by decide +kernel
theorem dX11_wholeMean_64 : decode cX11_wholeMean 64 = .ok (.iload 4, 2) := by decide +kernel
theorem dX11_wholeMean_66 : decode cX11_wholeMean 66 = .ok (.if_icmp .ge 21, 3) := by decide +kernel
theorem dX11_wholeMean_69 : decode cX11_wholeMean 69 = .ok (.lload 5, 2) := by decide +kernel
theorem dX11_wholeMean_71 : decode cX11_wholeMean 71 = .ok (.aload_n 2, 1) := by decide +kernel
theorem dX11_wholeMean_72 : decode cX11_wholeMean 72 = .ok (.getfield 134, 3) := by decide +kernel
theorem dX11_wholeMean_75 : decode cX11_wholeMean 75 = .ok (.iload 7, 2) := by decide +kernel
theorem dX11_wholeMean_77 : decode cX11_wholeMean 77 = .ok (.laload, 1) := by decide +kernel
theorem dX11_wholeMean_78 : decode cX11_wholeMean 78 = .ok (.ladd, 1) := by decide +kernel
theorem dX11_wholeMean_79 : decode cX11_wholeMean 79 = .ok (.lstore 5, 2) := by decide +kernel
theorem dX11_wholeMean_81 : decode cX11_wholeMean 81 = .ok (.iinc 7 1, 3) := by decide +kernel
theorem dX11_wholeMean_84 : decode cX11_wholeMean 84 = .ok (.goto (-22), 3) := by decide +kernel
theorem dX11_wholeMean_87 : decode cX11_wholeMean 87 = .ok (.aload_n 0, 1) := by decide +kernel
theorem dX11_wholeMean_88 : decode cX11_wholeMean 88 = .ok (.lload 5, 2) := by decide +kernel
theorem dX11_wholeMean_90 : decode cX11_wholeMean 90 = .ok (.iload 4, 2) := by decide +kernel
theorem dX11_wholeMean_92 : decode cX11_wholeMean 92 = .ok (.i2l, 1) := by decide +kernel
theorem dX11_wholeMean_93 : decode cX11_wholeMean 93 = .ok (.ldiv, 1) := by decide +kernel
theorem dX11_wholeMean_94 : decode cX11_wholeMean 94 = .ok (.l2i, 1) := by decide +kernel
theorem dX11_wholeMean_95 : decode cX11_wholeMean 95 = .ok (.putfield 257, 3) := by decide +kernel
theorem dX11_wholeMean_98 : decode cX11_wholeMean 98 = .ok (.iconst 1, 1) := by decide +kernel
theorem dX11_wholeMean_99 : decode cX11_wholeMean 99 = .ok (.ireturn, 1) := by decide +kernel
theorem dX11_salt_0 : decode cX11_salt 0 = .ok (.iload_n 1, 1) := by decide +kernel
theorem dX11_salt_1 : decode cX11_salt 1 = .ok (.ifCond .lt 38, 3) := by decide +kernel
theorem dX11_salt_4 : decode cX11_salt 4 = .ok (.iload_n 1, 1) := by decide +kernel
theorem dX11_salt_5 : decode cX11_salt 5 = .ok (.iconst 5, 1) := by decide +kernel
theorem dX11_salt_6 : decode cX11_salt 6 = .ok (.if_icmp .gt 33, 3) := by decide +kernel
theorem dX11_salt_9 : decode cX11_salt 9 = .ok (.iload_n 2, 1) := by decide +kernel
theorem dX11_salt_10 : decode cX11_salt 10 = .ok (.ifCond .lt 29, 3) := by decide +kernel
theorem dX11_salt_13 : decode cX11_salt 13 = .ok (.iload_n 2, 1) := by decide +kernel
theorem dX11_salt_14 : decode cX11_salt 14 = .ok (.iconst 2, 1) := by decide +kernel
theorem dX11_salt_15 : decode cX11_salt 15 = .ok (.if_icmp .gt 24, 3) := by decide +kernel
theorem dX11_salt_18 : decode cX11_salt 18 = .ok (.iload_n 3, 1) := by decide +kernel
theorem dX11_salt_19 : decode cX11_salt 19 = .ok (.ifCond .lt 20, 3) := by decide +kernel
theorem dX11_salt_22 : decode cX11_salt 22 = .ok (.iload_n 3, 1) := by decide +kernel
theorem dX11_salt_23 : decode cX11_salt 23 = .ok (.iload_n 1, 1) := by decide +kernel
theorem dX11_salt_24 : decode cX11_salt 24 = .ok (.iconst 4, 1) := by decide +kernel
theorem dX11_salt_25 : decode cX11_salt 25 = .ok (.if_icmp .ge 8, 3) := by decide +kernel
theorem dX11_salt_28 : decode cX11_salt 28 = .ok (.bipush 99, 2) := by decide +kernel
theorem dX11_salt_30 : decode cX11_salt 30 = .ok (.goto 6, 3) := by decide +kernel
theorem dX11_salt_33 : decode cX11_salt 33 = .ok (.sipush 999, 3) := by decide +kernel
theorem dX11_salt_36 : decode cX11_salt 36 = .ok (.if_icmp .le 6, 3) := by decide +kernel
theorem dX11_salt_39 : decode cX11_salt 39 = .ok (.bipush (-2), 2) := by decide +kernel
theorem dX11_salt_41 : decode cX11_salt 41 = .ok (.ireturn, 1) := by decide +kernel
theorem dX11_salt_42 : decode cX11_salt 42 = .ok (.aload_n 0, 1) := by decide +kernel
theorem dX11_salt_43 : decode cX11_salt 43 = .ok (.getfield 51, 3) := by decide +kernel
theorem dX11_salt_46 : decode cX11_salt 46 = .ok (.iload_n 1, 1) := by decide +kernel
theorem dX11_salt_47 : decode cX11_salt 47 = .ok (.iload_n 2, 1) := by decide +kernel
theorem dX11_salt_48 : decode cX11_salt 48 = .ok (.iload_n 3, 1) := by decide +kernel
theorem dX11_salt_49 : decode cX11_salt 49 = .ok (.invokevirtual 430, 3) := by decide +kernel
theorem dX11_salt_52 : decode cX11_salt 52 = .ok (.ireturn, 1) := by decide +kernel
theorem dX11_work_0 : decode cX11_work 0 = .ok (.aload_n 0, 1) := by decide +kernel
theorem dX11_work_1 : decode cX11_work 1 = .ok (.getfield 51, 3) := by decide +kernel
theorem dX11_work_4 : decode cX11_work 4 = .ok (.invokevirtual 433, 3) := by decide +kernel
theorem dX11_work_7 : decode cX11_work 7 = .ok (.ireturn, 1) := by decide +kernel
theorem dX11_worked_0 : decode cX11_worked 0 = .ok (.aload_n 0, 1) := by decide +kernel
theorem dX11_worked_1 : decode cX11_worked 1 = .ok (.getfield 51, 3) := by decide +kernel
theorem dX11_worked_4 : decode cX11_worked 4 = .ok (.iload_n 1, 1) := by decide +kernel
theorem dX11_worked_5 : decode cX11_worked 5 = .ok (.iload_n 2, 1) := by decide +kernel
theorem dX11_worked_6 : decode cX11_worked 6 = .ok (.invokevirtual 436, 3) := by decide +kernel
theorem dX11_worked_9 : decode cX11_worked 9 = .ok (.lreturn, 1) := by decide +kernel
theorem dX11_count_0 : decode cX11_count 0 = .ok (.iload_n 1, 1) := by decide +kernel
theorem dX11_count_1 : decode cX11_count 1 = .ok (.invokestatic 440, 3) := by decide +kernel
theorem dX11_count_4 : decode cX11_count 4 = .ok (.ifCond .eq 23, 3) := by decide +kernel
theorem dX11_count_7 : decode cX11_count 7 = .ok (.iload_n 2, 1) := by decide +kernel
theorem dX11_count_8 : decode cX11_count 8 = .ok (.invokestatic 443, 3) := by decide +kernel
theorem dX11_count_11 : decode cX11_count 11 = .ok (.ifCond .eq 16, 3) := by decide +kernel
theorem dX11_count_14 : decode cX11_count 14 = .ok (.iload_n 3, 1) := by decide +kernel
theorem dX11_count_15 : decode cX11_count 15 = .ok (.ifCond .lt 12, 3) := by decide +kernel
theorem dX11_count_18 : decode cX11_count 18 = .ok (.iload_n 3, 1) := by decide +kernel
theorem dX11_count_19 : decode cX11_count 19 = .ok (.i2l, 1) := by decide +kernel
theorem dX11_count_20 : decode cX11_count 20 = .ok (.ldc2_w 446, 3) := by decide +kernel
theorem dX11_count_23 : decode cX11_count 23 = .ok (.lcmp, 1) := by decide +kernel
theorem dX11_count_24 : decode cX11_count 24 = .ok (.ifCond .le 6, 3) := by decide +kernel
theorem dX11_count_27 : decode cX11_count 27 = .ok (.bipush (-2), 2) := by decide +kernel
theorem dX11_count_29 : decode cX11_count 29 = .ok (.ireturn, 1) := by decide +kernel
theorem dX11_count_30 : decode cX11_count 30 = .ok (.aload_n 0, 1) := by decide +kernel
theorem dX11_count_31 : decode cX11_count 31 = .ok (.getfield 58, 3) := by decide +kernel
theorem dX11_count_34 : decode cX11_count 34 = .ok (.getfield 448, 3) := by decide +kernel
theorem dX11_count_37 : decode cX11_count 37 = .ok (.iload_n 1, 1) := by decide +kernel
theorem dX11_count_38 : decode cX11_count 38 = .ok (.aaload, 1) := by decide +kernel
theorem dX11_count_39 : decode cX11_count 39 = .ok (.iload_n 2, 1) := by decide +kernel
theorem dX11_count_40 : decode cX11_count 40 = .ok (.iload_n 3, 1) := by decide +kernel
theorem dX11_count_41 : decode cX11_count 41 = .ok (.i2l, 1) := by decide +kernel
theorem dX11_count_42 : decode cX11_count 42 = .ok (.lastore, 1) := by decide +kernel
theorem dX11_count_43 : decode cX11_count 43 = .ok (.iconst 1, 1) := by decide +kernel
theorem dX11_count_44 : decode cX11_count 44 = .ok (.ireturn, 1) := by decide +kernel
theorem dX11_parts_0 : decode cX11_parts 0 = .ok (.iload_n 1, 1) := by decide +kernel
theorem dX11_parts_1 : decode cX11_parts 1 = .ok (.invokestatic 440, 3) := by decide +kernel
theorem dX11_parts_4 : decode cX11_parts 4 = .ok (.ifCond .eq 33, 3) := by decide +kernel
theorem dX11_parts_7 : decode cX11_parts 7 = .ok (.iload_n 2, 1) := by decide +kernel
theorem dX11_parts_8 : decode cX11_parts 8 = .ok (.invokestatic 443, 3) := by decide +kernel
theorem dX11_parts_11 : decode cX11_parts 11 = .ok (.ifCond .eq 26, 3) := by decide +kernel
theorem dX11_parts_14 : decode cX11_parts 14 = .ok (.iload_n 3, 1) := by decide +kernel
theorem dX11_parts_15 : decode cX11_parts 15 = .ok (.invokestatic 451, 3) := by decide +kernel
theorem dX11_parts_18 : decode cX11_parts 18 = .ok (.ifCond .eq 19, 3) := by decide +kernel
theorem dX11_parts_21 : decode cX11_parts 21 = .ok (.iload 4, 2) := by decide +kernel
theorem dX11_parts_23 : decode cX11_parts 23 = .ok (.invokestatic 451, 3) := by decide +kernel
theorem dX11_parts_26 : decode cX11_parts 26 = .ok (.ifCond .eq 11, 3) := by decide +kernel
theorem dX11_parts_29 : decode cX11_parts 29 = .ok (.iload 5, 2) := by decide +kernel
theorem dX11_parts_31 : decode cX11_parts 31 = .ok (.invokestatic 451, 3) := by decide +kernel
theorem dX11_parts_34 : decode cX11_parts 34 = .ok (.ifCond .ne 6, 3) := by decide +kernel
theorem dX11_parts_37 : decode cX11_parts 37 = .ok (.bipush (-2), 2) := by decide +kernel
theorem dX11_parts_39 : decode cX11_parts 39 = .ok (.ireturn, 1) := by decide +kernel
theorem dX11_parts_40 : decode cX11_parts 40 = .ok (.aload_n 0, 1) := by decide +kernel
theorem dX11_parts_41 : decode cX11_parts 41 = .ok (.getfield 58, 3) := by decide +kernel
theorem dX11_parts_44 : decode cX11_parts 44 = .ok (.iload_n 1, 1) := by decide +kernel
theorem dX11_parts_45 : decode cX11_parts 45 = .ok (.iload_n 2, 1) := by decide +kernel
theorem dX11_parts_46 : decode cX11_parts 46 = .ok (.iload_n 3, 1) := by decide +kernel
theorem dX11_parts_47 : decode cX11_parts 47 = .ok (.iload 4, 2) := by decide +kernel
theorem dX11_parts_49 : decode cX11_parts 49 = .ok (.iload 5, 2) := by decide +kernel
theorem dX11_parts_51 : decode cX11_parts 51 = .ok (.invokevirtual 454, 3) := by decide +kernel
theorem dX11_parts_54 : decode cX11_parts 54 = .ok (.iconst 1, 1) := by decide +kernel
theorem dX11_parts_55 : decode cX11_parts 55 = .ok (.ireturn, 1) := by decide +kernel
theorem dX11_day_0 : decode cX11_day 0 = .ok (.iload_n 1, 1) := by decide +kernel
theorem dX11_day_1 : decode cX11_day 1 = .ok (.iconst 1, 1) := by decide +kernel
theorem dX11_day_2 : decode cX11_day 2 = .ok (.if_icmp .lt 9, 3) := by decide +kernel
theorem dX11_day_5 : decode cX11_day 5 = .ok (.iload_n 1, 1) := by decide +kernel
theorem dX11_day_6 : decode cX11_day 6 = .ok (.bipush 50, 2) := by decide +kernel
theorem dX11_day_8 : decode cX11_day 8 = .ok (.if_icmp .le 6, 3) := by decide +kernel
theorem dX11_day_11 : decode cX11_day 11 = .ok (.bipush (-2), 2) := by decide +kernel
theorem dX11_day_13 : decode cX11_day 13 = .ok (.ireturn, 1) := by decide +kernel
theorem dX11_day_14 : decode cX11_day 14 = .ok (.aload_n 0, 1) := by decide +kernel
theorem dX11_day_15 : decode cX11_day 15 = .ok (.getfield 58, 3) := by decide +kernel
theorem dX11_day_18 : decode cX11_day 18 = .ok (.getfield 458, 3) := by decide +kernel
theorem dX11_day_21 : decode cX11_day 21 = .ok (.iload_n 1, 1) := by decide +kernel
theorem dX11_day_22 : decode cX11_day 22 = .ok (.iadd, 1) := by decide +kernel
theorem dX11_day_23 : decode cX11_day 23 = .ok (.sipush 10000, 3) := by decide +kernel
theorem dX11_day_26 : decode cX11_day 26 = .ok (.if_icmp .le 6, 3) := by decide +kernel
theorem dX11_day_29 : decode cX11_day 29 = .ok (.bipush (-4), 2) := by decide +kernel
theorem dX11_day_31 : decode cX11_day 31 = .ok (.ireturn, 1) := by decide +kernel
theorem dX11_day_32 : decode cX11_day 32 = .ok (.iconst 0, 1) := by decide +kernel
theorem dX11_day_33 : decode cX11_day 33 = .ok (.istore_n 2, 1) := by decide +kernel
theorem dX11_day_34 : decode cX11_day 34 = .ok (.iload_n 2, 1) := by decide +kernel
theorem dX11_day_35 : decode cX11_day 35 = .ok (.iload_n 1, 1) := by decide +kernel
theorem dX11_day_36 : decode cX11_day 36 = .ok (.if_icmp .ge 16, 3) := by decide +kernel
theorem dX11_day_39 : decode cX11_day 39 = .ok (.aload_n 0, 1) := by decide +kernel
theorem dX11_day_40 : decode cX11_day 40 = .ok (.getfield 58, 3) := by decide +kernel
theorem dX11_day_43 : decode cX11_day 43 = .ok (.invokevirtual 461, 3) := by decide +kernel
theorem dX11_day_46 : decode cX11_day 46 = .ok (.iinc 2 1, 3) := by decide +kernel
theorem dX11_day_49 : decode cX11_day 49 = .ok (.goto (-15), 3) := by decide +kernel
theorem dX11_day_52 : decode cX11_day 52 = .ok (.aload_n 0, 1) := by decide +kernel
theorem dX11_day_53 : decode cX11_day 53 = .ok (.getfield 58, 3) := by decide +kernel
theorem dX11_day_56 : decode cX11_day 56 = .ok (.getfield 458, 3) := by decide +kernel
theorem dX11_day_59 : decode cX11_day 59 = .ok (.ireturn, 1) := by decide +kernel
theorem dX11_spray_0 : decode cX11_spray 0 = .ok (.iload_n 1, 1) := by decide +kernel
theorem dX11_spray_1 : decode cX11_spray 1 = .ok (.invokestatic 440, 3) := by decide +kernel
theorem dX11_spray_4 : decode cX11_spray 4 = .ok (.ifCond .ne 6, 3) := by decide +kernel
theorem dX11_spray_7 : decode cX11_spray 7 = .ok (.bipush (-2), 2) := by decide +kernel
theorem dX11_spray_9 : decode cX11_spray 9 = .ok (.ireturn, 1) := by decide +kernel
theorem dX11_spray_10 : decode cX11_spray 10 = .ok (.aload_n 0, 1) := by decide +kernel
theorem dX11_spray_11 : decode cX11_spray 11 = .ok (.getfield 58, 3) := by decide +kernel
theorem dX11_spray_14 : decode cX11_spray 14 = .ok (.iload_n 1, 1) := by decide +kernel
theorem dX11_spray_15 : decode cX11_spray 15 = .ok (.invokevirtual 464, 3) := by decide +kernel
theorem dX11_spray_18 : decode cX11_spray 18 = .ok (.iconst 1, 1) := by decide +kernel
theorem dX11_spray_19 : decode cX11_spray 19 = .ok (.ireturn, 1) := by decide +kernel
theorem dX11_pest_0 : decode cX11_pest 0 = .ok (.iload_n 1, 1) := by decide +kernel
theorem dX11_pest_1 : decode cX11_pest 1 = .ok (.invokestatic 440, 3) := by decide +kernel
theorem dX11_pest_4 : decode cX11_pest 4 = .ok (.ifCond .eq 25, 3) := by decide +kernel
theorem dX11_pest_7 : decode cX11_pest 7 = .ok (.iload_n 2, 1) := by decide +kernel
theorem dX11_pest_8 : decode cX11_pest 8 = .ok (.invokestatic 443, 3) := by decide +kernel
theorem dX11_pest_11 : decode cX11_pest 11 = .ok (.ifCond .eq 18, 3) := by decide +kernel
theorem dX11_pest_14 : decode cX11_pest 14 = .ok (.aload_n 0, 1) := by decide +kernel
theorem dX11_pest_15 : decode cX11_pest 15 = .ok (.getfield 58, 3) := by decide +kernel
theorem dX11_pest_18 : decode cX11_pest 18 = .ok (.getfield 448, 3) := by decide +kernel
theorem dX11_pest_21 : decode cX11_pest 21 = .ok (.iload_n 1, 1) := by decide +kernel
theorem dX11_pest_22 : decode cX11_pest 22 = .ok (.aaload, 1) := by decide +kernel
theorem dX11_pest_23 : decode cX11_pest 23 = .ok (.iload_n 2, 1) := by decide +kernel
theorem dX11_pest_24 : decode cX11_pest 24 = .ok (.laload, 1) := by decide +kernel
theorem dX11_pest_25 : decode cX11_pest 25 = .ok (.l2i, 1) := by decide +kernel
theorem dX11_pest_26 : decode cX11_pest 26 = .ok (.goto 5, 3) := by decide +kernel
theorem dX11_pest_29 : decode cX11_pest 29 = .ok (.bipush (-2), 2) := by decide +kernel
theorem dX11_pest_31 : decode cX11_pest 31 = .ok (.ireturn, 1) := by decide +kernel
theorem dX11_wait1_0 : decode cX11_wait1 0 = .ok (.aload_n 0, 1) := by decide +kernel
theorem dX11_wait1_1 : decode cX11_wait1 1 = .ok (.getfield 58, 3) := by decide +kernel
theorem dX11_wait1_4 : decode cX11_wait1 4 = .ok (.getfield 468, 3) := by decide +kernel
theorem dX11_wait1_7 : decode cX11_wait1 7 = .ok (.ireturn, 1) := by decide +kernel
theorem dX11_write_0 : decode cX11_write 0 = .ok (.iload_n 1, 1) := by decide +kernel
theorem dX11_write_1 : decode cX11_write 1 = .ok (.invokestatic 76, 3) := by decide +kernel
theorem dX11_write_4 : decode cX11_write 4 = .ok (.ifCond .ne 6, 3) := by decide +kernel
theorem dX11_write_7 : decode cX11_write 7 = .ok (.bipush (-2), 2) := by decide +kernel
theorem dX11_write_9 : decode cX11_write 9 = .ok (.ireturn, 1) := by decide +kernel
theorem dX11_write_10 : decode cX11_write 10 = .ok (.aload_n 0, 1) := by decide +kernel
theorem dX11_write_11 : decode cX11_write 11 = .ok (.getfield 20, 3) := by decide +kernel
theorem dX11_write_14 : decode cX11_write 14 = .ok (.iload_n 1, 1) := by decide +kernel
theorem dX11_write_15 : decode cX11_write 15 = .ok (.aaload, 1) := by decide +kernel
theorem dX11_write_16 : decode cX11_write 16 = .ok (.astore_n 2, 1) := by decide +kernel
theorem dX11_write_17 : decode cX11_write 17 = .ok (.aload_n 2, 1) := by decide +kernel
theorem dX11_write_18 : decode cX11_write 18 = .ok (.ifnonnull 9, 3) := by decide +kernel
theorem dX11_write_21 : decode cX11_write 21 = .ok (.aload_n 0, 1) := by decide +kernel
theorem dX11_write_22 : decode cX11_write 22 = .ok (.iconst 1, 1) := by decide +kernel
theorem dX11_write_23 : decode cX11_write 23 = .ok (.invokevirtual 87, 3) := by decide +kernel
theorem dX11_write_26 : decode cX11_write 26 = .ok (.ireturn, 1) := by decide +kernel
theorem dX11_write_27 : decode cX11_write 27 = .ok (.aload_n 2, 1) := by decide +kernel
theorem dX11_write_28 : decode cX11_write 28 = .ok (.getfield 113, 3) := by decide +kernel
theorem dX11_write_31 : decode cX11_write 31 = .ok (.invokestatic 471, 3) := by decide +kernel
theorem dX11_write_34 : decode cX11_write 34 = .ok (.ifCond .ne 9, 3) := by decide +kernel
theorem dX11_write_37 : decode cX11_write 37 = .ok (.aload_n 0, 1) := by decide +kernel
theorem dX11_write_38 : decode cX11_write 38 = .ok (.iconst 4, 1) := by decide +kernel
theorem dX11_write_39 : decode cX11_write 39 = .ok (.invokevirtual 87, 3) := by decide +kernel
theorem dX11_write_42 : decode cX11_write 42 = .ok (.ireturn, 1) := by decide +kernel
theorem dX11_write_43 : decode cX11_write 43 = .ok (.aload_n 0, 1) := by decide +kernel
theorem dX11_write_44 : decode cX11_write 44 = .ok (.getfield 65, 3) := by decide +kernel
theorem dX11_write_47 : decode cX11_write 47 = .ok (.aload_n 2, 1) := by decide +kernel
theorem dX11_write_48 : decode cX11_write 48 = .ok (.getfield 113, 3) := by decide +kernel
theorem dX11_write_51 : decode cX11_write 51 = .ok (.aload_n 2, 1) := by decide +kernel
theorem dX11_write_52 : decode cX11_write 52 = .ok (.getfield 134, 3) := by decide +kernel
theorem dX11_write_55 : decode cX11_write 55 = .ok (.invokevirtual 474, 3) := by decide +kernel
theorem dX11_write_58 : decode cX11_write 58 = .ok (.ireturn, 1) := by decide +kernel
theorem dX11_power_0 : decode cX11_power 0 = .ok (.iload_n 1, 1) := by decide +kernel
theorem dX11_power_1 : decode cX11_power 1 = .ok (.iconst (-1), 1) := by decide +kernel
theorem dX11_power_2 : decode cX11_power 2 = .ok (.if_icmp .lt 10, 3) := by decide +kernel
theorem dX11_power_5 : decode cX11_power 5 = .ok (.iload_n 1, 1) := by decide +kernel
theorem dX11_power_6 : decode cX11_power 6 = .ok (.sipush 200, 3) := by decide +kernel
theorem dX11_power_9 : decode cX11_power 9 = .ok (.if_icmp .le 6, 3) := by decide +kernel
theorem dX11_power_12 : decode cX11_power 12 = .ok (.bipush (-2), 2) := by decide +kernel
theorem dX11_power_14 : decode cX11_power 14 = .ok (.ireturn, 1) := by decide +kernel
theorem dX11_power_15 : decode cX11_power 15 = .ok (.aload_n 0, 1) := by decide +kernel
theorem dX11_power_16 : decode cX11_power 16 = .ok (.getfield 65, 3) := by decide +kernel
theorem dX11_power_19 : decode cX11_power 19 = .ok (.iload_n 1, 1) := by decide +kernel
theorem dX11_power_20 : decode cX11_power 20 = .ok (.invokevirtual 478, 3) := by decide +kernel
theorem dX11_power_23 : decode cX11_power 23 = .ok (.ireturn, 1) := by decide +kernel
theorem dX11_open1_0 : decode cX11_open1 0 = .ok (.aload_n 0, 1) := by decide +kernel
theorem dX11_open1_1 : decode cX11_open1 1 = .ok (.getfield 65, 3) := by decide +kernel
theorem dX11_open1_4 : decode cX11_open1 4 = .ok (.invokevirtual 481, 3) := by decide +kernel
theorem dX11_open1_7 : decode cX11_open1 7 = .ok (.ireturn, 1) := by decide +kernel
theorem dX11_page_0 : decode cX11_page 0 = .ok (.aload_n 0, 1) := by decide +kernel
theorem dX11_page_1 : decode cX11_page 1 = .ok (.getfield 65, 3) := by decide +kernel
theorem dX11_page_4 : decode cX11_page 4 = .ok (.iload_n 1, 1) := by decide +kernel
theorem dX11_page_5 : decode cX11_page 5 = .ok (.iload_n 2, 1) := by decide +kernel
theorem dX11_page_6 : decode cX11_page 6 = .ok (.invokevirtual 484, 3) := by decide +kernel
theorem dX11_page_9 : decode cX11_page 9 = .ok (.lreturn, 1) := by decide +kernel
theorem dX11_octet_0 : decode cX11_octet 0 = .ok (.iload_n 1, 1) := by decide +kernel
theorem dX11_octet_1 : decode cX11_octet 1 = .ok (.iload_n 2, 1) := by decide +kernel
theorem dX11_octet_2 : decode cX11_octet 2 = .ok (.invokestatic 487, 3) := by decide +kernel
theorem dX11_octet_5 : decode cX11_octet 5 = .ok (.ifCond .eq 20, 3) := by decide +kernel
theorem dX11_octet_8 : decode cX11_octet 8 = .ok (.aload_n 0, 1) := by decide +kernel
theorem dX11_octet_9 : decode cX11_octet 9 = .ok (.getfield 65, 3) := by decide +kernel
theorem dX11_octet_12 : decode cX11_octet 12 = .ok (.getfield 490, 3) := by decide +kernel
theorem dX11_octet_15 : decode cX11_octet 15 = .ok (.iload_n 1, 1) := by decide +kernel
theorem dX11_octet_16 : decode cX11_octet 16 = .ok (.bipush 64, 2) := by decide +kernel
theorem dX11_octet_18 : decode cX11_octet 18 = .ok (.imul, 1) := by decide +kernel
theorem dX11_octet_19 : decode cX11_octet 19 = .ok (.iload_n 2, 1) := by decide +kernel
theorem dX11_octet_20 : decode cX11_octet 20 = .ok (.iadd, 1) := by decide +kernel
theorem dX11_octet_21 : decode cX11_octet 21 = .ok (.iaload, 1) := by decide +kernel
theorem dX11_octet_22 : decode cX11_octet 22 = .ok (.goto 5, 3) := by decide +kernel
theorem dX11_octet_25 : decode cX11_octet 25 = .ok (.bipush (-2), 2) := by decide +kernel
theorem dX11_octet_27 : decode cX11_octet 27 = .ok (.ireturn, 1) := by decide +kernel
theorem dX11_damage_0 : decode cX11_damage 0 = .ok (.iload_n 1, 1) := by decide +kernel
theorem dX11_damage_1 : decode cX11_damage 1 = .ok (.iload_n 2, 1) := by decide +kernel
theorem dX11_damage_2 : decode cX11_damage 2 = .ok (.invokestatic 487, 3) := by decide +kernel
theorem dX11_damage_5 : decode cX11_damage 5 = .ok (.ifCond .eq 14, 3) := by decide +kernel
theorem dX11_damage_8 : decode cX11_damage 8 = .ok (.iload_n 3, 1) := by decide +kernel
theorem dX11_damage_9 : decode cX11_damage 9 = .ok (.ifCond .lt 10, 3) := by decide +kernel
theorem dX11_damage_12 : decode cX11_damage 12 = .ok (.iload_n 3, 1) := by decide +kernel
theorem dX11_damage_13 : decode cX11_damage 13 = .ok (.sipush 255, 3) := by decide +kernel
theorem dX11_damage_16 : decode cX11_damage 16 = .ok (.if_icmp .le 6, 3) := by decide +kernel
theorem dX11_damage_19 : decode cX11_damage 19 = .ok (.bipush (-2), 2) := by decide +kernel
theorem dX11_damage_21 : decode cX11_damage 21 = .ok (.ireturn, 1) := by decide +kernel
theorem dX11_damage_22 : decode cX11_damage 22 = .ok (.aload_n 0, 1) := by decide +kernel
theorem dX11_damage_23 : decode cX11_damage 23 = .ok (.getfield 65, 3) := by decide +kernel
theorem dX11_damage_26 : decode cX11_damage 26 = .ok (.getfield 490, 3) := by decide +kernel
theorem dX11_damage_29 : decode cX11_damage 29 = .ok (.iload_n 1, 1) := by decide +kernel
theorem dX11_damage_30 : decode cX11_damage 30 = .ok (.bipush 64, 2) := by decide +kernel
theorem dX11_damage_32 : decode cX11_damage 32 = .ok (.imul, 1) := by decide +kernel
theorem dX11_damage_33 : decode cX11_damage 33 = .ok (.iload_n 2, 1) := by decide +kernel
theorem dX11_damage_34 : decode cX11_damage 34 = .ok (.iadd, 1) := by decide +kernel
theorem dX11_damage_35 : decode cX11_damage 35 = .ok (.dup2, 1) := by decide +kernel
theorem dX11_damage_36 : decode cX11_damage 36 = .ok (.iaload, 1) := by decide +kernel
theorem dX11_damage_37 : decode cX11_damage 37 = .ok (.iload_n 3, 1) := by decide +kernel
theorem dX11_damage_38 : decode cX11_damage 38 = .ok (.ixor, 1) := by decide +kernel
theorem dX11_damage_39 : decode cX11_damage 39 = .ok (.iastore, 1) := by decide +kernel
theorem dX11_damage_40 : decode cX11_damage 40 = .ok (.aload_n 0, 1) := by decide +kernel
theorem dX11_damage_41 : decode cX11_damage 41 = .ok (.getfield 65, 3) := by decide +kernel
theorem dX11_damage_44 : decode cX11_damage 44 = .ok (.getfield 490, 3) := by decide +kernel
theorem dX11_damage_47 : decode cX11_damage 47 = .ok (.iload_n 1, 1) := by decide +kernel
theorem dX11_damage_48 : decode cX11_damage 48 = .ok (.bipush 64, 2) := by decide +kernel
theorem dX11_damage_50 : decode cX11_damage 50 = .ok (.imul, 1) := by decide +kernel
theorem dX11_damage_51 : decode cX11_damage 51 = .ok (.iload_n 2, 1) := by decide +kernel
theorem dX11_damage_52 : decode cX11_damage 52 = .ok (.iadd, 1) := by decide +kernel
theorem dX11_damage_53 : decode cX11_damage 53 = .ok (.iaload, 1) := by decide +kernel
theorem dX11_damage_54 : decode cX11_damage 54 = .ok (.ireturn, 1) := by decide +kernel
theorem dX11_told_0 : decode cX11_told 0 = .ok (.iload_n 1, 1) := by decide +kernel
theorem dX11_told_1 : decode cX11_told 1 = .ok (.tableswitch 149 0 10 #[59, 67, 72, 77, 85, 93, 109, 117, 125, 133, 141], 59) := by decide +kernel
theorem dX11_told_60 : decode cX11_told 60 = .ok (.aload_n 0, 1) := by decide +kernel
theorem dX11_told_61 : decode cX11_told 61 = .ok (.getfield 39, 3) := by decide +kernel
theorem dX11_told_64 : decode cX11_told 64 = .ok (.getfield 388, 3) := by decide +kernel
theorem dX11_told_67 : decode cX11_told 67 = .ok (.ireturn, 1) := by decide +kernel
theorem dX11_told_68 : decode cX11_told 68 = .ok (.aload_n 0, 1) := by decide +kernel
theorem dX11_told_69 : decode cX11_told 69 = .ok (.getfield 243, 3) := by decide +kernel
theorem dX11_told_72 : decode cX11_told 72 = .ok (.ireturn, 1) := by decide +kernel
theorem dX11_told_73 : decode cX11_told 73 = .ok (.aload_n 0, 1) := by decide +kernel
theorem dX11_told_74 : decode cX11_told 74 = .ok (.getfield 295, 3) := by decide +kernel
theorem dX11_told_77 : decode cX11_told 77 = .ok (.ireturn, 1) := by decide +kernel
theorem dX11_told_78 : decode cX11_told 78 = .ok (.aload_n 0, 1) := by decide +kernel
theorem dX11_told_79 : decode cX11_told 79 = .ok (.getfield 65, 3) := by decide +kernel
theorem dX11_told_82 : decode cX11_told 82 = .ok (.getfield 493, 3) := by decide +kernel
theorem dX11_told_85 : decode cX11_told 85 = .ok (.ireturn, 1) := by decide +kernel
theorem dX11_told_86 : decode cX11_told 86 = .ok (.aload_n 0, 1) := by decide +kernel
theorem dX11_told_87 : decode cX11_told 87 = .ok (.getfield 65, 3) := by decide +kernel
theorem dX11_told_90 : decode cX11_told 90 = .ok (.getfield 496, 3) := by decide +kernel
theorem dX11_told_93 : decode cX11_told 93 = .ok (.ireturn, 1) := by decide +kernel
theorem dX11_told_94 : decode cX11_told 94 = .ok (.aload_n 0, 1) := by decide +kernel
theorem dX11_told_95 : decode cX11_told 95 = .ok (.getfield 65, 3) := by decide +kernel
theorem dX11_told_98 : decode cX11_told 98 = .ok (.getfield 499, 3) := by decide +kernel
theorem dX11_told_101 : decode cX11_told 101 = .ok (.ifCond .eq 7, 3) := by decide +kernel
theorem dX11_told_104 : decode cX11_told 104 = .ok (.iconst 1, 1) := by decide +kernel
theorem dX11_told_105 : decode cX11_told 105 = .ok (.goto 4, 3) := by decide +kernel
theorem dX11_told_108 : decode cX11_told 108 = .ok (.iconst 0, 1) := by decide +kernel
theorem dX11_told_109 : decode cX11_told 109 = .ok (.ireturn, 1) := by decide +kernel
theorem dX11_told_110 : decode cX11_told 110 = .ok (.aload_n 0, 1) := by decide +kernel
theorem dX11_told_111 : decode cX11_told 111 = .ok (.getfield 65, 3) := by decide +kernel
theorem dX11_told_114 : decode cX11_told 114 = .ok (.invokevirtual 503, 3) := by decide +kernel
theorem dX11_told_117 : decode cX11_told 117 = .ok (.ireturn, 1) := by decide +kernel
theorem dX11_told_118 : decode cX11_told 118 = .ok (.aload_n 0, 1) := by decide +kernel
theorem dX11_told_119 : decode cX11_told 119 = .ok (.getfield 58, 3) := by decide +kernel
theorem dX11_told_122 : decode cX11_told 122 = .ok (.getfield 458, 3) := by decide +kernel
theorem dX11_told_125 : decode cX11_told 125 = .ok (.ireturn, 1) := by decide +kernel
theorem dX11_told_126 : decode cX11_told 126 = .ok (.aload_n 0, 1) := by decide +kernel
theorem dX11_told_127 : decode cX11_told 127 = .ok (.getfield 65, 3) := by decide +kernel
theorem dX11_told_130 : decode cX11_told 130 = .ok (.invokevirtual 506, 3) := by decide +kernel
theorem dX11_told_133 : decode cX11_told 133 = .ok (.ireturn, 1) := by decide +kernel
theorem dX11_told_134 : decode cX11_told 134 = .ok (.aload_n 0, 1) := by decide +kernel
theorem dX11_told_135 : decode cX11_told 135 = .ok (.getfield 30, 3) := by decide +kernel
theorem dX11_told_138 : decode cX11_told 138 = .ok (.invokevirtual 509, 3) := by decide +kernel
theorem dX11_told_141 : decode cX11_told 141 = .ok (.ireturn, 1) := by decide +kernel
theorem dX11_told_142 : decode cX11_told 142 = .ok (.aload_n 0, 1) := by decide +kernel
theorem dX11_told_143 : decode cX11_told 143 = .ok (.getfield 47, 3) := by decide +kernel
theorem dX11_told_146 : decode cX11_told 146 = .ok (.getfield 512, 3) := by decide +kernel
theorem dX11_told_149 : decode cX11_told 149 = .ok (.ireturn, 1) := by decide +kernel
theorem dX11_told_150 : decode cX11_told 150 = .ok (.bipush (-2), 2) := by decide +kernel
theorem dX11_told_152 : decode cX11_told 152 = .ok (.ireturn, 1) := by decide +kernel
theorem dX11_fault_0 : decode cX11_fault 0 = .ok (.aload_n 0, 1) := by decide +kernel
theorem dX11_fault_1 : decode cX11_fault 1 = .ok (.getfield 304, 3) := by decide +kernel
theorem dX11_fault_4 : decode cX11_fault 4 = .ok (.ireturn, 1) := by decide +kernel
theorem dX11_isBin_0 : decode cX11_isBin 0 = .ok (.iload_n 0, 1) := by decide +kernel
theorem dX11_isBin_1 : decode cX11_isBin 1 = .ok (.ifCond .lt 13, 3) := by decide +kernel
theorem dX11_isBin_4 : decode cX11_isBin 4 = .ok (.iload_n 0, 1) := by decide +kernel
theorem dX11_isBin_5 : decode cX11_isBin 5 = .ok (.bipush 16, 2) := by decide +kernel
theorem dX11_isBin_7 : decode cX11_isBin 7 = .ok (.if_icmp .ge 7, 3) := by decide +kernel
theorem dX11_isBin_10 : decode cX11_isBin 10 = .ok (.iconst 1, 1) := by decide +kernel
theorem dX11_isBin_11 : decode cX11_isBin 11 = .ok (.goto 4, 3) := by decide +kernel
theorem dX11_isBin_14 : decode cX11_isBin 14 = .ok (.iconst 0, 1) := by decide +kernel
theorem dX11_isBin_15 : decode cX11_isBin 15 = .ok (.ireturn, 1) := by decide +kernel
theorem dX11_isLane_0 : decode cX11_isLane 0 = .ok (.iload_n 0, 1) := by decide +kernel
theorem dX11_isLane_1 : decode cX11_isLane 1 = .ok (.ifCond .lt 13, 3) := by decide +kernel
theorem dX11_isLane_4 : decode cX11_isLane 4 = .ok (.iload_n 0, 1) := by decide +kernel
theorem dX11_isLane_5 : decode cX11_isLane 5 = .ok (.bipush 7, 2) := by decide +kernel
theorem dX11_isLane_7 : decode cX11_isLane 7 = .ok (.if_icmp .gt 7, 3) := by decide +kernel
theorem dX11_isLane_10 : decode cX11_isLane 10 = .ok (.iconst 1, 1) := by decide +kernel
theorem dX11_isLane_11 : decode cX11_isLane 11 = .ok (.goto 4, 3) := by decide +kernel
theorem dX11_isLane_14 : decode cX11_isLane 14 = .ok (.iconst 0, 1) := by decide +kernel
theorem dX11_isLane_15 : decode cX11_isLane 15 = .ok (.ireturn, 1) := by decide +kernel
theorem dX11_isForm_0 : decode cX11_isForm 0 = .ok (.iload_n 0, 1) := by decide +kernel
theorem dX11_isForm_1 : decode cX11_isForm 1 = .ok (.ifCond .lt 13, 3) := by decide +kernel
theorem dX11_isForm_4 : decode cX11_isForm 4 = .ok (.iload_n 0, 1) := by decide +kernel
theorem dX11_isForm_5 : decode cX11_isForm 5 = .ok (.bipush 17, 2) := by decide +kernel
theorem dX11_isForm_7 : decode cX11_isForm 7 = .ok (.if_icmp .gt 7, 3) := by decide +kernel
theorem dX11_isForm_10 : decode cX11_isForm 10 = .ok (.iconst 1, 1) := by decide +kernel
theorem dX11_isForm_11 : decode cX11_isForm 11 = .ok (.goto 4, 3) := by decide +kernel
theorem dX11_isForm_14 : decode cX11_isForm 14 = .ok (.iconst 0, 1) := by decide +kernel
theorem dX11_isForm_15 : decode cX11_isForm 15 = .ok (.ireturn, 1) := by decide +kernel
theorem dX11_isGridForm_0 : decode cX11_isGridForm 0 = .ok (.iload_n 0, 1) := by decide +kernel
theorem dX11_isGridForm_1 : decode cX11_isGridForm 1 = .ok (.bipush 8, 2) := by decide +kernel
theorem dX11_isGridForm_3 : decode cX11_isGridForm 3 = .ok (.if_icmp .lt 13, 3) := by decide +kernel
theorem dX11_isGridForm_6 : decode cX11_isGridForm 6 = .ok (.iload_n 0, 1) := by decide +kernel
theorem dX11_isGridForm_7 : decode cX11_isGridForm 7 = .ok (.bipush 10, 2) := by decide +kernel
theorem dX11_isGridForm_9 : decode cX11_isGridForm 9 = .ok (.if_icmp .gt 7, 3) := by decide +kernel
theorem dX11_isGridForm_12 : decode cX11_isGridForm 12 = .ok (.iconst 1, 1) := by decide +kernel
theorem dX11_isGridForm_13 : decode cX11_isGridForm 13 = .ok (.goto 4, 3) := by decide +kernel
theorem dX11_isGridForm_16 : decode cX11_isGridForm 16 = .ok (.iconst 0, 1) := by decide +kernel
theorem dX11_isGridForm_17 : decode cX11_isGridForm 17 = .ok (.ireturn, 1) := by decide +kernel
theorem dX11_isTrayForm_0 : decode cX11_isTrayForm 0 = .ok (.iload_n 0, 1) := by decide +kernel
theorem dX11_isTrayForm_1 : decode cX11_isTrayForm 1 = .ok (.bipush 12, 2) := by decide +kernel
theorem dX11_isTrayForm_3 : decode cX11_isTrayForm 3 = .ok (.if_icmp .lt 13, 3) := by decide +kernel
theorem dX11_isTrayForm_6 : decode cX11_isTrayForm 6 = .ok (.iload_n 0, 1) := by decide +kernel
theorem dX11_isTrayForm_7 : decode cX11_isTrayForm 7 = .ok (.bipush 15, 2) := by decide +kernel
theorem dX11_isTrayForm_9 : decode cX11_isTrayForm 9 = .ok (.if_icmp .gt 7, 3) := by decide +kernel
theorem dX11_isTrayForm_12 : decode cX11_isTrayForm 12 = .ok (.iconst 1, 1) := by decide +kernel
theorem dX11_isTrayForm_13 : decode cX11_isTrayForm 13 = .ok (.goto 4, 3) := by decide +kernel
theorem dX11_isTrayForm_16 : decode cX11_isTrayForm 16 = .ok (.iconst 0, 1) := by decide +kernel
theorem dX11_isTrayForm_17 : decode cX11_isTrayForm 17 = .ok (.ireturn, 1) := by decide +kernel
theorem dX11_isPlacesForm_0 : decode cX11_isPlacesForm 0 = .ok (.iload_n 0, 1) := by decide +kernel
theorem dX11_isPlacesForm_1 : decode cX11_isPlacesForm 1 = .ok (.bipush 8, 2) := by decide +kernel
theorem dX11_isPlacesForm_3 : decode cX11_isPlacesForm 3 = .ok (.if_icmp .lt 13, 3) := by decide +kernel
theorem dX11_isPlacesForm_6 : decode cX11_isPlacesForm 6 = .ok (.iload_n 0, 1) := by decide +kernel
theorem dX11_isPlacesForm_7 : decode cX11_isPlacesForm 7 = .ok (.bipush 15, 2) := by decide +kernel
theorem dX11_isPlacesForm_9 : decode cX11_isPlacesForm 9 = .ok (.if_icmp .gt 7, 3) := by decide +kernel
theorem dX11_isPlacesForm_12 : decode cX11_isPlacesForm 12 = .ok (.iconst 1, 1) := by decide +kernel
theorem dX11_isPlacesForm_13 : decode cX11_isPlacesForm 13 = .ok (.goto 4, 3) := by decide +kernel
theorem dX11_isPlacesForm_16 : decode cX11_isPlacesForm 16 = .ok (.iconst 0, 1) := by decide +kernel
theorem dX11_isPlacesForm_17 : decode cX11_isPlacesForm 17 = .ok (.ireturn, 1) := by decide +kernel
theorem dX11_isPlan_0 : decode cX11_isPlan 0 = .ok (.iload_n 0, 1) := by decide +kernel
theorem dX11_isPlan_1 : decode cX11_isPlan 1 = .ok (.ifCond .lt 12, 3) := by decide +kernel
theorem dX11_isPlan_4 : decode cX11_isPlan 4 = .ok (.iload_n 0, 1) := by decide +kernel
theorem dX11_isPlan_5 : decode cX11_isPlan 5 = .ok (.iconst 4, 1) := by decide +kernel
theorem dX11_isPlan_6 : decode cX11_isPlan 6 = .ok (.if_icmp .ge 7, 3) := by decide +kernel
theorem dX11_isPlan_9 : decode cX11_isPlan 9 = .ok (.iconst 1, 1) := by decide +kernel
theorem dX11_isPlan_10 : decode cX11_isPlan 10 = .ok (.goto 4, 3) := by decide +kernel
theorem dX11_isPlan_13 : decode cX11_isPlan 13 = .ok (.iconst 0, 1) := by decide +kernel
theorem dX11_isPlan_14 : decode cX11_isPlan 14 = .ok (.ireturn, 1) := by decide +kernel
theorem dX11_isStock_0 : decode cX11_isStock 0 = .ok (.iload_n 0, 1) := by decide +kernel
theorem dX11_isStock_1 : decode cX11_isStock 1 = .ok (.ifCond .lt 13, 3) := by decide +kernel
theorem dX11_isStock_4 : decode cX11_isStock 4 = .ok (.iload_n 0, 1) := by decide +kernel
theorem dX11_isStock_5 : decode cX11_isStock 5 = .ok (.bipush 6, 2) := by decide +kernel
theorem dX11_isStock_7 : decode cX11_isStock 7 = .ok (.if_icmp .ge 7, 3) := by decide +kernel
theorem dX11_isStock_10 : decode cX11_isStock 10 = .ok (.iconst 1, 1) := by decide +kernel
theorem dX11_isStock_11 : decode cX11_isStock 11 = .ok (.goto 4, 3) := by decide +kernel
theorem dX11_isStock_14 : decode cX11_isStock 14 = .ok (.iconst 0, 1) := by decide +kernel
theorem dX11_isStock_15 : decode cX11_isStock 15 = .ok (.ireturn, 1) := by decide +kernel
theorem dX11_isValve_0 : decode cX11_isValve 0 = .ok (.iload_n 0, 1) := by decide +kernel
theorem dX11_isValve_1 : decode cX11_isValve 1 = .ok (.ifCond .lt 12, 3) := by decide +kernel
theorem dX11_isValve_4 : decode cX11_isValve 4 = .ok (.iload_n 0, 1) := by decide +kernel
theorem dX11_isValve_5 : decode cX11_isValve 5 = .ok (.iconst 3, 1) := by decide +kernel
theorem dX11_isValve_6 : decode cX11_isValve 6 = .ok (.if_icmp .ge 7, 3) := by decide +kernel
theorem dX11_isValve_9 : decode cX11_isValve 9 = .ok (.iconst 1, 1) := by decide +kernel
theorem dX11_isValve_10 : decode cX11_isValve 10 = .ok (.goto 4, 3) := by decide +kernel
theorem dX11_isValve_13 : decode cX11_isValve 13 = .ok (.iconst 0, 1) := by decide +kernel
theorem dX11_isValve_14 : decode cX11_isValve 14 = .ok (.ireturn, 1) := by decide +kernel
theorem dX11_isTable_0 : decode cX11_isTable 0 = .ok (.iload_n 0, 1) := by decide +kernel
theorem dX11_isTable_1 : decode cX11_isTable 1 = .ok (.ifCond .lt 12, 3) := by decide +kernel
theorem dX11_isTable_4 : decode cX11_isTable 4 = .ok (.iload_n 0, 1) := by decide +kernel
theorem dX11_isTable_5 : decode cX11_isTable 5 = .ok (.iconst 3, 1) := by decide +kernel
theorem dX11_isTable_6 : decode cX11_isTable 6 = .ok (.if_icmp .ge 7, 3) := by decide +kernel
theorem dX11_isTable_9 : decode cX11_isTable 9 = .ok (.iconst 1, 1) := by decide +kernel
theorem dX11_isTable_10 : decode cX11_isTable 10 = .ok (.goto 4, 3) := by decide +kernel
theorem dX11_isTable_13 : decode cX11_isTable 13 = .ok (.iconst 0, 1) := by decide +kernel
theorem dX11_isTable_14 : decode cX11_isTable 14 = .ok (.ireturn, 1) := by decide +kernel
theorem dX11_isProbe_0 : decode cX11_isProbe 0 = .ok (.iload_n 0, 1) := by decide +kernel
theorem dX11_isProbe_1 : decode cX11_isProbe 1 = .ok (.ifCond .lt 13, 3) := by decide +kernel
theorem dX11_isProbe_4 : decode cX11_isProbe 4 = .ok (.iload_n 0, 1) := by decide +kernel
theorem dX11_isProbe_5 : decode cX11_isProbe 5 = .ok (.bipush 9, 2) := by decide +kernel
theorem dX11_isProbe_7 : decode cX11_isProbe 7 = .ok (.if_icmp .ge 7, 3) := by decide +kernel
theorem dX11_isProbe_10 : decode cX11_isProbe 10 = .ok (.iconst 1, 1) := by decide +kernel
theorem dX11_isProbe_11 : decode cX11_isProbe 11 = .ok (.goto 4, 3) := by decide +kernel
theorem dX11_isProbe_14 : decode cX11_isProbe 14 = .ok (.iconst 0, 1) := by decide +kernel
theorem dX11_isProbe_15 : decode cX11_isProbe 15 = .ok (.ireturn, 1) := by decide +kernel
theorem dX11_isHouse_0 : decode cX11_isHouse 0 = .ok (.iload_n 0, 1) := by decide +kernel
theorem dX11_isHouse_1 : decode cX11_isHouse 1 = .ok (.ifCond .lt 12, 3) := by decide +kernel
theorem dX11_isHouse_4 : decode cX11_isHouse 4 = .ok (.iload_n 0, 1) := by decide +kernel
theorem dX11_isHouse_5 : decode cX11_isHouse 5 = .ok (.iconst 3, 1) := by decide +kernel
theorem dX11_isHouse_6 : decode cX11_isHouse 6 = .ok (.if_icmp .ge 7, 3) := by decide +kernel
theorem dX11_isHouse_9 : decode cX11_isHouse 9 = .ok (.iconst 1, 1) := by decide +kernel
theorem dX11_isHouse_10 : decode cX11_isHouse 10 = .ok (.goto 4, 3) := by decide +kernel
theorem dX11_isHouse_13 : decode cX11_isHouse 13 = .ok (.iconst 0, 1) := by decide +kernel
theorem dX11_isHouse_14 : decode cX11_isHouse 14 = .ok (.ireturn, 1) := by decide +kernel
theorem dX11_isPest_0 : decode cX11_isPest 0 = .ok (.iload_n 0, 1) := by decide +kernel
theorem dX11_isPest_1 : decode cX11_isPest 1 = .ok (.ifCond .lt 12, 3) := by decide +kernel
theorem dX11_isPest_4 : decode cX11_isPest 4 = .ok (.iload_n 0, 1) := by decide +kernel
theorem dX11_isPest_5 : decode cX11_isPest 5 = .ok (.iconst 2, 1) := by decide +kernel
theorem dX11_isPest_6 : decode cX11_isPest 6 = .ok (.if_icmp .ge 7, 3) := by decide +kernel
theorem dX11_isPest_9 : decode cX11_isPest 9 = .ok (.iconst 1, 1) := by decide +kernel
theorem dX11_isPest_10 : decode cX11_isPest 10 = .ok (.goto 4, 3) := by decide +kernel
theorem dX11_isPest_13 : decode cX11_isPest 13 = .ok (.iconst 0, 1) := by decide +kernel
theorem dX11_isPest_14 : decode cX11_isPest 14 = .ok (.ireturn, 1) := by decide +kernel
theorem dX11_isStage_0 : decode cX11_isStage 0 = .ok (.iload_n 0, 1) := by decide +kernel
theorem dX11_isStage_1 : decode cX11_isStage 1 = .ok (.ifCond .lt 12, 3) := by decide +kernel
theorem dX11_isStage_4 : decode cX11_isStage 4 = .ok (.iload_n 0, 1) := by decide +kernel
theorem dX11_isStage_5 : decode cX11_isStage 5 = .ok (.iconst 4, 1) := by decide +kernel
theorem dX11_isStage_6 : decode cX11_isStage 6 = .ok (.if_icmp .ge 7, 3) := by decide +kernel
theorem dX11_isStage_9 : decode cX11_isStage 9 = .ok (.iconst 1, 1) := by decide +kernel
theorem dX11_isStage_10 : decode cX11_isStage 10 = .ok (.goto 4, 3) := by decide +kernel
theorem dX11_isStage_13 : decode cX11_isStage 13 = .ok (.iconst 0, 1) := by decide +kernel
theorem dX11_isStage_14 : decode cX11_isStage 14 = .ok (.ireturn, 1) := by decide +kernel
theorem dX11_isPart_0 : decode cX11_isPart 0 = .ok (.iload_n 0, 1) := by decide +kernel
theorem dX11_isPart_1 : decode cX11_isPart 1 = .ok (.ifCond .lt 14, 3) := by decide +kernel
theorem dX11_isPart_4 : decode cX11_isPart 4 = .ok (.iload_n 0, 1) := by decide +kernel
theorem dX11_isPart_5 : decode cX11_isPart 5 = .ok (.sipush 1000, 3) := by decide +kernel
theorem dX11_isPart_8 : decode cX11_isPart 8 = .ok (.if_icmp .gt 7, 3) := by decide +kernel
theorem dX11_isPart_11 : decode cX11_isPart 11 = .ok (.iconst 1, 1) := by decide +kernel
theorem dX11_isPart_12 : decode cX11_isPart 12 = .ok (.goto 4, 3) := by decide +kernel
theorem dX11_isPart_15 : decode cX11_isPart 15 = .ok (.iconst 0, 1) := by decide +kernel
theorem dX11_isPart_16 : decode cX11_isPart 16 = .ok (.ireturn, 1) := by decide +kernel
theorem dX11_fail_0 : decode cX11_fail 0 = .ok (.aload_n 0, 1) := by decide +kernel
theorem dX11_fail_1 : decode cX11_fail 1 = .ok (.dup, 1) := by decide +kernel
theorem dX11_fail_2 : decode cX11_fail 2 = .ok (.getfield 295, 3) := by decide +kernel
theorem dX11_fail_5 : decode cX11_fail 5 = .ok (.iconst 1, 1) := by decide +kernel
theorem dX11_fail_6 : decode cX11_fail 6 = .ok (.iadd, 1) := by decide +kernel
theorem dX11_fail_7 : decode cX11_fail 7 = .ok (.putfield 295, 3) := by decide +kernel
theorem dX11_fail_10 : decode cX11_fail 10 = .ok (.aload_n 0, 1) := by decide +kernel
theorem dX11_fail_11 : decode cX11_fail 11 = .ok (.iload_n 1, 1) := by decide +kernel
theorem dX11_fail_12 : decode cX11_fail 12 = .ok (.putfield 304, 3) := by decide +kernel
theorem dX11_fail_15 : decode cX11_fail 15 = .ok (.bipush (-10), 2) := by decide +kernel
theorem dX11_fail_17 : decode cX11_fail 17 = .ok (.iload_n 1, 1) := by decide +kernel
theorem dX11_fail_18 : decode cX11_fail 18 = .ok (.isub, 1) := by decide +kernel
theorem dX11_fail_19 : decode cX11_fail 19 = .ok (.ireturn, 1) := by decide +kernel
theorem dX11_isFull_0 : decode cX11_isFull 0 = .ok (.aload_n 0, 1) := by decide +kernel
theorem dX11_isFull_1 : decode cX11_isFull 1 = .ok (.getfield 295, 3) := by decide +kernel
theorem dX11_isFull_4 : decode cX11_isFull 4 = .ok (.sipush 3000, 3) := by decide +kernel
theorem dX11_isFull_7 : decode cX11_isFull 7 = .ok (.if_icmp .ge 13, 3) := by decide +kernel
theorem dX11_isFull_10 : decode cX11_isFull 10 = .ok (.aload_n 0, 1) := by decide +kernel
theorem dX11_isFull_11 : decode cX11_isFull 11 = .ok (.getfield 243, 3) := by decide +kernel
theorem dX11_isFull_14 : decode cX11_isFull 14 = .ok (.sipush 4000, 3) := by decide +kernel
theorem dX11_isFull_17 : decode cX11_isFull 17 = .ok (.if_icmp .lt 7, 3) := by decide +kernel
theorem dX11_isFull_20 : decode cX11_isFull 20 = .ok (.iconst 1, 1) := by decide +kernel
theorem dX11_isFull_21 : decode cX11_isFull 21 = .ok (.goto 4, 3) := by decide +kernel
theorem dX11_isFull_24 : decode cX11_isFull 24 = .ok (.iconst 0, 1) := by decide +kernel
theorem dX11_isFull_25 : decode cX11_isFull 25 = .ok (.ireturn, 1) := by decide +kernel
theorem dX11_isRow_0 : decode cX11_isRow 0 = .ok (.aload_n 0, 1) := by decide +kernel
theorem dX11_isRow_1 : decode cX11_isRow 1 = .ok (.getfield 113, 3) := by decide +kernel
theorem dX11_isRow_4 : decode cX11_isRow 4 = .ok (.bipush 7, 2) := by decide +kernel
theorem dX11_isRow_6 : decode cX11_isRow 6 = .ok (.if_icmp .gt 7, 3) := by decide +kernel
theorem dX11_isRow_9 : decode cX11_isRow 9 = .ok (.iconst 1, 1) := by decide +kernel
theorem dX11_isRow_10 : decode cX11_isRow 10 = .ok (.goto 4, 3) := by decide +kernel
theorem dX11_isRow_13 : decode cX11_isRow 13 = .ok (.iconst 0, 1) := by decide +kernel
theorem dX11_isRow_14 : decode cX11_isRow 14 = .ok (.ireturn, 1) := by decide +kernel
theorem dX11_laneOfGrid_0 : decode cX11_laneOfGrid 0 = .ok (.iload_n 0, 1) := by decide +kernel
theorem dX11_laneOfGrid_1 : decode cX11_laneOfGrid 1 = .ok (.bipush 8, 2) := by decide +kernel
theorem dX11_laneOfGrid_3 : decode cX11_laneOfGrid 3 = .ok (.if_icmp .ne 7, 3) := by decide +kernel
theorem dX11_laneOfGrid_6 : decode cX11_laneOfGrid 6 = .ok (.iconst 3, 1) := by decide +kernel
theorem dX11_laneOfGrid_7 : decode cX11_laneOfGrid 7 = .ok (.goto 15, 3) := by decide +kernel
theorem dX11_laneOfGrid_10 : decode cX11_laneOfGrid 10 = .ok (.iload_n 0, 1) := by decide +kernel
theorem dX11_laneOfGrid_11 : decode cX11_laneOfGrid 11 = .ok (.bipush 9, 2) := by decide +kernel
theorem dX11_laneOfGrid_13 : decode cX11_laneOfGrid 13 = .ok (.if_icmp .ne 7, 3) := by decide +kernel
theorem dX11_laneOfGrid_16 : decode cX11_laneOfGrid 16 = .ok (.iconst 4, 1) := by decide +kernel
theorem dX11_laneOfGrid_17 : decode cX11_laneOfGrid 17 = .ok (.goto 5, 3) := by decide +kernel
theorem dX11_laneOfGrid_20 : decode cX11_laneOfGrid 20 = .ok (.bipush 7, 2) := by decide +kernel
theorem dX11_laneOfGrid_22 : decode cX11_laneOfGrid 22 = .ok (.ireturn, 1) := by decide +kernel
theorem dX11_goesFor_0 : decode cX11_goesFor 0 = .ok (.aload_n 0, 1) := by decide +kernel
theorem dX11_goesFor_1 : decode cX11_goesFor 1 = .ok (.ifnull 11, 3) := by decide +kernel
theorem dX11_goesFor_4 : decode cX11_goesFor 4 = .ok (.aload_n 0, 1) := by decide +kernel
theorem dX11_goesFor_5 : decode cX11_goesFor 5 = .ok (.getfield 113, 3) := by decide +kernel
theorem dX11_goesFor_8 : decode cX11_goesFor 8 = .ok (.iload_n 1, 1) := by decide +kernel
theorem dX11_goesFor_9 : decode cX11_goesFor 9 = .ok (.if_icmp .ne 7, 3) := by decide +kernel
theorem dX11_goesFor_12 : decode cX11_goesFor 12 = .ok (.iconst 1, 1) := by decide +kernel
theorem dX11_goesFor_13 : decode cX11_goesFor 13 = .ok (.goto 4, 3) := by decide +kernel
theorem dX11_goesFor_16 : decode cX11_goesFor 16 = .ok (.iconst 0, 1) := by decide +kernel
theorem dX11_goesFor_17 : decode cX11_goesFor 17 = .ok (.ireturn, 1) := by decide +kernel
theorem dX11_takenFault_0 : decode cX11_takenFault 0 = .ok (.aload_n 0, 1) := by decide +kernel
theorem dX11_takenFault_1 : decode cX11_takenFault 1 = .ok (.iload_n 1, 1) := by decide +kernel
theorem dX11_takenFault_2 : decode cX11_takenFault 2 = .ok (.invokestatic 164, 3) := by decide +kernel
theorem dX11_takenFault_5 : decode cX11_takenFault 5 = .ok (.ifCond .ne 5, 3) := by decide +kernel
theorem dX11_takenFault_8 : decode cX11_takenFault 8 = .ok (.iconst 4, 1) := by decide +kernel
theorem dX11_takenFault_9 : decode cX11_takenFault 9 = .ok (.ireturn, 1) := by decide +kernel
theorem dX11_takenFault_10 : decode cX11_takenFault 10 = .ok (.aload_n 0, 1) := by decide +kernel
theorem dX11_takenFault_11 : decode cX11_takenFault 11 = .ok (.ifnonnull 7, 3) := by decide +kernel
theorem dX11_takenFault_14 : decode cX11_takenFault 14 = .ok (.iconst 1, 1) := by decide +kernel
theorem dX11_takenFault_15 : decode cX11_takenFault 15 = .ok (.goto 4, 3) := by decide +kernel
theorem dX11_takenFault_18 : decode cX11_takenFault 18 = .ok (.iconst 0, 1) := by decide +kernel
theorem dX11_takenFault_19 : decode cX11_takenFault 19 = .ok (.ireturn, 1) := by decide +kernel
theorem dX11_cellFault_0 : decode cX11_cellFault 0 = .ok (.aload_n 0, 1) := by decide +kernel
theorem dX11_cellFault_1 : decode cX11_cellFault 1 = .ok (.iload_n 1, 1) := by decide +kernel
theorem dX11_cellFault_2 : decode cX11_cellFault 2 = .ok (.invokestatic 267, 3) := by decide +kernel
theorem dX11_cellFault_5 : decode cX11_cellFault 5 = .ok (.istore_n 3, 1) := by decide +kernel
theorem dX11_cellFault_6 : decode cX11_cellFault 6 = .ok (.iload_n 3, 1) := by decide +kernel
theorem dX11_cellFault_7 : decode cX11_cellFault 7 = .ok (.ifCond .ne 7, 3) := by decide +kernel
theorem dX11_cellFault_10 : decode cX11_cellFault 10 = .ok (.aload_n 0, 1) := by decide +kernel
theorem dX11_cellFault_11 : decode cX11_cellFault 11 = .ok (.ifnonnull 5, 3) := by decide +kernel
theorem dX11_cellFault_14 : decode cX11_cellFault 14 = .ok (.iload_n 3, 1) := by decide +kernel
theorem dX11_cellFault_15 : decode cX11_cellFault 15 = .ok (.ireturn, 1) := by decide +kernel
theorem dX11_cellFault_16 : decode cX11_cellFault 16 = .ok (.iload_n 2, 1) := by decide +kernel
theorem dX11_cellFault_17 : decode cX11_cellFault 17 = .ok (.ifCond .lt 12, 3) := by decide +kernel
theorem dX11_cellFault_20 : decode cX11_cellFault 20 = .ok (.iload_n 2, 1) := by decide +kernel
theorem dX11_cellFault_21 : decode cX11_cellFault 21 = .ok (.aload_n 0, 1) := by decide +kernel
theorem dX11_cellFault_22 : decode cX11_cellFault 22 = .ok (.getfield 134, 3) := by decide +kernel
theorem dX11_cellFault_25 : decode cX11_cellFault 25 = .ok (.arraylength, 1) := by decide +kernel
theorem dX11_cellFault_26 : decode cX11_cellFault 26 = .ok (.if_icmp .lt 7, 3) := by decide +kernel
theorem dX11_cellFault_29 : decode cX11_cellFault 29 = .ok (.iconst 2, 1) := by decide +kernel
theorem dX11_cellFault_30 : decode cX11_cellFault 30 = .ok (.goto 4, 3) := by decide +kernel
theorem dX11_cellFault_33 : decode cX11_cellFault 33 = .ok (.iconst 0, 1) := by decide +kernel
theorem dX11_cellFault_34 : decode cX11_cellFault 34 = .ok (.ireturn, 1) := by decide +kernel
theorem dX11_placeFault_0 : decode cX11_placeFault 0 = .ok (.aload_n 0, 1) := by decide +kernel
theorem dX11_placeFault_1 : decode cX11_placeFault 1 = .ok (.iload_n 1, 1) := by decide +kernel
theorem dX11_placeFault_2 : decode cX11_placeFault 2 = .ok (.invokestatic 267, 3) := by decide +kernel
theorem dX11_placeFault_5 : decode cX11_placeFault 5 = .ok (.istore_n 3, 1) := by decide +kernel
theorem dX11_placeFault_6 : decode cX11_placeFault 6 = .ok (.iload_n 3, 1) := by decide +kernel
theorem dX11_placeFault_7 : decode cX11_placeFault 7 = .ok (.ifCond .ne 7, 3) := by decide +kernel
theorem dX11_placeFault_10 : decode cX11_placeFault 10 = .ok (.aload_n 0, 1) := by decide +kernel
theorem dX11_placeFault_11 : decode cX11_placeFault 11 = .ok (.ifnonnull 5, 3) := by decide +kernel
theorem dX11_placeFault_14 : decode cX11_placeFault 14 = .ok (.iload_n 3, 1) := by decide +kernel
theorem dX11_placeFault_15 : decode cX11_placeFault 15 = .ok (.ireturn, 1) := by decide +kernel
theorem dX11_placeFault_16 : decode cX11_placeFault 16 = .ok (.iload_n 2, 1) := by decide +kernel
theorem dX11_placeFault_17 : decode cX11_placeFault 17 = .ok (.ifCond .lt 12, 3) := by decide +kernel
theorem dX11_placeFault_20 : decode cX11_placeFault 20 = .ok (.iload_n 2, 1) := by decide +kernel
theorem dX11_placeFault_21 : decode cX11_placeFault 21 = .ok (.aload_n 0, 1) := by decide +kernel
theorem dX11_placeFault_22 : decode cX11_placeFault 22 = .ok (.getfield 101, 3) := by decide +kernel
theorem dX11_placeFault_25 : decode cX11_placeFault 25 = .ok (.arraylength, 1) := by decide +kernel
theorem dX11_placeFault_26 : decode cX11_placeFault 26 = .ok (.if_icmp .lt 7, 3) := by decide +kernel
theorem dX11_placeFault_29 : decode cX11_placeFault 29 = .ok (.iconst 2, 1) := by decide +kernel
theorem dX11_placeFault_30 : decode cX11_placeFault 30 = .ok (.goto 4, 3) := by decide +kernel
theorem dX11_placeFault_33 : decode cX11_placeFault 33 = .ok (.iconst 0, 1) := by decide +kernel
theorem dX11_placeFault_34 : decode cX11_placeFault 34 = .ok (.ireturn, 1) := by decide +kernel
theorem dX11_placesFault_0 : decode cX11_placesFault 0 = .ok (.aload_n 0, 1) := by decide +kernel
theorem dX11_placesFault_1 : decode cX11_placesFault 1 = .ok (.ifnonnull 5, 3) := by decide +kernel
theorem dX11_placesFault_4 : decode cX11_placesFault 4 = .ok (.iconst 1, 1) := by decide +kernel
theorem dX11_placesFault_5 : decode cX11_placesFault 5 = .ok (.ireturn, 1) := by decide +kernel
theorem dX11_placesFault_6 : decode cX11_placesFault 6 = .ok (.aload_n 0, 1) := by decide +kernel
theorem dX11_placesFault_7 : decode cX11_placesFault 7 = .ok (.getfield 113, 3) := by decide +kernel
theorem dX11_placesFault_10 : decode cX11_placesFault 10 = .ok (.invokestatic 206, 3) := by decide +kernel
theorem dX11_placesFault_13 : decode cX11_placesFault 13 = .ok (.ifCond .eq 15, 3) := by decide +kernel
theorem dX11_placesFault_16 : decode cX11_placesFault 16 = .ok (.aload_n 0, 1) := by decide +kernel
theorem dX11_placesFault_17 : decode cX11_placesFault 17 = .ok (.aload_n 0, 1) := by decide +kernel
theorem dX11_placesFault_18 : decode cX11_placesFault 18 = .ok (.getfield 113, 3) := by decide +kernel
theorem dX11_placesFault_21 : decode cX11_placesFault 21 = .ok (.iload_n 1, 1) := by decide +kernel
theorem dX11_placesFault_22 : decode cX11_placesFault 22 = .ok (.invokestatic 149, 3) := by decide +kernel
theorem dX11_placesFault_25 : decode cX11_placesFault 25 = .ok (.goto 4, 3) := by decide +kernel
theorem dX11_placesFault_28 : decode cX11_placesFault 28 = .ok (.iconst 4, 1) := by decide +kernel
theorem dX11_placesFault_29 : decode cX11_placesFault 29 = .ok (.ireturn, 1) := by decide +kernel
theorem dX11_bayFault_0 : decode cX11_bayFault 0 = .ok (.aload_n 0, 1) := by decide +kernel
theorem dX11_bayFault_1 : decode cX11_bayFault 1 = .ok (.iload_n 1, 1) := by decide +kernel
theorem dX11_bayFault_2 : decode cX11_bayFault 2 = .ok (.iload_n 2, 1) := by decide +kernel
theorem dX11_bayFault_3 : decode cX11_bayFault 3 = .ok (.invokestatic 149, 3) := by decide +kernel
theorem dX11_bayFault_6 : decode cX11_bayFault 6 = .ok (.istore 4, 2) := by decide +kernel
theorem dX11_bayFault_8 : decode cX11_bayFault 8 = .ok (.iload 4, 2) := by decide +kernel
theorem dX11_bayFault_10 : decode cX11_bayFault 10 = .ok (.ifCond .eq 6, 3) := by decide +kernel
theorem dX11_bayFault_13 : decode cX11_bayFault 13 = .ok (.iload 4, 2) := by decide +kernel
theorem dX11_bayFault_15 : decode cX11_bayFault 15 = .ok (.ireturn, 1) := by decide +kernel
theorem dX11_bayFault_16 : decode cX11_bayFault 16 = .ok (.aload_n 0, 1) := by decide +kernel
theorem dX11_bayFault_17 : decode cX11_bayFault 17 = .ok (.iload_n 2, 1) := by decide +kernel
theorem dX11_bayFault_18 : decode cX11_bayFault 18 = .ok (.invokestatic 152, 3) := by decide +kernel
theorem dX11_bayFault_21 : decode cX11_bayFault 21 = .ok (.iload_n 1, 1) := by decide +kernel
theorem dX11_bayFault_22 : decode cX11_bayFault 22 = .ok (.invokestatic 106, 3) := by decide +kernel
theorem dX11_bayFault_25 : decode cX11_bayFault 25 = .ok (.iload_n 3, 1) := by decide +kernel
theorem dX11_bayFault_26 : decode cX11_bayFault 26 = .ok (.invokestatic 130, 3) := by decide +kernel
theorem dX11_bayFault_29 : decode cX11_bayFault 29 = .ok (.ireturn, 1) := by decide +kernel
theorem dX11_bayAt_0 : decode cX11_bayAt 0 = .ok (.aload_n 0, 1) := by decide +kernel
theorem dX11_bayAt_1 : decode cX11_bayAt 1 = .ok (.iload_n 1, 1) := by decide +kernel
theorem dX11_bayAt_2 : decode cX11_bayAt 2 = .ok (.iload_n 2, 1) := by decide +kernel
theorem dX11_bayAt_3 : decode cX11_bayAt 3 = .ok (.invokestatic 149, 3) := by decide +kernel
theorem dX11_bayAt_6 : decode cX11_bayAt 6 = .ok (.ifCond .ne 11, 3) := by decide +kernel
theorem dX11_bayAt_9 : decode cX11_bayAt 9 = .ok (.aload_n 0, 1) := by decide +kernel
theorem dX11_bayAt_10 : decode cX11_bayAt 10 = .ok (.iload_n 2, 1) := by decide +kernel
theorem dX11_bayAt_11 : decode cX11_bayAt 11 = .ok (.invokestatic 152, 3) := by decide +kernel
theorem dX11_bayAt_14 : decode cX11_bayAt 14 = .ok (.goto 4, 3) := by decide +kernel
theorem dX11_bayAt_17 : decode cX11_bayAt 17 = .ok (.aconst_null, 1) := by decide +kernel
theorem dX11_bayAt_18 : decode cX11_bayAt 18 = .ok (.areturn, 1) := by decide +kernel
theorem dX11_placeOf_0 : decode cX11_placeOf 0 = .ok (.aload_n 0, 1) := by decide +kernel
theorem dX11_placeOf_1 : decode cX11_placeOf 1 = .ok (.ifnull 16, 3) := by decide +kernel
theorem dX11_placeOf_4 : decode cX11_placeOf 4 = .ok (.iload_n 1, 1) := by decide +kernel
theorem dX11_placeOf_5 : decode cX11_placeOf 5 = .ok (.ifCond .lt 12, 3) := by decide +kernel
theorem dX11_placeOf_8 : decode cX11_placeOf 8 = .ok (.iload_n 1, 1) := by decide +kernel
theorem dX11_placeOf_9 : decode cX11_placeOf 9 = .ok (.aload_n 0, 1) := by decide +kernel
theorem dX11_placeOf_10 : decode cX11_placeOf 10 = .ok (.getfield 101, 3) := by decide +kernel
theorem dX11_placeOf_13 : decode cX11_placeOf 13 = .ok (.arraylength, 1) := by decide +kernel
theorem dX11_placeOf_14 : decode cX11_placeOf 14 = .ok (.if_icmp .lt 7, 3) := by decide +kernel
theorem dX11_placeOf_17 : decode cX11_placeOf 17 = .ok (.aconst_null, 1) := by decide +kernel
theorem dX11_placeOf_18 : decode cX11_placeOf 18 = .ok (.goto 9, 3) := by decide +kernel
theorem dX11_placeOf_21 : decode cX11_placeOf 21 = .ok (.aload_n 0, 1) := by decide +kernel
theorem dX11_placeOf_22 : decode cX11_placeOf 22 = .ok (.getfield 101, 3) := by decide +kernel
theorem dX11_placeOf_25 : decode cX11_placeOf 25 = .ok (.iload_n 1, 1) := by decide +kernel
theorem dX11_placeOf_26 : decode cX11_placeOf 26 = .ok (.aaload, 1) := by decide +kernel
theorem dX11_placeOf_27 : decode cX11_placeOf 27 = .ok (.areturn, 1) := by decide +kernel
theorem dX11_depthOf_0 : decode cX11_depthOf 0 = .ok (.aload_n 0, 1) := by decide +kernel
theorem dX11_depthOf_1 : decode cX11_depthOf 1 = .ok (.ifnonnull 7, 3) := by decide +kernel
theorem dX11_depthOf_4 : decode cX11_depthOf 4 = .ok (.iconst 0, 1) := by decide +kernel
theorem dX11_depthOf_5 : decode cX11_depthOf 5 = .ok (.goto 7, 3) := by decide +kernel
theorem dX11_depthOf_8 : decode cX11_depthOf 8 = .ok (.aload_n 0, 1) := by decide +kernel
theorem dX11_depthOf_9 : decode cX11_depthOf 9 = .ok (.getfield 228, 3) := by decide +kernel
theorem dX11_depthOf_12 : decode cX11_depthOf 12 = .ok (.ireturn, 1) := by decide +kernel
theorem dX11_trayTakes_0 : decode cX11_trayTakes 0 = .ok (.iload_n 0, 1) := by decide +kernel
theorem dX11_trayTakes_1 : decode cX11_trayTakes 1 = .ok (.tableswitch 78 12 15 #[31, 42, 58, 73], 31) := by decide +kernel
theorem dX11_trayTakes_32 : decode cX11_trayTakes 32 = .ok (.iload_n 1, 1) := by decide +kernel
theorem dX11_trayTakes_33 : decode cX11_trayTakes 33 = .ok (.iconst 3, 1) := by decide +kernel
theorem dX11_trayTakes_34 : decode cX11_trayTakes 34 = .ok (.if_icmp .gt 7, 3) := by decide +kernel
theorem dX11_trayTakes_37 : decode cX11_trayTakes 37 = .ok (.iconst 1, 1) := by decide +kernel
theorem dX11_trayTakes_38 : decode cX11_trayTakes 38 = .ok (.goto 4, 3) := by decide +kernel
theorem dX11_trayTakes_41 : decode cX11_trayTakes 41 = .ok (.iconst 0, 1) := by decide +kernel
theorem dX11_trayTakes_42 : decode cX11_trayTakes 42 = .ok (.ireturn, 1) := by decide +kernel
theorem dX11_trayTakes_43 : decode cX11_trayTakes 43 = .ok (.iload_n 1, 1) := by decide +kernel
theorem dX11_trayTakes_44 : decode cX11_trayTakes 44 = .ok (.iconst 1, 1) := by decide +kernel
theorem dX11_trayTakes_45 : decode cX11_trayTakes 45 = .ok (.if_icmp .eq 8, 3) := by decide +kernel
theorem dX11_trayTakes_48 : decode cX11_trayTakes 48 = .ok (.iload_n 1, 1) := by decide +kernel
theorem dX11_trayTakes_49 : decode cX11_trayTakes 49 = .ok (.iconst 2, 1) := by decide +kernel
theorem dX11_trayTakes_50 : decode cX11_trayTakes 50 = .ok (.if_icmp .ne 7, 3) := by decide +kernel
theorem dX11_trayTakes_53 : decode cX11_trayTakes 53 = .ok (.iconst 1, 1) := by decide +kernel
theorem dX11_trayTakes_54 : decode cX11_trayTakes 54 = .ok (.goto 4, 3) := by decide +kernel
theorem dX11_trayTakes_57 : decode cX11_trayTakes 57 = .ok (.iconst 0, 1) := by decide +kernel
theorem dX11_trayTakes_58 : decode cX11_trayTakes 58 = .ok (.ireturn, 1) := by decide +kernel
theorem dX11_trayTakes_59 : decode cX11_trayTakes 59 = .ok (.iload_n 1, 1) := by decide +kernel
theorem dX11_trayTakes_60 : decode cX11_trayTakes 60 = .ok (.ifCond .eq 8, 3) := by decide +kernel
theorem dX11_trayTakes_63 : decode cX11_trayTakes 63 = .ok (.iload_n 1, 1) := by decide +kernel
theorem dX11_trayTakes_64 : decode cX11_trayTakes 64 = .ok (.iconst 3, 1) := by decide +kernel
theorem dX11_trayTakes_65 : decode cX11_trayTakes 65 = .ok (.if_icmp .ne 7, 3) := by decide +kernel
theorem dX11_trayTakes_68 : decode cX11_trayTakes 68 = .ok (.iconst 1, 1) := by decide +kernel
theorem dX11_trayTakes_69 : decode cX11_trayTakes 69 = .ok (.goto 4, 3) := by decide +kernel
theorem dX11_trayTakes_72 : decode cX11_trayTakes 72 = .ok (.iconst 0, 1) := by decide +kernel
theorem dX11_trayTakes_73 : decode cX11_trayTakes 73 = .ok (.ireturn, 1) := by decide +kernel
theorem dX11_trayTakes_74 : decode cX11_trayTakes 74 = .ok (.iload_n 1, 1) := by decide +kernel
theorem dX11_trayTakes_75 : decode cX11_trayTakes 75 = .ok (.invokestatic 515, 3) := by decide +kernel
theorem dX11_trayTakes_78 : decode cX11_trayTakes 78 = .ok (.ireturn, 1) := by decide +kernel
theorem dX11_trayTakes_79 : decode cX11_trayTakes 79 = .ok (.iconst 0, 1) := by decide +kernel
theorem dX11_trayTakes_80 : decode cX11_trayTakes 80 = .ok (.ireturn, 1) := by decide +kernel
theorem dX11_thirsts_0 : decode cX11_thirsts 0 = .ok (.iload_n 0, 1) := by decide +kernel
theorem dX11_thirsts_1 : decode cX11_thirsts 1 = .ok (.ifCond .eq 12, 3) := by decide +kernel
theorem dX11_thirsts_4 : decode cX11_thirsts 4 = .ok (.iload_n 0, 1) := by decide +kernel
theorem dX11_thirsts_5 : decode cX11_thirsts 5 = .ok (.iconst 4, 1) := by decide +kernel
theorem dX11_thirsts_6 : decode cX11_thirsts 6 = .ok (.if_icmp .eq 7, 3) := by decide +kernel
theorem dX11_thirsts_9 : decode cX11_thirsts 9 = .ok (.iconst 1, 1) := by decide +kernel
theorem dX11_thirsts_10 : decode cX11_thirsts 10 = .ok (.goto 4, 3) := by decide +kernel
theorem dX11_thirsts_13 : decode cX11_thirsts 13 = .ok (.iconst 0, 1) := by decide +kernel
theorem dX11_thirsts_14 : decode cX11_thirsts 14 = .ok (.ireturn, 1) := by decide +kernel
theorem dX11_takes_0 : decode cX11_takes 0 = .ok (.aload_n 1, 1) := by decide +kernel
theorem dX11_takes_1 : decode cX11_takes 1 = .ok (.ifnonnull 5, 3) := by decide +kernel
theorem dX11_takes_4 : decode cX11_takes 4 = .ok (.iconst 1, 1) := by decide +kernel
theorem dX11_takes_5 : decode cX11_takes 5 = .ok (.ireturn, 1) := by decide +kernel
theorem dX11_takes_6 : decode cX11_takes 6 = .ok (.iload_n 0, 1) := by decide +kernel
theorem dX11_takes_7 : decode cX11_takes 7 = .ok (.invokestatic 95, 3) := by decide +kernel
theorem dX11_takes_10 : decode cX11_takes 10 = .ok (.ifCond .eq 20, 3) := by decide +kernel
theorem dX11_takes_13 : decode cX11_takes 13 = .ok (.aload_n 1, 1) := by decide +kernel
theorem dX11_takes_14 : decode cX11_takes 14 = .ok (.getfield 113, 3) := by decide +kernel
theorem dX11_takes_17 : decode cX11_takes 17 = .ok (.iload_n 0, 1) := by decide +kernel
theorem dX11_takes_18 : decode cX11_takes 18 = .ok (.invokestatic 106, 3) := by decide +kernel
theorem dX11_takes_21 : decode cX11_takes 21 = .ok (.if_icmp .ne 7, 3) := by decide +kernel
theorem dX11_takes_24 : decode cX11_takes 24 = .ok (.iconst 1, 1) := by decide +kernel
theorem dX11_takes_25 : decode cX11_takes 25 = .ok (.goto 4, 3) := by decide +kernel
theorem dX11_takes_28 : decode cX11_takes 28 = .ok (.iconst 0, 1) := by decide +kernel
theorem dX11_takes_29 : decode cX11_takes 29 = .ok (.ireturn, 1) := by decide +kernel
theorem dX11_takes_30 : decode cX11_takes 30 = .ok (.iload_n 0, 1) := by decide +kernel
theorem dX11_takes_31 : decode cX11_takes 31 = .ok (.bipush 11, 2) := by decide +kernel
theorem dX11_takes_33 : decode cX11_takes 33 = .ok (.if_icmp .ne 18, 3) := by decide +kernel
theorem dX11_takes_36 : decode cX11_takes 36 = .ok (.aload_n 1, 1) := by decide +kernel
theorem dX11_takes_37 : decode cX11_takes 37 = .ok (.getfield 113, 3) := by decide +kernel
theorem dX11_takes_40 : decode cX11_takes 40 = .ok (.bipush 9, 2) := by decide +kernel
theorem dX11_takes_42 : decode cX11_takes 42 = .ok (.if_icmp .ne 7, 3) := by decide +kernel
theorem dX11_takes_45 : decode cX11_takes 45 = .ok (.iconst 1, 1) := by decide +kernel
theorem dX11_takes_46 : decode cX11_takes 46 = .ok (.goto 4, 3) := by decide +kernel
theorem dX11_takes_49 : decode cX11_takes 49 = .ok (.iconst 0, 1) := by decide +kernel
theorem dX11_takes_50 : decode cX11_takes 50 = .ok (.ireturn, 1) := by decide +kernel
theorem dX11_takes_51 : decode cX11_takes 51 = .ok (.aload_n 1, 1) := by decide +kernel
theorem dX11_takes_52 : decode cX11_takes 52 = .ok (.getfield 113, 3) := by decide +kernel
theorem dX11_takes_55 : decode cX11_takes 55 = .ok (.bipush 16, 2) := by decide +kernel
theorem dX11_takes_57 : decode cX11_takes 57 = .ok (.if_icmp .ne 18, 3) := by decide +kernel
theorem dX11_takes_60 : decode cX11_takes 60 = .ok (.iload_n 0, 1) := by decide +kernel
theorem dX11_takes_61 : decode cX11_takes 61 = .ok (.aload_n 1, 1) := by decide +kernel
theorem dX11_takes_62 : decode cX11_takes 62 = .ok (.getfield 123, 3) := by decide +kernel
theorem dX11_takes_65 : decode cX11_takes 65 = .ok (.invokestatic 126, 3) := by decide +kernel
theorem dX11_takes_68 : decode cX11_takes 68 = .ok (.ifCond .eq 7, 3) := by decide +kernel
theorem dX11_takes_71 : decode cX11_takes 71 = .ok (.iconst 1, 1) := by decide +kernel
theorem dX11_takes_72 : decode cX11_takes 72 = .ok (.goto 4, 3) := by decide +kernel
theorem dX11_takes_75 : decode cX11_takes 75 = .ok (.iconst 0, 1) := by decide +kernel
theorem dX11_takes_76 : decode cX11_takes 76 = .ok (.ireturn, 1) := by decide +kernel
theorem dX11_newRow_0 : decode cX11_newRow 0 = .ok (.aload_n 0, 1) := by decide +kernel
theorem dX11_newRow_1 : decode cX11_newRow 1 = .ok (.dup, 1) := by decide +kernel
theorem dX11_newRow_2 : decode cX11_newRow 2 = .ok (.getfield 243, 3) := by decide +kernel
theorem dX11_newRow_5 : decode cX11_newRow 5 = .ok (.iconst 1, 1) := by decide +kernel
theorem dX11_newRow_6 : decode cX11_newRow 6 = .ok (.iadd, 1) := by decide +kernel
theorem dX11_newRow_7 : decode cX11_newRow 7 = .ok (.putfield 243, 3) := by decide +kernel
theorem dX11_newRow_10 : decode cX11_newRow 10 = .ok (.new 102, 3) := by decide +kernel
theorem dX11_newRow_13 : decode cX11_newRow 13 = .ok (.dup, 1) := by decide +kernel
theorem dX11_newRow_14 : decode cX11_newRow 14 = .ok (.iload_n 1, 1) := by decide +kernel
theorem dX11_newRow_15 : decode cX11_newRow 15 = .ok (.iload_n 2, 1) := by decide +kernel
theorem dX11_newRow_16 : decode cX11_newRow 16 = .ok (.ifCond .ge 7, 3) := by decide +kernel
theorem dX11_newRow_19 : decode cX11_newRow 19 = .ok (.iconst 0, 1) := by decide +kernel
theorem dX11_newRow_20 : decode cX11_newRow 20 = .ok (.goto 4, 3) := by decide +kernel
theorem dX11_newRow_23 : decode cX11_newRow 23 = .ok (.iload_n 2, 1) := by decide +kernel
theorem dX11_newRow_24 : decode cX11_newRow 24 = .ok (.newarray .long, 2) := by decide +kernel
theorem dX11_newRow_26 : decode cX11_newRow 26 = .ok (.iconst 0, 1) := by decide +kernel
theorem dX11_newRow_27 : decode cX11_newRow 27 = .ok (.anewarray 102, 3) := by decide +kernel
theorem dX11_newRow_30 : decode cX11_newRow 30 = .ok (.invokespecial 215, 3) := by decide +kernel
theorem dX11_newRow_33 : decode cX11_newRow 33 = .ok (.areturn, 1) := by decide +kernel
theorem dX11_newPlaces_0 : decode cX11_newPlaces 0 = .ok (.aload_n 0, 1) := by decide +kernel
theorem dX11_newPlaces_1 : decode cX11_newPlaces 1 = .ok (.dup, 1) := by decide +kernel
theorem dX11_newPlaces_2 : decode cX11_newPlaces 2 = .ok (.getfield 243, 3) := by decide +kernel
theorem dX11_newPlaces_5 : decode cX11_newPlaces 5 = .ok (.iconst 1, 1) := by decide +kernel
theorem dX11_newPlaces_6 : decode cX11_newPlaces 6 = .ok (.iadd, 1) := by decide +kernel
theorem dX11_newPlaces_7 : decode cX11_newPlaces 7 = .ok (.putfield 243, 3) := by decide +kernel
theorem dX11_newPlaces_10 : decode cX11_newPlaces 10 = .ok (.new 102, 3) := by decide +kernel
theorem dX11_newPlaces_13 : decode cX11_newPlaces 13 = .ok (.dup, 1) := by decide +kernel
theorem dX11_newPlaces_14 : decode cX11_newPlaces 14 = .ok (.iload_n 1, 1) := by decide +kernel
theorem dX11_newPlaces_15 : decode cX11_newPlaces 15 = .ok (.getstatic 212, 3) := by decide +kernel
theorem dX11_newPlaces_18 : decode cX11_newPlaces 18 = .ok (.iload_n 2, 1) := by decide +kernel
theorem dX11_newPlaces_19 : decode cX11_newPlaces 19 = .ok (.ifCond .ge 7, 3) := by decide +kernel
theorem dX11_newPlaces_22 : decode cX11_newPlaces 22 = .ok (.iconst 0, 1) := by decide +kernel
theorem dX11_newPlaces_23 : decode cX11_newPlaces 23 = .ok (.goto 4, 3) := by decide +kernel
theorem dX11_newPlaces_26 : decode cX11_newPlaces 26 = .ok (.iload_n 2, 1) := by decide +kernel
theorem dX11_newPlaces_27 : decode cX11_newPlaces 27 = .ok (.anewarray 102, 3) := by decide +kernel
theorem dX11_newPlaces_30 : decode cX11_newPlaces 30 = .ok (.invokespecial 215, 3) := by decide +kernel
theorem dX11_newPlaces_33 : decode cX11_newPlaces 33 = .ok (.areturn, 1) := by decide +kernel
theorem dX11_newCard_0 : decode cX11_newCard 0 = .ok (.aload_n 0, 1) := by decide +kernel
theorem dX11_newCard_1 : decode cX11_newCard 1 = .ok (.dup, 1) := by decide +kernel
theorem dX11_newCard_2 : decode cX11_newCard 2 = .ok (.getfield 243, 3) := by decide +kernel
theorem dX11_newCard_5 : decode cX11_newCard 5 = .ok (.iconst 1, 1) := by decide +kernel
theorem dX11_newCard_6 : decode cX11_newCard 6 = .ok (.iadd, 1) := by decide +kernel
theorem dX11_newCard_7 : decode cX11_newCard 7 = .ok (.putfield 243, 3) := by decide +kernel
theorem dX11_newCard_10 : decode cX11_newCard 10 = .ok (.new 102, 3) := by decide +kernel
theorem dX11_newCard_13 : decode cX11_newCard 13 = .ok (.dup, 1) := by decide +kernel
theorem dX11_newCard_14 : decode cX11_newCard 14 = .ok (.bipush 17, 2) := by decide +kernel
theorem dX11_newCard_16 : decode cX11_newCard 16 = .ok (.bipush 8, 2) := by decide +kernel
theorem dX11_newCard_18 : decode cX11_newCard 18 = .ok (.newarray .long, 2) := by decide +kernel
theorem dX11_newCard_20 : decode cX11_newCard 20 = .ok (.iconst 2, 1) := by decide +kernel
theorem dX11_newCard_21 : decode cX11_newCard 21 = .ok (.anewarray 102, 3) := by decide +kernel
theorem dX11_newCard_24 : decode cX11_newCard 24 = .ok (.invokespecial 215, 3) := by decide +kernel
theorem dX11_newCard_27 : decode cX11_newCard 27 = .ok (.astore_n 1, 1) := by decide +kernel
theorem dX11_newCard_28 : decode cX11_newCard 28 = .ok (.aload_n 1, 1) := by decide +kernel
theorem dX11_newCard_29 : decode cX11_newCard 29 = .ok (.aload_n 0, 1) := by decide +kernel
theorem dX11_newCard_30 : decode cX11_newCard 30 = .ok (.getfield 518, 3) := by decide +kernel
theorem dX11_newCard_33 : decode cX11_newCard 33 = .ok (.putfield 240, 3) := by decide +kernel
theorem dX11_newCard_36 : decode cX11_newCard 36 = .ok (.aload_n 0, 1) := by decide +kernel
theorem dX11_newCard_37 : decode cX11_newCard 37 = .ok (.dup, 1) := by decide +kernel
theorem dX11_newCard_38 : decode cX11_newCard 38 = .ok (.getfield 518, 3) := by decide +kernel
theorem dX11_newCard_41 : decode cX11_newCard 41 = .ok (.iconst 1, 1) := by decide +kernel
theorem dX11_newCard_42 : decode cX11_newCard 42 = .ok (.iadd, 1) := by decide +kernel
theorem dX11_newCard_43 : decode cX11_newCard 43 = .ok (.putfield 518, 3) := by decide +kernel
theorem dX11_newCard_46 : decode cX11_newCard 46 = .ok (.aload_n 1, 1) := by decide +kernel
theorem dX11_newCard_47 : decode cX11_newCard 47 = .ok (.areturn, 1) := by decide +kernel
theorem dX11_intoBin_0 : decode cX11_intoBin 0 = .ok (.aload_n 0, 1) := by decide +kernel
theorem dX11_intoBin_1 : decode cX11_intoBin 1 = .ok (.invokevirtual 83, 3) := by decide +kernel
theorem dX11_intoBin_4 : decode cX11_intoBin 4 = .ok (.ifCond .eq 6, 3) := by decide +kernel
theorem dX11_intoBin_7 : decode cX11_intoBin 7 = .ok (.bipush (-4), 2) := by decide +kernel
theorem dX11_intoBin_9 : decode cX11_intoBin 9 = .ok (.ireturn, 1) := by decide +kernel
theorem dX11_intoBin_10 : decode cX11_intoBin 10 = .ok (.iload_n 3, 1) := by decide +kernel
theorem dX11_intoBin_11 : decode cX11_intoBin 11 = .ok (.ifCond .ge 9, 3) := by decide +kernel
theorem dX11_intoBin_14 : decode cX11_intoBin 14 = .ok (.aload_n 0, 1) := by decide +kernel
theorem dX11_intoBin_15 : decode cX11_intoBin 15 = .ok (.iconst 3, 1) := by decide +kernel
theorem dX11_intoBin_16 : decode cX11_intoBin 16 = .ok (.invokevirtual 87, 3) := by decide +kernel
theorem dX11_intoBin_19 : decode cX11_intoBin 19 = .ok (.ireturn, 1) := by decide +kernel
theorem dX11_intoBin_20 : decode cX11_intoBin 20 = .ok (.aload_n 0, 1) := by decide +kernel
theorem dX11_intoBin_21 : decode cX11_intoBin 21 = .ok (.getfield 20, 3) := by decide +kernel
theorem dX11_intoBin_24 : decode cX11_intoBin 24 = .ok (.iload_n 1, 1) := by decide +kernel
theorem dX11_intoBin_25 : decode cX11_intoBin 25 = .ok (.aload_n 0, 1) := by decide +kernel
theorem dX11_intoBin_26 : decode cX11_intoBin 26 = .ok (.iload_n 2, 1) := by decide +kernel
theorem dX11_intoBin_27 : decode cX11_intoBin 27 = .ok (.iload_n 3, 1) := by decide +kernel
theorem dX11_intoBin_28 : decode cX11_intoBin 28 = .ok (.invokevirtual 98, 3) := by decide +kernel
theorem dX11_intoBin_31 : decode cX11_intoBin 31 = .ok (.aastore, 1) := by decide +kernel
theorem dX11_intoBin_32 : decode cX11_intoBin 32 = .ok (.iconst 1, 1) := by decide +kernel
theorem dX11_intoBin_33 : decode cX11_intoBin 33 = .ok (.ireturn, 1) := by decide +kernel
theorem dX11_copied_0 : decode cX11_copied 0 = .ok (.aload_n 1, 1) := by decide +kernel
theorem dX11_copied_1 : decode cX11_copied 1 = .ok (.ifnull 17, 3) := by decide +kernel
theorem dX11_copied_4 : decode cX11_copied 4 = .ok (.aload_n 1, 1) := by decide +kernel
theorem dX11_copied_5 : decode cX11_copied 5 = .ok (.getfield 113, 3) := by decide +kernel
theorem dX11_copied_8 : decode cX11_copied 8 = .ok (.bipush 16, 2) := by decide +kernel
theorem dX11_copied_10 : decode cX11_copied 10 = .ok (.if_icmp .eq 8, 3) := by decide +kernel
theorem dX11_copied_13 : decode cX11_copied 13 = .ok (.iload_n 3, 1) := by decide +kernel
theorem dX11_copied_14 : decode cX11_copied 14 = .ok (.iconst 3, 1) := by decide +kernel
theorem dX11_copied_15 : decode cX11_copied 15 = .ok (.if_icmp .le 5, 3) := by decide +kernel
theorem dX11_copied_18 : decode cX11_copied 18 = .ok (.aload_n 1, 1) := by decide +kernel
theorem dX11_copied_19 : decode cX11_copied 19 = .ok (.areturn, 1) := by decide +kernel
theorem dX11_copied_20 : decode cX11_copied 20 = .ok (.aload_n 1, 1) := by decide +kernel
theorem dX11_copied_21 : decode cX11_copied 21 = .ok (.invokestatic 183, 3) := by decide +kernel
theorem dX11_copied_24 : decode cX11_copied 24 = .ok (.ifCond .eq 34, 3) := by decide +kernel
theorem dX11_copied_27 : decode cX11_copied 27 = .ok (.aload_n 0, 1) := by decide +kernel
theorem dX11_copied_28 : decode cX11_copied 28 = .ok (.aload_n 1, 1) := by decide +kernel
theorem dX11_copied_29 : decode cX11_copied 29 = .ok (.getfield 113, 3) := by decide +kernel
theorem dX11_copied_32 : decode cX11_copied 32 = .ok (.aload_n 1, 1) := by decide +kernel
theorem dX11_copied_33 : decode cX11_copied 33 = .ok (.getfield 134, 3) := by decide +kernel
theorem dX11_copied_36 : decode cX11_copied 36 = .ok (.arraylength, 1) := by decide +kernel
theorem dX11_copied_37 : decode cX11_copied 37 = .ok (.invokevirtual 91, 3) := by decide +kernel
theorem dX11_copied_40 : decode cX11_copied 40 = .ok (.astore 4, 2) := by decide +kernel
theorem dX11_copied_42 : decode cX11_copied 42 = .ok (.aload_n 1, 1) := by decide +kernel
theorem dX11_copied_43 : decode cX11_copied 43 = .ok (.iconst 0, 1) := by decide +kernel
theorem dX11_copied_44 : decode cX11_copied 44 = .ok (.aload 4, 2) := by decide +kernel
theorem dX11_copied_46 : decode cX11_copied 46 = .ok (.iconst 0, 1) := by decide +kernel
theorem dX11_copied_47 : decode cX11_copied 47 = .ok (.aload_n 1, 1) := by decide +kernel
theorem dX11_copied_48 : decode cX11_copied 48 = .ok (.getfield 134, 3) := by decide +kernel
theorem dX11_copied_51 : decode cX11_copied 51 = .ok (.arraylength, 1) := by decide +kernel
theorem dX11_copied_52 : decode cX11_copied 52 = .ok (.invokestatic 187, 3) := by decide +kernel
theorem dX11_copied_55 : decode cX11_copied 55 = .ok (.aload 4, 2) := by decide +kernel
theorem dX11_copied_57 : decode cX11_copied 57 = .ok (.areturn, 1) := by decide +kernel
theorem dX11_copied_58 : decode cX11_copied 58 = .ok (.aload_n 1, 1) := by decide +kernel
theorem dX11_copied_59 : decode cX11_copied 59 = .ok (.getfield 113, 3) := by decide +kernel
theorem dX11_copied_62 : decode cX11_copied 62 = .ok (.bipush 17, 2) := by decide +kernel
theorem dX11_copied_64 : decode cX11_copied 64 = .ok (.if_icmp .ne 38, 3) := by decide +kernel
theorem dX11_copied_67 : decode cX11_copied 67 = .ok (.aload_n 0, 1) := by decide +kernel
theorem dX11_copied_68 : decode cX11_copied 68 = .ok (.invokevirtual 263, 3) := by decide +kernel
theorem dX11_copied_71 : decode cX11_copied 71 = .ok (.astore 4, 2) := by decide +kernel
theorem dX11_copied_73 : decode cX11_copied 73 = .ok (.aload_n 1, 1) := by decide +kernel
theorem dX11_copied_74 : decode cX11_copied 74 = .ok (.iconst 0, 1) := by decide +kernel
theorem dX11_copied_75 : decode cX11_copied 75 = .ok (.aload 4, 2) := by decide +kernel
theorem dX11_copied_77 : decode cX11_copied 77 = .ok (.iconst 0, 1) := by decide +kernel
theorem dX11_copied_78 : decode cX11_copied 78 = .ok (.aload_n 1, 1) := by decide +kernel
theorem dX11_copied_79 : decode cX11_copied 79 = .ok (.getfield 134, 3) := by decide +kernel
theorem dX11_copied_82 : decode cX11_copied 82 = .ok (.arraylength, 1) := by decide +kernel
theorem dX11_copied_83 : decode cX11_copied 83 = .ok (.invokestatic 187, 3) := by decide +kernel
theorem dX11_copied_86 : decode cX11_copied 86 = .ok (.aload_n 1, 1) := by decide +kernel
theorem dX11_copied_87 : decode cX11_copied 87 = .ok (.iconst 0, 1) := by decide +kernel
theorem dX11_copied_88 : decode cX11_copied 88 = .ok (.aload 4, 2) := by decide +kernel
theorem dX11_copied_90 : decode cX11_copied 90 = .ok (.iconst 0, 1) := by decide +kernel
theorem dX11_copied_91 : decode cX11_copied 91 = .ok (.aload_n 1, 1) := by decide +kernel
theorem dX11_copied_92 : decode cX11_copied 92 = .ok (.getfield 101, 3) := by decide +kernel
theorem dX11_copied_95 : decode cX11_copied 95 = .ok (.arraylength, 1) := by decide +kernel
theorem dX11_copied_96 : decode cX11_copied 96 = .ok (.invokestatic 195, 3) := by decide +kernel
theorem dX11_copied_99 : decode cX11_copied 99 = .ok (.aload 4, 2) := by decide +kernel
theorem dX11_copied_101 : decode cX11_copied 101 = .ok (.areturn, 1) := by decide +kernel
theorem dX11_copied_102 : decode cX11_copied 102 = .ok (.aload_n 0, 1) := by decide +kernel
theorem dX11_copied_103 : decode cX11_copied 103 = .ok (.aload_n 1, 1) := by decide +kernel
theorem dX11_copied_104 : decode cX11_copied 104 = .ok (.getfield 113, 3) := by decide +kernel
theorem dX11_copied_107 : decode cX11_copied 107 = .ok (.aload_n 1, 1) := by decide +kernel
theorem dX11_copied_108 : decode cX11_copied 108 = .ok (.getfield 101, 3) := by decide +kernel
theorem dX11_copied_111 : decode cX11_copied 111 = .ok (.arraylength, 1) := by decide +kernel
theorem dX11_copied_112 : decode cX11_copied 112 = .ok (.invokevirtual 98, 3) := by decide +kernel
theorem dX11_copied_115 : decode cX11_copied 115 = .ok (.astore 4, 2) := by decide +kernel
theorem dX11_copied_117 : decode cX11_copied 117 = .ok (.iconst 0, 1) := by decide +kernel
theorem dX11_copied_118 : decode cX11_copied 118 = .ok (.istore 5, 2) := by decide +kernel
theorem dX11_copied_120 : decode cX11_copied 120 = .ok (.iload 5, 2) := by decide +kernel
theorem dX11_copied_122 : decode cX11_copied 122 = .ok (.aload 4, 2) := by decide +kernel
theorem dX11_copied_124 : decode cX11_copied 124 = .ok (.getfield 101, 3) := by decide +kernel
theorem dX11_copied_127 : decode cX11_copied 127 = .ok (.arraylength, 1) := by decide +kernel
theorem dX11_copied_128 : decode cX11_copied 128 = .ok (.if_icmp .ge 46, 3) := by decide +kernel
theorem dX11_copied_131 : decode cX11_copied 131 = .ok (.aload 4, 2) := by decide +kernel
theorem dX11_copied_133 : decode cX11_copied 133 = .ok (.getfield 101, 3) := by decide +kernel
theorem dX11_copied_136 : decode cX11_copied 136 = .ok (.iload 5, 2) := by decide +kernel
theorem dX11_copied_138 : decode cX11_copied 138 = .ok (.iload_n 2, 1) := by decide +kernel
theorem dX11_copied_139 : decode cX11_copied 139 = .ok (.ifCond .eq 21, 3) := by decide +kernel
theorem dX11_copied_142 : decode cX11_copied 142 = .ok (.aload_n 0, 1) := by decide +kernel
theorem dX11_copied_143 : decode cX11_copied 143 = .ok (.aload_n 1, 1) := by decide +kernel
theorem dX11_copied_144 : decode cX11_copied 144 = .ok (.getfield 101, 3) := by decide +kernel
theorem dX11_copied_147 : decode cX11_copied 147 = .ok (.iload 5, 2) := by decide +kernel
theorem dX11_copied_149 : decode cX11_copied 149 = .ok (.aaload, 1) := by decide +kernel
theorem dX11_copied_150 : decode cX11_copied 150 = .ok (.iconst 1, 1) := by decide +kernel
theorem dX11_copied_151 : decode cX11_copied 151 = .ok (.iload_n 3, 1) := by decide +kernel
theorem dX11_copied_152 : decode cX11_copied 152 = .ok (.iconst 1, 1) := by decide +kernel
theorem dX11_copied_153 : decode cX11_copied 153 = .ok (.iadd, 1) := by decide +kernel
theorem dX11_copied_154 : decode cX11_copied 154 = .ok (.invokevirtual 198, 3) := by decide +kernel
theorem dX11_copied_157 : decode cX11_copied 157 = .ok (.goto 10, 3) := by decide +kernel
theorem dX11_copied_160 : decode cX11_copied 160 = .ok (.aload_n 1, 1) := by decide +kernel
theorem dX11_copied_161 : decode cX11_copied 161 = .ok (.getfield 101, 3) := by decide +kernel
theorem dX11_copied_164 : decode cX11_copied 164 = .ok (.iload 5, 2) := by decide +kernel
theorem dX11_copied_166 : decode cX11_copied 166 = .ok (.aaload, 1) := by decide +kernel
theorem dX11_copied_167 : decode cX11_copied 167 = .ok (.aastore, 1) := by decide +kernel
theorem dX11_copied_168 : decode cX11_copied 168 = .ok (.iinc 5 1, 3) := by decide +kernel
theorem dX11_copied_171 : decode cX11_copied 171 = .ok (.goto (-51), 3) := by decide +kernel
theorem dX11_copied_174 : decode cX11_copied 174 = .ok (.aload 4, 2) := by decide +kernel
theorem dX11_copied_176 : decode cX11_copied 176 = .ok (.areturn, 1) := by decide +kernel
theorem dX11_equalThings_0 : decode cX11_equalThings 0 = .ok (.aload_n 0, 1) := by decide +kernel
theorem dX11_equalThings_1 : decode cX11_equalThings 1 = .ok (.aload_n 1, 1) := by decide +kernel
theorem dX11_equalThings_2 : decode cX11_equalThings 2 = .ok (.if_acmp .ne 5, 3) := by decide +kernel
theorem dX11_equalThings_5 : decode cX11_equalThings 5 = .ok (.iconst 1, 1) := by decide +kernel
theorem dX11_equalThings_6 : decode cX11_equalThings 6 = .ok (.ireturn, 1) := by decide +kernel
theorem dX11_equalThings_7 : decode cX11_equalThings 7 = .ok (.aload_n 0, 1) := by decide +kernel
theorem dX11_equalThings_8 : decode cX11_equalThings 8 = .ok (.ifnull 32, 3) := by decide +kernel
theorem dX11_equalThings_11 : decode cX11_equalThings 11 = .ok (.aload_n 1, 1) := by decide +kernel
theorem dX11_equalThings_12 : decode cX11_equalThings 12 = .ok (.ifnull 28, 3) := by decide +kernel
theorem dX11_equalThings_15 : decode cX11_equalThings 15 = .ok (.aload_n 0, 1) := by decide +kernel
theorem dX11_equalThings_16 : decode cX11_equalThings 16 = .ok (.getfield 113, 3) := by decide +kernel
theorem dX11_equalThings_19 : decode cX11_equalThings 19 = .ok (.aload_n 1, 1) := by decide +kernel
theorem dX11_equalThings_20 : decode cX11_equalThings 20 = .ok (.getfield 113, 3) := by decide +kernel
theorem dX11_equalThings_23 : decode cX11_equalThings 23 = .ok (.if_icmp .ne 17, 3) := by decide +kernel
theorem dX11_equalThings_26 : decode cX11_equalThings 26 = .ok (.aload_n 0, 1) := by decide +kernel
theorem dX11_equalThings_27 : decode cX11_equalThings 27 = .ok (.getfield 113, 3) := by decide +kernel
theorem dX11_equalThings_30 : decode cX11_equalThings 30 = .ok (.bipush 16, 2) := by decide +kernel
theorem dX11_equalThings_32 : decode cX11_equalThings 32 = .ok (.if_icmp .eq 8, 3) := by decide +kernel
theorem dX11_equalThings_35 : decode cX11_equalThings 35 = .ok (.iload_n 2, 1) := by decide +kernel
theorem dX11_equalThings_36 : decode cX11_equalThings 36 = .ok (.iconst 3, 1) := by decide +kernel
theorem dX11_equalThings_37 : decode cX11_equalThings 37 = .ok (.if_icmp .le 5, 3) := by decide +kernel
theorem dX11_equalThings_40 : decode cX11_equalThings 40 = .ok (.iconst 0, 1) := by decide +kernel
theorem dX11_equalThings_41 : decode cX11_equalThings 41 = .ok (.ireturn, 1) := by decide +kernel
theorem dX11_equalThings_42 : decode cX11_equalThings 42 = .ok (.aload_n 0, 1) := by decide +kernel
theorem dX11_equalThings_43 : decode cX11_equalThings 43 = .ok (.aload_n 1, 1) := by decide +kernel
theorem dX11_equalThings_44 : decode cX11_equalThings 44 = .ok (.invokestatic 521, 3) := by decide +kernel
theorem dX11_equalThings_47 : decode cX11_equalThings 47 = .ok (.ifCond .eq 16, 3) := by decide +kernel
theorem dX11_equalThings_50 : decode cX11_equalThings 50 = .ok (.aload_n 0, 1) := by decide +kernel
theorem dX11_equalThings_51 : decode cX11_equalThings 51 = .ok (.getfield 101, 3) := by decide +kernel
theorem dX11_equalThings_54 : decode cX11_equalThings 54 = .ok (.arraylength, 1) := by decide +kernel
theorem dX11_equalThings_55 : decode cX11_equalThings 55 = .ok (.aload_n 1, 1) := by decide +kernel
theorem dX11_equalThings_56 : decode cX11_equalThings 56 = .ok (.getfield 101, 3) := by decide +kernel
theorem dX11_equalThings_59 : decode cX11_equalThings 59 = .ok (.arraylength, 1) := by decide +kernel
theorem dX11_equalThings_60 : decode cX11_equalThings 60 = .ok (.if_icmp .eq 5, 3) := by decide +kernel
theorem dX11_equalThings_63 : decode cX11_equalThings 63 = .ok (.iconst 0, 1) := by decide +kernel
theorem dX11_equalThings_64 : decode cX11_equalThings 64 = .ok (.ireturn, 1) := by decide +kernel
theorem dX11_equalThings_65 : decode cX11_equalThings 65 = .ok (.iconst 0, 1) := by decide +kernel
theorem dX11_equalThings_66 : decode cX11_equalThings 66 = .ok (.istore_n 3, 1) := by decide +kernel
theorem dX11_equalThings_67 : decode cX11_equalThings 67 = .ok (.iload_n 3, 1) := by decide +kernel
theorem dX11_equalThings_68 : decode cX11_equalThings 68 = .ok (.aload_n 0, 1) := by decide +kernel
theorem dX11_equalThings_69 : decode cX11_equalThings 69 = .ok (.getfield 101, 3) := by decide +kernel
theorem dX11_equalThings_72 : decode cX11_equalThings 72 = .ok (.arraylength, 1) := by decide +kernel
theorem dX11_equalThings_73 : decode cX11_equalThings 73 = .ok (.if_icmp .ge 68, 3) := by decide +kernel
theorem dX11_equalThings_76 : decode cX11_equalThings 76 = .ok (.aload_n 0, 1) := by decide +kernel
theorem dX11_equalThings_77 : decode cX11_equalThings 77 = .ok (.getfield 113, 3) := by decide +kernel
theorem dX11_equalThings_80 : decode cX11_equalThings 80 = .ok (.bipush 17, 2) := by decide +kernel
theorem dX11_equalThings_82 : decode cX11_equalThings 82 = .ok (.if_icmp .ne 26, 3) := by decide +kernel
theorem dX11_equalThings_85 : decode cX11_equalThings 85 = .ok (.aload_n 0, 1) := by decide +kernel
theorem dX11_equalThings_86 : decode cX11_equalThings 86 = .ok (.getfield 101, 3) := by decide +kernel
theorem dX11_equalThings_89 : decode cX11_equalThings 89 = .ok (.iload_n 3, 1) := by decide +kernel
theorem dX11_equalThings_90 : decode cX11_equalThings 90 = .ok (.aaload, 1) := by decide +kernel
theorem dX11_equalThings_91 : decode cX11_equalThings 91 = .ok (.aload_n 1, 1) := by decide +kernel
theorem dX11_equalThings_92 : decode cX11_equalThings 92 = .ok (.getfield 101, 3) := by decide +kernel
theorem dX11_equalThings_95 : decode cX11_equalThings 95 = .ok (.iload_n 3, 1) := by decide +kernel
theorem dX11_equalThings_96 : decode cX11_equalThings 96 = .ok (.aaload, 1) := by decide +kernel
theorem dX11_equalThings_97 : decode cX11_equalThings 97 = .ok (.if_acmp .ne 7, 3) := by decide +kernel
theorem dX11_equalThings_100 : decode cX11_equalThings 100 = .ok (.iconst 1, 1) := by decide +kernel
theorem dX11_equalThings_101 : decode cX11_equalThings 101 = .ok (.goto 25, 3) := by decide +kernel
theorem dX11_equalThings_104 : decode cX11_equalThings 104 = .ok (.iconst 0, 1) := by decide +kernel
theorem dX11_equalThings_105 : decode cX11_equalThings 105 = .ok (.goto 21, 3) := by decide +kernel
theorem dX11_equalThings_108 : decode cX11_equalThings 108 = .ok (.aload_n 0, 1) := by decide +kernel
theorem dX11_equalThings_109 : decode cX11_equalThings 109 = .ok (.getfield 101, 3) := by decide +kernel
theorem dX11_equalThings_112 : decode cX11_equalThings 112 = .ok (.iload_n 3, 1) := by decide +kernel
theorem dX11_equalThings_113 : decode cX11_equalThings 113 = .ok (.aaload, 1) := by decide +kernel
theorem dX11_equalThings_114 : decode cX11_equalThings 114 = .ok (.aload_n 1, 1) := by decide +kernel
theorem dX11_equalThings_115 : decode cX11_equalThings 115 = .ok (.getfield 101, 3) := by decide +kernel
theorem dX11_equalThings_118 : decode cX11_equalThings 118 = .ok (.iload_n 3, 1) := by decide +kernel
theorem dX11_equalThings_119 : decode cX11_equalThings 119 = .ok (.aaload, 1) := by decide +kernel
theorem dX11_equalThings_120 : decode cX11_equalThings 120 = .ok (.iload_n 2, 1) := by decide +kernel
theorem dX11_equalThings_121 : decode cX11_equalThings 121 = .ok (.iconst 1, 1) := by decide +kernel
theorem dX11_equalThings_122 : decode cX11_equalThings 122 = .ok (.iadd, 1) := by decide +kernel
theorem dX11_equalThings_123 : decode cX11_equalThings 123 = .ok (.invokestatic 202, 3) := by decide +kernel
theorem dX11_equalThings_126 : decode cX11_equalThings 126 = .ok (.istore 4, 2) := by decide +kernel
theorem dX11_equalThings_128 : decode cX11_equalThings 128 = .ok (.iload 4, 2) := by decide +kernel
theorem dX11_equalThings_130 : decode cX11_equalThings 130 = .ok (.ifCond .ne 5, 3) := by decide +kernel
theorem dX11_equalThings_133 : decode cX11_equalThings 133 = .ok (.iconst 0, 1) := by decide +kernel
theorem dX11_equalThings_134 : decode cX11_equalThings 134 = .ok (.ireturn, 1) := by decide +kernel
theorem dX11_equalThings_135 : decode cX11_equalThings 135 = .ok (.iinc 3 1, 3) := by decide +kernel
theorem dX11_equalThings_138 : decode cX11_equalThings 138 = .ok (.goto (-71), 3) := by decide +kernel
theorem dX11_equalThings_141 : decode cX11_equalThings 141 = .ok (.iconst 1, 1) := by decide +kernel
theorem dX11_equalThings_142 : decode cX11_equalThings 142 = .ok (.ireturn, 1) := by decide +kernel
theorem dX11_equalCells_0 : decode cX11_equalCells 0 = .ok (.aload_n 0, 1) := by decide +kernel
theorem dX11_equalCells_1 : decode cX11_equalCells 1 = .ok (.getfield 134, 3) := by decide +kernel
theorem dX11_equalCells_4 : decode cX11_equalCells 4 = .ok (.arraylength, 1) := by decide +kernel
theorem dX11_equalCells_5 : decode cX11_equalCells 5 = .ok (.aload_n 1, 1) := by decide +kernel
theorem dX11_equalCells_6 : decode cX11_equalCells 6 = .ok (.getfield 134, 3) := by decide +kernel
theorem dX11_equalCells_9 : decode cX11_equalCells 9 = .ok (.arraylength, 1) := by decide +kernel
theorem dX11_equalCells_10 : decode cX11_equalCells 10 = .ok (.if_icmp .eq 5, 3) := by decide +kernel
theorem dX11_equalCells_13 : decode cX11_equalCells 13 = .ok (.iconst 0, 1) := by decide +kernel
theorem dX11_equalCells_14 : decode cX11_equalCells 14 = .ok (.ireturn, 1) := by decide +kernel
theorem dX11_equalCells_15 : decode cX11_equalCells 15 = .ok (.iconst 0, 1) := by decide +kernel
theorem dX11_equalCells_16 : decode cX11_equalCells 16 = .ok (.istore_n 2, 1) := by decide +kernel
theorem dX11_equalCells_17 : decode cX11_equalCells 17 = .ok (.iload_n 2, 1) := by decide +kernel
theorem dX11_equalCells_18 : decode cX11_equalCells 18 = .ok (.aload_n 0, 1) := by decide +kernel
theorem dX11_equalCells_19 : decode cX11_equalCells 19 = .ok (.getfield 134, 3) := by decide +kernel
theorem dX11_equalCells_22 : decode cX11_equalCells 22 = .ok (.arraylength, 1) := by decide +kernel
theorem dX11_equalCells_23 : decode cX11_equalCells 23 = .ok (.if_icmp .ge 27, 3) := by decide +kernel
theorem dX11_equalCells_26 : decode cX11_equalCells 26 = .ok (.aload_n 0, 1) := by decide +kernel
theorem dX11_equalCells_27 : decode cX11_equalCells 27 = .ok (.getfield 134, 3) := by decide +kernel
theorem dX11_equalCells_30 : decode cX11_equalCells 30 = .ok (.iload_n 2, 1) := by decide +kernel
theorem dX11_equalCells_31 : decode cX11_equalCells 31 = .ok (.laload, 1) := by decide +kernel
theorem dX11_equalCells_32 : decode cX11_equalCells 32 = .ok (.aload_n 1, 1) := by decide +kernel
theorem dX11_equalCells_33 : decode cX11_equalCells 33 = .ok (.getfield 134, 3) := by decide +kernel
theorem dX11_equalCells_36 : decode cX11_equalCells 36 = .ok (.iload_n 2, 1) := by decide +kernel
theorem dX11_equalCells_37 : decode cX11_equalCells 37 = .ok (.laload, 1) := by decide +kernel
theorem dX11_equalCells_38 : decode cX11_equalCells 38 = .ok (.lcmp, 1) := by decide +kernel
theorem dX11_equalCells_39 : decode cX11_equalCells 39 = .ok (.ifCond .eq 5, 3) := by decide +kernel
theorem dX11_equalCells_42 : decode cX11_equalCells 42 = .ok (.iconst 0, 1) := by decide +kernel
theorem dX11_equalCells_43 : decode cX11_equalCells 43 = .ok (.ireturn, 1) := by decide +kernel
theorem dX11_equalCells_44 : decode cX11_equalCells 44 = .ok (.iinc 2 1, 3) := by decide +kernel
theorem dX11_equalCells_47 : decode cX11_equalCells 47 = .ok (.goto (-30), 3) := by decide +kernel
theorem dX11_equalCells_50 : decode cX11_equalCells 50 = .ok (.iconst 1, 1) := by decide +kernel
theorem dX11_equalCells_51 : decode cX11_equalCells 51 = .ok (.ireturn, 1) := by decide +kernel
theorem dX11_shiftable_0 : decode cX11_shiftable 0 = .ok (.aload_n 0, 1) := by decide +kernel
theorem dX11_shiftable_1 : decode cX11_shiftable 1 = .ok (.invokestatic 183, 3) := by decide +kernel
theorem dX11_shiftable_4 : decode cX11_shiftable 4 = .ok (.ifCond .ne 10, 3) := by decide +kernel
theorem dX11_shiftable_7 : decode cX11_shiftable 7 = .ok (.aload_n 1, 1) := by decide +kernel
theorem dX11_shiftable_8 : decode cX11_shiftable 8 = .ok (.invokestatic 183, 3) := by decide +kernel
theorem dX11_shiftable_11 : decode cX11_shiftable 11 = .ok (.ifCond .eq 20, 3) := by decide +kernel
theorem dX11_shiftable_14 : decode cX11_shiftable 14 = .ok (.aload_n 0, 1) := by decide +kernel
theorem dX11_shiftable_15 : decode cX11_shiftable 15 = .ok (.getfield 113, 3) := by decide +kernel
theorem dX11_shiftable_18 : decode cX11_shiftable 18 = .ok (.aload_n 1, 1) := by decide +kernel
theorem dX11_shiftable_19 : decode cX11_shiftable 19 = .ok (.getfield 113, 3) := by decide +kernel
theorem dX11_shiftable_22 : decode cX11_shiftable 22 = .ok (.if_icmp .ne 7, 3) := by decide +kernel
theorem dX11_shiftable_25 : decode cX11_shiftable 25 = .ok (.iconst 1, 1) := by decide +kernel
theorem dX11_shiftable_26 : decode cX11_shiftable 26 = .ok (.goto 4, 3) := by decide +kernel
theorem dX11_shiftable_29 : decode cX11_shiftable 29 = .ok (.iconst 0, 1) := by decide +kernel
theorem dX11_shiftable_30 : decode cX11_shiftable 30 = .ok (.ireturn, 1) := by decide +kernel
theorem dX11_shiftable_31 : decode cX11_shiftable 31 = .ok (.aload_n 0, 1) := by decide +kernel
theorem dX11_shiftable_32 : decode cX11_shiftable 32 = .ok (.getfield 113, 3) := by decide +kernel
theorem dX11_shiftable_35 : decode cX11_shiftable 35 = .ok (.invokestatic 206, 3) := by decide +kernel
theorem dX11_shiftable_38 : decode cX11_shiftable 38 = .ok (.ifCond .eq 17, 3) := by decide +kernel
theorem dX11_shiftable_41 : decode cX11_shiftable 41 = .ok (.aload_n 1, 1) := by decide +kernel
theorem dX11_shiftable_42 : decode cX11_shiftable 42 = .ok (.getfield 113, 3) := by decide +kernel
theorem dX11_shiftable_45 : decode cX11_shiftable 45 = .ok (.invokestatic 206, 3) := by decide +kernel
theorem dX11_shiftable_48 : decode cX11_shiftable 48 = .ok (.ifCond .eq 7, 3) := by decide +kernel
theorem dX11_shiftable_51 : decode cX11_shiftable 51 = .ok (.iconst 1, 1) := by decide +kernel
theorem dX11_shiftable_52 : decode cX11_shiftable 52 = .ok (.goto 4, 3) := by decide +kernel
theorem dX11_shiftable_55 : decode cX11_shiftable 55 = .ok (.iconst 0, 1) := by decide +kernel
theorem dX11_shiftable_56 : decode cX11_shiftable 56 = .ok (.ireturn, 1) := by decide +kernel
theorem dX11_spanFits_0 : decode cX11_spanFits 0 = .ok (.iload_n 1, 1) := by decide +kernel
theorem dX11_spanFits_1 : decode cX11_spanFits 1 = .ok (.ifCond .lt 23, 3) := by decide +kernel
theorem dX11_spanFits_4 : decode cX11_spanFits 4 = .ok (.iload_n 2, 1) := by decide +kernel
theorem dX11_spanFits_5 : decode cX11_spanFits 5 = .ok (.ifCond .lt 19, 3) := by decide +kernel
theorem dX11_spanFits_8 : decode cX11_spanFits 8 = .ok (.iload_n 2, 1) := by decide +kernel
theorem dX11_spanFits_9 : decode cX11_spanFits 9 = .ok (.iload_n 0, 1) := by decide +kernel
theorem dX11_spanFits_10 : decode cX11_spanFits 10 = .ok (.if_icmp .gt 14, 3) := by decide +kernel
theorem dX11_spanFits_13 : decode cX11_spanFits 13 = .ok (.iload_n 1, 1) := by decide +kernel
theorem dX11_spanFits_14 : decode cX11_spanFits 14 = .ok (.iload_n 0, 1) := by decide +kernel
theorem dX11_spanFits_15 : decode cX11_spanFits 15 = .ok (.iload_n 2, 1) := by decide +kernel
theorem dX11_spanFits_16 : decode cX11_spanFits 16 = .ok (.isub, 1) := by decide +kernel
theorem dX11_spanFits_17 : decode cX11_spanFits 17 = .ok (.if_icmp .gt 7, 3) := by decide +kernel
theorem dX11_spanFits_20 : decode cX11_spanFits 20 = .ok (.iconst 1, 1) := by decide +kernel
theorem dX11_spanFits_21 : decode cX11_spanFits 21 = .ok (.goto 4, 3) := by decide +kernel
theorem dX11_spanFits_24 : decode cX11_spanFits 24 = .ok (.iconst 0, 1) := by decide +kernel
theorem dX11_spanFits_25 : decode cX11_spanFits 25 = .ok (.ireturn, 1) := by decide +kernel
theorem dX11_leadTaken_0 : decode cX11_leadTaken 0 = .ok (.iconst 0, 1) := by decide +kernel
theorem dX11_leadTaken_1 : decode cX11_leadTaken 1 = .ok (.istore 4, 2) := by decide +kernel
theorem dX11_leadTaken_3 : decode cX11_leadTaken 3 = .ok (.iload 4, 2) := by decide +kernel
theorem dX11_leadTaken_5 : decode cX11_leadTaken 5 = .ok (.iload_n 3, 1) := by decide +kernel
theorem dX11_leadTaken_6 : decode cX11_leadTaken 6 = .ok (.if_icmp .ge 30, 3) := by decide +kernel
theorem dX11_leadTaken_9 : decode cX11_leadTaken 9 = .ok (.aload_n 2, 1) := by decide +kernel
theorem dX11_leadTaken_10 : decode cX11_leadTaken 10 = .ok (.getfield 113, 3) := by decide +kernel
theorem dX11_leadTaken_13 : decode cX11_leadTaken 13 = .ok (.aload_n 0, 1) := by decide +kernel
theorem dX11_leadTaken_14 : decode cX11_leadTaken 14 = .ok (.iload_n 1, 1) := by decide +kernel
theorem dX11_leadTaken_15 : decode cX11_leadTaken 15 = .ok (.iload 4, 2) := by decide +kernel
theorem dX11_leadTaken_17 : decode cX11_leadTaken 17 = .ok (.iadd, 1) := by decide +kernel
theorem dX11_leadTaken_18 : decode cX11_leadTaken 18 = .ok (.invokestatic 152, 3) := by decide +kernel
theorem dX11_leadTaken_21 : decode cX11_leadTaken 21 = .ok (.invokestatic 160, 3) := by decide +kernel
theorem dX11_leadTaken_24 : decode cX11_leadTaken 24 = .ok (.ifCond .ne 6, 3) := by decide +kernel
theorem dX11_leadTaken_27 : decode cX11_leadTaken 27 = .ok (.iload 4, 2) := by decide +kernel
theorem dX11_leadTaken_29 : decode cX11_leadTaken 29 = .ok (.ireturn, 1) := by decide +kernel
theorem dX11_leadTaken_30 : decode cX11_leadTaken 30 = .ok (.iinc 4 1, 3) := by decide +kernel
theorem dX11_leadTaken_33 : decode cX11_leadTaken 33 = .ok (.goto (-30), 3) := by decide +kernel
theorem dX11_leadTaken_36 : decode cX11_leadTaken 36 = .ok (.iload_n 3, 1) := by decide +kernel
theorem dX11_leadTaken_37 : decode cX11_leadTaken 37 = .ok (.ireturn, 1) := by decide +kernel
theorem dX11_moveCells_0 : decode cX11_moveCells 0 = .ok (.aload_n 0, 1) := by decide +kernel
theorem dX11_moveCells_1 : decode cX11_moveCells 1 = .ok (.getfield 134, 3) := by decide +kernel
theorem dX11_moveCells_4 : decode cX11_moveCells 4 = .ok (.arraylength, 1) := by decide +kernel
theorem dX11_moveCells_5 : decode cX11_moveCells 5 = .ok (.iload_n 1, 1) := by decide +kernel
theorem dX11_moveCells_6 : decode cX11_moveCells 6 = .ok (.iload 4, 2) := by decide +kernel
theorem dX11_moveCells_8 : decode cX11_moveCells 8 = .ok (.invokestatic 179, 3) := by decide +kernel
theorem dX11_moveCells_11 : decode cX11_moveCells 11 = .ok (.ifCond .eq 17, 3) := by decide +kernel
theorem dX11_moveCells_14 : decode cX11_moveCells 14 = .ok (.aload_n 2, 1) := by decide +kernel
theorem dX11_moveCells_15 : decode cX11_moveCells 15 = .ok (.getfield 134, 3) := by decide +kernel
theorem dX11_moveCells_18 : decode cX11_moveCells 18 = .ok (.arraylength, 1) := by decide +kernel
theorem dX11_moveCells_19 : decode cX11_moveCells 19 = .ok (.iload_n 3, 1) := by decide +kernel
theorem dX11_moveCells_20 : decode cX11_moveCells 20 = .ok (.iload 4, 2) := by decide +kernel
theorem dX11_moveCells_22 : decode cX11_moveCells 22 = .ok (.invokestatic 179, 3) := by decide +kernel
theorem dX11_moveCells_25 : decode cX11_moveCells 25 = .ok (.ifCond .ne 4, 3) := by decide +kernel
theorem dX11_moveCells_28 : decode cX11_moveCells 28 = .ok (.return_, 1) := by decide +kernel
theorem dX11_moveCells_29 : decode cX11_moveCells 29 = .ok (.iconst 0, 1) := by decide +kernel
theorem dX11_moveCells_30 : decode cX11_moveCells 30 = .ok (.istore 5, 2) := by decide +kernel
theorem dX11_moveCells_32 : decode cX11_moveCells 32 = .ok (.iload 5, 2) := by decide +kernel
theorem dX11_moveCells_34 : decode cX11_moveCells 34 = .ok (.iload 4, 2) := by decide +kernel
theorem dX11_moveCells_36 : decode cX11_moveCells 36 = .ok (.if_icmp .ge 46, 3) := by decide +kernel
theorem dX11_moveCells_39 : decode cX11_moveCells 39 = .ok (.iload_n 3, 1) := by decide +kernel
theorem dX11_moveCells_40 : decode cX11_moveCells 40 = .ok (.iload_n 1, 1) := by decide +kernel
theorem dX11_moveCells_41 : decode cX11_moveCells 41 = .ok (.if_icmp .le 13, 3) := by decide +kernel
theorem dX11_moveCells_44 : decode cX11_moveCells 44 = .ok (.iload 4, 2) := by decide +kernel
theorem dX11_moveCells_46 : decode cX11_moveCells 46 = .ok (.iconst 1, 1) := by decide +kernel
theorem dX11_moveCells_47 : decode cX11_moveCells 47 = .ok (.isub, 1) := by decide +kernel
theorem dX11_moveCells_48 : decode cX11_moveCells 48 = .ok (.iload 5, 2) := by decide +kernel
theorem dX11_moveCells_50 : decode cX11_moveCells 50 = .ok (.isub, 1) := by decide +kernel
theorem dX11_moveCells_51 : decode cX11_moveCells 51 = .ok (.goto 5, 3) := by decide +kernel
theorem dX11_moveCells_54 : decode cX11_moveCells 54 = .ok (.iload 5, 2) := by decide +kernel
theorem dX11_moveCells_56 : decode cX11_moveCells 56 = .ok (.istore 6, 2) := by decide +kernel
theorem dX11_moveCells_58 : decode cX11_moveCells 58 = .ok (.aload_n 2, 1) := by decide +kernel
theorem dX11_moveCells_59 : decode cX11_moveCells 59 = .ok (.getfield 134, 3) := by decide +kernel
theorem dX11_moveCells_62 : decode cX11_moveCells 62 = .ok (.iload_n 3, 1) := by decide +kernel
theorem dX11_moveCells_63 : decode cX11_moveCells 63 = .ok (.iload 6, 2) := by decide +kernel
theorem dX11_moveCells_65 : decode cX11_moveCells 65 = .ok (.iadd, 1) := by decide +kernel
theorem dX11_moveCells_66 : decode cX11_moveCells 66 = .ok (.aload_n 0, 1) := by decide +kernel
theorem dX11_moveCells_67 : decode cX11_moveCells 67 = .ok (.getfield 134, 3) := by decide +kernel
theorem dX11_moveCells_70 : decode cX11_moveCells 70 = .ok (.iload_n 1, 1) := by decide +kernel
theorem dX11_moveCells_71 : decode cX11_moveCells 71 = .ok (.iload 6, 2) := by decide +kernel
theorem dX11_moveCells_73 : decode cX11_moveCells 73 = .ok (.iadd, 1) := by decide +kernel
theorem dX11_moveCells_74 : decode cX11_moveCells 74 = .ok (.laload, 1) := by decide +kernel
theorem dX11_moveCells_75 : decode cX11_moveCells 75 = .ok (.lastore, 1) := by decide +kernel
theorem dX11_moveCells_76 : decode cX11_moveCells 76 = .ok (.iinc 5 1, 3) := by decide +kernel
theorem dX11_moveCells_79 : decode cX11_moveCells 79 = .ok (.goto (-47), 3) := by decide +kernel
theorem dX11_moveCells_82 : decode cX11_moveCells 82 = .ok (.return_, 1) := by decide +kernel
theorem dX11_movePlaces_0 : decode cX11_movePlaces 0 = .ok (.aload_n 0, 1) := by decide +kernel
theorem dX11_movePlaces_1 : decode cX11_movePlaces 1 = .ok (.getfield 101, 3) := by decide +kernel
theorem dX11_movePlaces_4 : decode cX11_movePlaces 4 = .ok (.arraylength, 1) := by decide +kernel
theorem dX11_movePlaces_5 : decode cX11_movePlaces 5 = .ok (.iload_n 1, 1) := by decide +kernel
theorem dX11_movePlaces_6 : decode cX11_movePlaces 6 = .ok (.iload 4, 2) := by decide +kernel
theorem dX11_movePlaces_8 : decode cX11_movePlaces 8 = .ok (.invokestatic 179, 3) := by decide +kernel
theorem dX11_movePlaces_11 : decode cX11_movePlaces 11 = .ok (.ifCond .eq 17, 3) := by decide +kernel
theorem dX11_movePlaces_14 : decode cX11_movePlaces 14 = .ok (.aload_n 2, 1) := by decide +kernel
theorem dX11_movePlaces_15 : decode cX11_movePlaces 15 = .ok (.getfield 101, 3) := by decide +kernel
theorem dX11_movePlaces_18 : decode cX11_movePlaces 18 = .ok (.arraylength, 1) := by decide +kernel
theorem dX11_movePlaces_19 : decode cX11_movePlaces 19 = .ok (.iload_n 3, 1) := by decide +kernel
theorem dX11_movePlaces_20 : decode cX11_movePlaces 20 = .ok (.iload 4, 2) := by decide +kernel
theorem dX11_movePlaces_22 : decode cX11_movePlaces 22 = .ok (.invokestatic 179, 3) := by decide +kernel
theorem dX11_movePlaces_25 : decode cX11_movePlaces 25 = .ok (.ifCond .ne 4, 3) := by decide +kernel
theorem dX11_movePlaces_28 : decode cX11_movePlaces 28 = .ok (.return_, 1) := by decide +kernel
theorem dX11_movePlaces_29 : decode cX11_movePlaces 29 = .ok (.iconst 0, 1) := by decide +kernel
theorem dX11_movePlaces_30 : decode cX11_movePlaces 30 = .ok (.istore 5, 2) := by decide +kernel
theorem dX11_movePlaces_32 : decode cX11_movePlaces 32 = .ok (.iload 5, 2) := by decide +kernel
theorem dX11_movePlaces_34 : decode cX11_movePlaces 34 = .ok (.iload 4, 2) := by decide +kernel
theorem dX11_movePlaces_36 : decode cX11_movePlaces 36 = .ok (.if_icmp .ge 46, 3) := by decide +kernel
theorem dX11_movePlaces_39 : decode cX11_movePlaces 39 = .ok (.iload_n 3, 1) := by decide +kernel
theorem dX11_movePlaces_40 : decode cX11_movePlaces 40 = .ok (.iload_n 1, 1) := by decide +kernel
theorem dX11_movePlaces_41 : decode cX11_movePlaces 41 = .ok (.if_icmp .le 13, 3) := by decide +kernel
theorem dX11_movePlaces_44 : decode cX11_movePlaces 44 = .ok (.iload 4, 2) := by decide +kernel
theorem dX11_movePlaces_46 : decode cX11_movePlaces 46 = .ok (.iconst 1, 1) := by decide +kernel
theorem dX11_movePlaces_47 : decode cX11_movePlaces 47 = .ok (.isub, 1) := by decide +kernel
theorem dX11_movePlaces_48 : decode cX11_movePlaces 48 = .ok (.iload 5, 2) := by decide +kernel
theorem dX11_movePlaces_50 : decode cX11_movePlaces 50 = .ok (.isub, 1) := by decide +kernel
theorem dX11_movePlaces_51 : decode cX11_movePlaces 51 = .ok (.goto 5, 3) := by decide +kernel
theorem dX11_movePlaces_54 : decode cX11_movePlaces 54 = .ok (.iload 5, 2) := by decide +kernel
theorem dX11_movePlaces_56 : decode cX11_movePlaces 56 = .ok (.istore 6, 2) := by decide +kernel
theorem dX11_movePlaces_58 : decode cX11_movePlaces 58 = .ok (.aload_n 2, 1) := by decide +kernel
theorem dX11_movePlaces_59 : decode cX11_movePlaces 59 = .ok (.getfield 101, 3) := by decide +kernel
theorem dX11_movePlaces_62 : decode cX11_movePlaces 62 = .ok (.iload_n 3, 1) := by decide +kernel
theorem dX11_movePlaces_63 : decode cX11_movePlaces 63 = .ok (.iload 6, 2) := by decide +kernel
theorem dX11_movePlaces_65 : decode cX11_movePlaces 65 = .ok (.iadd, 1) := by decide +kernel
theorem dX11_movePlaces_66 : decode cX11_movePlaces 66 = .ok (.aload_n 0, 1) := by decide +kernel
theorem dX11_movePlaces_67 : decode cX11_movePlaces 67 = .ok (.getfield 101, 3) := by decide +kernel
theorem dX11_movePlaces_70 : decode cX11_movePlaces 70 = .ok (.iload_n 1, 1) := by decide +kernel
theorem dX11_movePlaces_71 : decode cX11_movePlaces 71 = .ok (.iload 6, 2) := by decide +kernel
theorem dX11_movePlaces_73 : decode cX11_movePlaces 73 = .ok (.iadd, 1) := by decide +kernel
theorem dX11_movePlaces_74 : decode cX11_movePlaces 74 = .ok (.aaload, 1) := by decide +kernel
theorem dX11_movePlaces_75 : decode cX11_movePlaces 75 = .ok (.aastore, 1) := by decide +kernel
theorem dX11_movePlaces_76 : decode cX11_movePlaces 76 = .ok (.iinc 5 1, 3) := by decide +kernel
theorem dX11_movePlaces_79 : decode cX11_movePlaces 79 = .ok (.goto (-47), 3) := by decide +kernel
theorem dX11_movePlaces_82 : decode cX11_movePlaces 82 = .ok (.return_, 1) := by decide +kernel
theorem dX11_cellOf_0 : decode cX11_cellOf 0 = .ok (.iload_n 0, 1) := by decide +kernel
theorem dX11_cellOf_1 : decode cX11_cellOf 1 = .ok (.tableswitch 108 0 7 #[47, 51, 56, 62, 67, 108, 71, 93], 47) := by decide +kernel
theorem dX11_cellOf_48 : decode cX11_cellOf 48 = .ok (.lload_n 1, 1) := by decide +kernel
theorem dX11_cellOf_49 : decode cX11_cellOf 49 = .ok (.lconst 1, 1) := by decide +kernel
theorem dX11_cellOf_50 : decode cX11_cellOf 50 = .ok (.land, 1) := by decide +kernel
theorem dX11_cellOf_51 : decode cX11_cellOf 51 = .ok (.lreturn, 1) := by decide +kernel
theorem dX11_cellOf_52 : decode cX11_cellOf 52 = .ok (.lload_n 1, 1) := by decide +kernel
theorem dX11_cellOf_53 : decode cX11_cellOf 53 = .ok (.l2i, 1) := by decide +kernel
theorem dX11_cellOf_54 : decode cX11_cellOf 54 = .ok (.i2b, 1) := by decide +kernel
theorem dX11_cellOf_55 : decode cX11_cellOf 55 = .ok (.i2l, 1) := by decide +kernel
theorem dX11_cellOf_56 : decode cX11_cellOf 56 = .ok (.lreturn, 1) := by decide +kernel
theorem dX11_cellOf_57 : decode cX11_cellOf 57 = .ok (.lload_n 1, 1) := by decide +kernel
theorem dX11_cellOf_58 : decode cX11_cellOf 58 = .ok (.ldc2_w 524, 3) := by decide +kernel
theorem dX11_cellOf_61 : decode cX11_cellOf 61 = .ok (.land, 1) := by decide +kernel
theorem dX11_cellOf_62 : decode cX11_cellOf 62 = .ok (.lreturn, 1) := by decide +kernel
theorem dX11_cellOf_63 : decode cX11_cellOf 63 = .ok (.lload_n 1, 1) := by decide +kernel
theorem dX11_cellOf_64 : decode cX11_cellOf 64 = .ok (.l2i, 1) := by decide +kernel
theorem dX11_cellOf_65 : decode cX11_cellOf 65 = .ok (.i2s, 1) := by decide +kernel
theorem dX11_cellOf_66 : decode cX11_cellOf 66 = .ok (.i2l, 1) := by decide +kernel
theorem dX11_cellOf_67 : decode cX11_cellOf 67 = .ok (.lreturn, 1) := by decide +kernel
theorem dX11_cellOf_68 : decode cX11_cellOf 68 = .ok (.lload_n 1, 1) := by decide +kernel
theorem dX11_cellOf_69 : decode cX11_cellOf 69 = .ok (.l2i, 1) := by decide +kernel
theorem dX11_cellOf_70 : decode cX11_cellOf 70 = .ok (.i2l, 1) := by decide +kernel
theorem dX11_cellOf_71 : decode cX11_cellOf 71 = .ok (.lreturn, 1) := by decide +kernel
theorem dX11_cellOf_72 : decode cX11_cellOf 72 = .ok (.lload_n 1, 1) := by decide +kernel
theorem dX11_cellOf_73 : decode cX11_cellOf 73 = .ok (.ldc2_w 526, 3) := by decide +kernel
theorem dX11_cellOf_76 : decode cX11_cellOf 76 = .ok (.land, 1) := by decide +kernel
theorem dX11_cellOf_77 : decode cX11_cellOf 77 = .ok (.ldc2_w 528, 3) := by decide +kernel
theorem dX11_cellOf_80 : decode cX11_cellOf 80 = .ok (.lcmp, 1) := by decide +kernel
theorem dX11_cellOf_81 : decode cX11_cellOf 81 = .ok (.ifCond .le 9, 3) := by decide +kernel
theorem dX11_cellOf_84 : decode cX11_cellOf 84 = .ok (.ldc2_w 530, 3) := by decide +kernel
theorem dX11_cellOf_87 : decode cX11_cellOf 87 = .ok (.goto 6, 3) := by decide +kernel
theorem dX11_cellOf_90 : decode cX11_cellOf 90 = .ok (.lload_n 1, 1) := by decide +kernel
theorem dX11_cellOf_91 : decode cX11_cellOf 91 = .ok (.l2i, 1) := by decide +kernel
theorem dX11_cellOf_92 : decode cX11_cellOf 92 = .ok (.i2l, 1) := by decide +kernel
theorem dX11_cellOf_93 : decode cX11_cellOf 93 = .ok (.lreturn, 1) := by decide +kernel
theorem dX11_cellOf_94 : decode cX11_cellOf 94 = .ok (.lload_n 1, 1) := by decide +kernel
theorem dX11_cellOf_95 : decode cX11_cellOf 95 = .ok (.invokestatic 349, 3) := by decide +kernel
theorem dX11_cellOf_98 : decode cX11_cellOf 98 = .ok (.ifCond .eq 7, 3) := by decide +kernel
theorem dX11_cellOf_101 : decode cX11_cellOf 101 = .ok (.lload_n 1, 1) := by decide +kernel
theorem dX11_cellOf_102 : decode cX11_cellOf 102 = .ok (.goto 6, 3) := by decide +kernel
theorem dX11_cellOf_105 : decode cX11_cellOf 105 = .ok (.ldc2_w 420, 3) := by decide +kernel
theorem dX11_cellOf_108 : decode cX11_cellOf 108 = .ok (.lreturn, 1) := by decide +kernel
theorem dX11_cellOf_109 : decode cX11_cellOf 109 = .ok (.lload_n 1, 1) := by decide +kernel
theorem dX11_cellOf_110 : decode cX11_cellOf 110 = .ok (.lreturn, 1) := by decide +kernel
theorem dX11_isNumber_0 : decode cX11_isNumber 0 = .ok (.lload_n 0, 1) := by decide +kernel
theorem dX11_isNumber_1 : decode cX11_isNumber 1 = .ok (.ldc2_w 532, 3) := by decide +kernel
theorem dX11_isNumber_4 : decode cX11_isNumber 4 = .ok (.land, 1) := by decide +kernel
theorem dX11_isNumber_5 : decode cX11_isNumber 5 = .ok (.ldc2_w 534, 3) := by decide +kernel
theorem dX11_isNumber_8 : decode cX11_isNumber 8 = .ok (.lcmp, 1) := by decide +kernel
theorem dX11_isNumber_9 : decode cX11_isNumber 9 = .ok (.ifCond .gt 7, 3) := by decide +kernel
theorem dX11_isNumber_12 : decode cX11_isNumber 12 = .ok (.iconst 1, 1) := by decide +kernel
theorem dX11_isNumber_13 : decode cX11_isNumber 13 = .ok (.goto 4, 3) := by decide +kernel
theorem dX11_isNumber_16 : decode cX11_isNumber 16 = .ok (.iconst 0, 1) := by decide +kernel
theorem dX11_isNumber_17 : decode cX11_isNumber 17 = .ok (.ireturn, 1) := by decide +kernel
theorem dX11_doubleBits_0 : decode cX11_doubleBits 0 = .ok (.iload_n 0, 1) := by decide +kernel
theorem dX11_doubleBits_1 : decode cX11_doubleBits 1 = .ok (.bipush 6, 2) := by decide +kernel
theorem dX11_doubleBits_3 : decode cX11_doubleBits 3 = .ok (.if_icmp .ne 10, 3) := by decide +kernel
theorem dX11_doubleBits_6 : decode cX11_doubleBits 6 = .ok (.lload_n 1, 1) := by decide +kernel
theorem dX11_doubleBits_7 : decode cX11_doubleBits 7 = .ok (.invokestatic 536, 3) := by decide +kernel
theorem dX11_doubleBits_10 : decode cX11_doubleBits 10 = .ok (.goto 4, 3) := by decide +kernel
theorem dX11_doubleBits_13 : decode cX11_doubleBits 13 = .ok (.lload_n 1, 1) := by decide +kernel
theorem dX11_doubleBits_14 : decode cX11_doubleBits 14 = .ok (.lreturn, 1) := by decide +kernel
theorem dX11_widened_0 : decode cX11_widened 0 = .ok (.lload_n 0, 1) := by decide +kernel
theorem dX11_widened_1 : decode cX11_widened 1 = .ok (.ldc2_w 540, 3) := by decide +kernel
theorem dX11_widened_4 : decode cX11_widened 4 = .ok (.land, 1) := by decide +kernel
theorem dX11_widened_5 : decode cX11_widened 5 = .ok (.lstore_n 2, 1) := by decide +kernel
theorem dX11_widened_6 : decode cX11_widened 6 = .ok (.lload_n 0, 1) := by decide +kernel
theorem dX11_widened_7 : decode cX11_widened 7 = .ok (.bipush 23, 2) := by decide +kernel
theorem dX11_widened_9 : decode cX11_widened 9 = .ok (.lshr, 1) := by decide +kernel
theorem dX11_widened_10 : decode cX11_widened 10 = .ok (.ldc2_w 542, 3) := by decide +kernel
theorem dX11_widened_13 : decode cX11_widened 13 = .ok (.land, 1) := by decide +kernel
theorem dX11_widened_14 : decode cX11_widened 14 = .ok (.lstore 4, 2) := by decide +kernel
theorem dX11_widened_16 : decode cX11_widened 16 = .ok (.lload_n 0, 1) := by decide +kernel
theorem dX11_widened_17 : decode cX11_widened 17 = .ok (.ldc2_w 544, 3) := by decide +kernel
theorem dX11_widened_20 : decode cX11_widened 20 = .ok (.land, 1) := by decide +kernel
theorem dX11_widened_21 : decode cX11_widened 21 = .ok (.lstore 6, 2) := by decide +kernel
theorem dX11_widened_23 : decode cX11_widened 23 = .ok (.lload 4, 2) := by decide +kernel
theorem dX11_widened_25 : decode cX11_widened 25 = .ok (.ldc2_w 542, 3) := by decide +kernel
theorem dX11_widened_28 : decode cX11_widened 28 = .ok (.lcmp, 1) := by decide +kernel
theorem dX11_widened_29 : decode cX11_widened 29 = .ok (.ifCond .ne 22, 3) := by decide +kernel
theorem dX11_widened_32 : decode cX11_widened 32 = .ok (.lload 6, 2) := by decide +kernel
theorem dX11_widened_34 : decode cX11_widened 34 = .ok (.lconst 0, 1) := by decide +kernel
theorem dX11_widened_35 : decode cX11_widened 35 = .ok (.lcmp, 1) := by decide +kernel
theorem dX11_widened_36 : decode cX11_widened 36 = .ok (.ifCond .ne 11, 3) := by decide +kernel
theorem dX11_widened_39 : decode cX11_widened 39 = .ok (.lload_n 2, 1) := by decide +kernel
theorem dX11_widened_40 : decode cX11_widened 40 = .ok (.ldc2_w 534, 3) := by decide +kernel
theorem dX11_widened_43 : decode cX11_widened 43 = .ok (.lor, 1) := by decide +kernel
theorem dX11_widened_44 : decode cX11_widened 44 = .ok (.goto 6, 3) := by decide +kernel
theorem dX11_widened_47 : decode cX11_widened 47 = .ok (.ldc2_w 420, 3) := by decide +kernel
theorem dX11_widened_50 : decode cX11_widened 50 = .ok (.lreturn, 1) := by decide +kernel
theorem dX11_widened_51 : decode cX11_widened 51 = .ok (.lload 4, 2) := by decide +kernel
theorem dX11_widened_53 : decode cX11_widened 53 = .ok (.lconst 0, 1) := by decide +kernel
theorem dX11_widened_54 : decode cX11_widened 54 = .ok (.lcmp, 1) := by decide +kernel
theorem dX11_widened_55 : decode cX11_widened 55 = .ok (.ifCond .eq 21, 3) := by decide +kernel
theorem dX11_widened_58 : decode cX11_widened 58 = .ok (.lload_n 2, 1) := by decide +kernel
theorem dX11_widened_59 : decode cX11_widened 59 = .ok (.lload 4, 2) := by decide +kernel
theorem dX11_widened_61 : decode cX11_widened 61 = .ok (.ldc2_w 546, 3) := by decide +kernel
theorem dX11_widened_64 : decode cX11_widened 64 = .ok (.ladd, 1) := by decide +kernel
theorem dX11_widened_65 : decode cX11_widened 65 = .ok (.bipush 52, 2) := by decide +kernel
theorem dX11_widened_67 : decode cX11_widened 67 = .ok (.lshl, 1) := by decide +kernel
theorem dX11_widened_68 : decode cX11_widened 68 = .ok (.lor, 1) := by decide +kernel
theorem dX11_widened_69 : decode cX11_widened 69 = .ok (.lload 6, 2) := by decide +kernel
theorem dX11_widened_71 : decode cX11_widened 71 = .ok (.bipush 29, 2) := by decide +kernel
theorem dX11_widened_73 : decode cX11_widened 73 = .ok (.lshl, 1) := by decide +kernel
theorem dX11_widened_74 : decode cX11_widened 74 = .ok (.lor, 1) := by decide +kernel
theorem dX11_widened_75 : decode cX11_widened 75 = .ok (.lreturn, 1) := by decide +kernel
theorem dX11_widened_76 : decode cX11_widened 76 = .ok (.lload 6, 2) := by decide +kernel
theorem dX11_widened_78 : decode cX11_widened 78 = .ok (.lconst 0, 1) := by decide +kernel
theorem dX11_widened_79 : decode cX11_widened 79 = .ok (.lcmp, 1) := by decide +kernel
theorem dX11_widened_80 : decode cX11_widened 80 = .ok (.ifCond .ne 5, 3) := by decide +kernel
theorem dX11_widened_83 : decode cX11_widened 83 = .ok (.lload_n 2, 1) := by decide +kernel
theorem dX11_widened_84 : decode cX11_widened 84 = .ok (.lreturn, 1) := by decide +kernel
theorem dX11_widened_85 : decode cX11_widened 85 = .ok (.bipush 63, 2) := by decide +kernel
theorem dX11_widened_87 : decode cX11_widened 87 = .ok (.lload 6, 2) := by decide +kernel
theorem dX11_widened_89 : decode cX11_widened 89 = .ok (.invokestatic 548, 3) := by decide +kernel
theorem dX11_widened_92 : decode cX11_widened 92 = .ok (.isub, 1) := by decide +kernel
theorem dX11_widened_93 : decode cX11_widened 93 = .ok (.istore 8, 2) := by decide +kernel
theorem dX11_widened_95 : decode cX11_widened 95 = .ok (.lload_n 2, 1) := by decide +kernel
theorem dX11_widened_96 : decode cX11_widened 96 = .ok (.iload 8, 2) := by decide +kernel
theorem dX11_widened_98 : decode cX11_widened 98 = .ok (.i2l, 1) := by decide +kernel
theorem dX11_widened_99 : decode cX11_widened 99 = .ok (.ldc2_w 554, 3) := by decide +kernel
theorem dX11_widened_102 : decode cX11_widened 102 = .ok (.ladd, 1) := by decide +kernel
theorem dX11_widened_103 : decode cX11_widened 103 = .ok (.bipush 52, 2) := by decide +kernel
theorem dX11_widened_105 : decode cX11_widened 105 = .ok (.lshl, 1) := by decide +kernel
theorem dX11_widened_106 : decode cX11_widened 106 = .ok (.lor, 1) := by decide +kernel
theorem dX11_widened_107 : decode cX11_widened 107 = .ok (.lload 6, 2) := by decide +kernel
theorem dX11_widened_109 : decode cX11_widened 109 = .ok (.bipush 52, 2) := by decide +kernel
theorem dX11_widened_111 : decode cX11_widened 111 = .ok (.iload 8, 2) := by decide +kernel
theorem dX11_widened_113 : decode cX11_widened 113 = .ok (.isub, 1) := by decide +kernel
theorem dX11_widened_114 : decode cX11_widened 114 = .ok (.lshl, 1) := by decide +kernel
theorem dX11_widened_115 : decode cX11_widened 115 = .ok (.ldc2_w 556, 3) := by decide +kernel
theorem dX11_widened_118 : decode cX11_widened 118 = .ok (.land, 1) := by decide +kernel
theorem dX11_widened_119 : decode cX11_widened 119 = .ok (.lor, 1) := by decide +kernel
theorem dX11_widened_120 : decode cX11_widened 120 = .ok (.lreturn, 1) := by decide +kernel
theorem dX11_orderKey_0 : decode cX11_orderKey 0 = .ok (.lload_n 0, 1) := by decide +kernel
theorem dX11_orderKey_1 : decode cX11_orderKey 1 = .ok (.lload_n 0, 1) := by decide +kernel
theorem dX11_orderKey_2 : decode cX11_orderKey 2 = .ok (.bipush 63, 2) := by decide +kernel
theorem dX11_orderKey_4 : decode cX11_orderKey 4 = .ok (.lshr, 1) := by decide +kernel
theorem dX11_orderKey_5 : decode cX11_orderKey 5 = .ok (.ldc2_w 532, 3) := by decide +kernel
theorem dX11_orderKey_8 : decode cX11_orderKey 8 = .ok (.land, 1) := by decide +kernel
theorem dX11_orderKey_9 : decode cX11_orderKey 9 = .ok (.lxor, 1) := by decide +kernel
theorem dX11_orderKey_10 : decode cX11_orderKey 10 = .ok (.lreturn, 1) := by decide +kernel
theorem dX11_sortByOrder_0 : decode cX11_sortByOrder 0 = .ok (.iload_n 1, 1) := by decide +kernel
theorem dX11_sortByOrder_1 : decode cX11_sortByOrder 1 = .ok (.aload_n 0, 1) := by decide +kernel
theorem dX11_sortByOrder_2 : decode cX11_sortByOrder 2 = .ok (.arraylength, 1) := by decide +kernel
theorem dX11_sortByOrder_3 : decode cX11_sortByOrder 3 = .ok (.invokestatic 400, 3) := by decide +kernel
theorem dX11_sortByOrder_6 : decode cX11_sortByOrder 6 = .ok (.istore_n 2, 1) := by decide +kernel
theorem dX11_sortByOrder_7 : decode cX11_sortByOrder 7 = .ok (.iconst 1, 1) := by decide +kernel
theorem dX11_sortByOrder_8 : decode cX11_sortByOrder 8 = .ok (.istore_n 3, 1) := by decide +kernel
theorem dX11_sortByOrder_9 : decode cX11_sortByOrder 9 = .ok (.iload_n 3, 1) := by decide +kernel
theorem dX11_sortByOrder_10 : decode cX11_sortByOrder 10 = .ok (.iload_n 2, 1) := by decide +kernel
theorem dX11_sortByOrder_11 : decode cX11_sortByOrder 11 = .ok (.if_icmp .ge 62, 3) := by decide +kernel
theorem dX11_sortByOrder_14 : decode cX11_sortByOrder 14 = .ok (.aload_n 0, 1) := by decide +kernel
theorem dX11_sortByOrder_15 : decode cX11_sortByOrder 15 = .ok (.iload_n 3, 1) := by decide +kernel
theorem dX11_sortByOrder_16 : decode cX11_sortByOrder 16 = .ok (.laload, 1) := by decide +kernel
theorem dX11_sortByOrder_17 : decode cX11_sortByOrder 17 = .ok (.lstore 4, 2) := by decide +kernel
theorem dX11_sortByOrder_19 : decode cX11_sortByOrder 19 = .ok (.iload_n 3, 1) := by decide +kernel
theorem dX11_sortByOrder_20 : decode cX11_sortByOrder 20 = .ok (.istore 6, 2) := by decide +kernel
theorem dX11_sortByOrder_22 : decode cX11_sortByOrder 22 = .ok (.iload 6, 2) := by decide +kernel
theorem dX11_sortByOrder_24 : decode cX11_sortByOrder 24 = .ok (.ifCond .le 37, 3) := by decide +kernel
theorem dX11_sortByOrder_27 : decode cX11_sortByOrder 27 = .ok (.aload_n 0, 1) := by decide +kernel
theorem dX11_sortByOrder_28 : decode cX11_sortByOrder 28 = .ok (.iload 6, 2) := by decide +kernel
theorem dX11_sortByOrder_30 : decode cX11_sortByOrder 30 = .ok (.iconst 1, 1) := by decide +kernel
theorem dX11_sortByOrder_31 : decode cX11_sortByOrder 31 = .ok (.isub, 1) := by decide +kernel
theorem dX11_sortByOrder_32 : decode cX11_sortByOrder 32 = .ok (.laload, 1) := by decide +kernel
theorem dX11_sortByOrder_33 : decode cX11_sortByOrder 33 = .ok (.invokestatic 558, 3) := by decide +kernel
theorem dX11_sortByOrder_36 : decode cX11_sortByOrder 36 = .ok (.lload 4, 2) := by decide +kernel
theorem dX11_sortByOrder_38 : decode cX11_sortByOrder 38 = .ok (.invokestatic 558, 3) := by decide +kernel
theorem dX11_sortByOrder_41 : decode cX11_sortByOrder 41 = .ok (.lcmp, 1) := by decide +kernel
theorem dX11_sortByOrder_42 : decode cX11_sortByOrder 42 = .ok (.ifCond .le 19, 3) := by decide +kernel
theorem dX11_sortByOrder_45 : decode cX11_sortByOrder 45 = .ok (.aload_n 0, 1) := by decide +kernel
theorem dX11_sortByOrder_46 : decode cX11_sortByOrder 46 = .ok (.iload 6, 2) := by decide +kernel
theorem dX11_sortByOrder_48 : decode cX11_sortByOrder 48 = .ok (.aload_n 0, 1) := by decide +kernel
theorem dX11_sortByOrder_49 : decode cX11_sortByOrder 49 = .ok (.iload 6, 2) := by decide +kernel
theorem dX11_sortByOrder_51 : decode cX11_sortByOrder 51 = .ok (.iconst 1, 1) := by decide +kernel
theorem dX11_sortByOrder_52 : decode cX11_sortByOrder 52 = .ok (.isub, 1) := by decide +kernel
theorem dX11_sortByOrder_53 : decode cX11_sortByOrder 53 = .ok (.laload, 1) := by decide +kernel
theorem dX11_sortByOrder_54 : decode cX11_sortByOrder 54 = .ok (.lastore, 1) := by decide +kernel
theorem dX11_sortByOrder_55 : decode cX11_sortByOrder 55 = .ok (.iinc 6 (-1), 3) := by decide +kernel
theorem dX11_sortByOrder_58 : decode cX11_sortByOrder 58 = .ok (.goto (-36), 3) := by decide +kernel
theorem dX11_sortByOrder_61 : decode cX11_sortByOrder 61 = .ok (.aload_n 0, 1) := by decide +kernel
theorem dX11_sortByOrder_62 : decode cX11_sortByOrder 62 = .ok (.iload 6, 2) := by decide +kernel
theorem dX11_sortByOrder_64 : decode cX11_sortByOrder 64 = .ok (.lload 4, 2) := by decide +kernel
theorem dX11_sortByOrder_66 : decode cX11_sortByOrder 66 = .ok (.lastore, 1) := by decide +kernel
theorem dX11_sortByOrder_67 : decode cX11_sortByOrder 67 = .ok (.iinc 3 1, 3) := by decide +kernel
theorem dX11_sortByOrder_70 : decode cX11_sortByOrder 70 = .ok (.goto (-61), 3) := by decide +kernel
theorem dX11_sortByOrder_73 : decode cX11_sortByOrder 73 = .ok (.return_, 1) := by decide +kernel
theorem dX11_flagsOf_0 : decode cX11_flagsOf 0 = .ok (.lload_n 0, 1) := by decide +kernel
theorem dX11_flagsOf_1 : decode cX11_flagsOf 1 = .ok (.invokestatic 349, 3) := by decide +kernel
theorem dX11_flagsOf_4 : decode cX11_flagsOf 4 = .ok (.ifCond .eq 10, 3) := by decide +kernel
theorem dX11_flagsOf_7 : decode cX11_flagsOf 7 = .ok (.lload_n 2, 1) := by decide +kernel
theorem dX11_flagsOf_8 : decode cX11_flagsOf 8 = .ok (.invokestatic 349, 3) := by decide +kernel
theorem dX11_flagsOf_11 : decode cX11_flagsOf 11 = .ok (.ifCond .ne 6, 3) := by decide +kernel
theorem dX11_flagsOf_14 : decode cX11_flagsOf 14 = .ok (.bipush 32, 2) := by decide +kernel
theorem dX11_flagsOf_16 : decode cX11_flagsOf 16 = .ok (.ireturn, 1) := by decide +kernel
theorem dX11_flagsOf_17 : decode cX11_flagsOf 17 = .ok (.lload_n 0, 1) := by decide +kernel
theorem dX11_flagsOf_18 : decode cX11_flagsOf 18 = .ok (.ldc2_w 540, 3) := by decide +kernel
theorem dX11_flagsOf_21 : decode cX11_flagsOf 21 = .ok (.lcmp, 1) := by decide +kernel
theorem dX11_flagsOf_22 : decode cX11_flagsOf 22 = .ok (.ifCond .ne 7, 3) := by decide +kernel
theorem dX11_flagsOf_25 : decode cX11_flagsOf 25 = .ok (.lconst 0, 1) := by decide +kernel
theorem dX11_flagsOf_26 : decode cX11_flagsOf 26 = .ok (.goto 7, 3) := by decide +kernel
theorem dX11_flagsOf_29 : decode cX11_flagsOf 29 = .ok (.lload_n 0, 1) := by decide +kernel
theorem dX11_flagsOf_30 : decode cX11_flagsOf 30 = .ok (.invokestatic 558, 3) := by decide +kernel
theorem dX11_flagsOf_33 : decode cX11_flagsOf 33 = .ok (.lstore 4, 2) := by decide +kernel
theorem dX11_flagsOf_35 : decode cX11_flagsOf 35 = .ok (.lload_n 2, 1) := by decide +kernel
theorem dX11_flagsOf_36 : decode cX11_flagsOf 36 = .ok (.ldc2_w 540, 3) := by decide +kernel
theorem dX11_flagsOf_39 : decode cX11_flagsOf 39 = .ok (.lcmp, 1) := by decide +kernel
theorem dX11_flagsOf_40 : decode cX11_flagsOf 40 = .ok (.ifCond .ne 7, 3) := by decide +kernel
theorem dX11_flagsOf_43 : decode cX11_flagsOf 43 = .ok (.lconst 0, 1) := by decide +kernel
theorem dX11_flagsOf_44 : decode cX11_flagsOf 44 = .ok (.goto 7, 3) := by decide +kernel
theorem dX11_flagsOf_47 : decode cX11_flagsOf 47 = .ok (.lload_n 2, 1) := by decide +kernel
theorem dX11_flagsOf_48 : decode cX11_flagsOf 48 = .ok (.invokestatic 558, 3) := by decide +kernel
theorem dX11_flagsOf_51 : decode cX11_flagsOf 51 = .ok (.lstore 6, 2) := by decide +kernel
theorem dX11_flagsOf_53 : decode cX11_flagsOf 53 = .ok (.lload 4, 2) := by decide +kernel
theorem dX11_flagsOf_55 : decode cX11_flagsOf 55 = .ok (.lload 6, 2) := by decide +kernel
theorem dX11_flagsOf_57 : decode cX11_flagsOf 57 = .ok (.lcmp, 1) := by decide +kernel
theorem dX11_flagsOf_58 : decode cX11_flagsOf 58 = .ok (.ifCond .ne 6, 3) := by decide +kernel
theorem dX11_flagsOf_61 : decode cX11_flagsOf 61 = .ok (.bipush 26, 2) := by decide +kernel
theorem dX11_flagsOf_63 : decode cX11_flagsOf 63 = .ok (.ireturn, 1) := by decide +kernel
theorem dX11_flagsOf_64 : decode cX11_flagsOf 64 = .ok (.lload 4, 2) := by decide +kernel
theorem dX11_flagsOf_66 : decode cX11_flagsOf 66 = .ok (.lload 6, 2) := by decide +kernel
theorem dX11_flagsOf_68 : decode cX11_flagsOf 68 = .ok (.lcmp, 1) := by decide +kernel
theorem dX11_flagsOf_69 : decode cX11_flagsOf 69 = .ok (.ifCond .ge 8, 3) := by decide +kernel
theorem dX11_flagsOf_72 : decode cX11_flagsOf 72 = .ok (.bipush 35, 2) := by decide +kernel
theorem dX11_flagsOf_74 : decode cX11_flagsOf 74 = .ok (.goto 5, 3) := by decide +kernel
theorem dX11_flagsOf_77 : decode cX11_flagsOf 77 = .ok (.bipush 44, 2) := by decide +kernel
theorem dX11_flagsOf_79 : decode cX11_flagsOf 79 = .ok (.ireturn, 1) := by decide +kernel
theorem dX11_gatherNumbers_0 : decode cX11_gatherNumbers 0 = .ok (.iconst 0, 1) := by decide +kernel
theorem dX11_gatherNumbers_1 : decode cX11_gatherNumbers 1 = .ok (.istore_n 3, 1) := by decide +kernel
theorem dX11_gatherNumbers_2 : decode cX11_gatherNumbers 2 = .ok (.iconst 0, 1) := by decide +kernel
theorem dX11_gatherNumbers_3 : decode cX11_gatherNumbers 3 = .ok (.istore 4, 2) := by decide +kernel
theorem dX11_gatherNumbers_5 : decode cX11_gatherNumbers 5 = .ok (.iload 4, 2) := by decide +kernel
theorem dX11_gatherNumbers_7 : decode cX11_gatherNumbers 7 = .ok (.aload_n 1, 1) := by decide +kernel
theorem dX11_gatherNumbers_8 : decode cX11_gatherNumbers 8 = .ok (.getfield 134, 3) := by decide +kernel
theorem dX11_gatherNumbers_11 : decode cX11_gatherNumbers 11 = .ok (.arraylength, 1) := by decide +kernel
theorem dX11_gatherNumbers_12 : decode cX11_gatherNumbers 12 = .ok (.if_icmp .ge 50, 3) := by decide +kernel
theorem dX11_gatherNumbers_15 : decode cX11_gatherNumbers 15 = .ok (.iload_n 3, 1) := by decide +kernel
theorem dX11_gatherNumbers_16 : decode cX11_gatherNumbers 16 = .ok (.aload_n 0, 1) := by decide +kernel
theorem dX11_gatherNumbers_17 : decode cX11_gatherNumbers 17 = .ok (.getfield 69, 3) := by decide +kernel
theorem dX11_gatherNumbers_20 : decode cX11_gatherNumbers 20 = .ok (.arraylength, 1) := by decide +kernel
theorem dX11_gatherNumbers_21 : decode cX11_gatherNumbers 21 = .ok (.if_icmp .ge 41, 3) := by decide +kernel
theorem dX11_gatherNumbers_24 : decode cX11_gatherNumbers 24 = .ok (.iload_n 2, 1) := by decide +kernel
theorem dX11_gatherNumbers_25 : decode cX11_gatherNumbers 25 = .ok (.aload_n 1, 1) := by decide +kernel
theorem dX11_gatherNumbers_26 : decode cX11_gatherNumbers 26 = .ok (.getfield 134, 3) := by decide +kernel
theorem dX11_gatherNumbers_29 : decode cX11_gatherNumbers 29 = .ok (.iload 4, 2) := by decide +kernel
theorem dX11_gatherNumbers_31 : decode cX11_gatherNumbers 31 = .ok (.laload, 1) := by decide +kernel
theorem dX11_gatherNumbers_32 : decode cX11_gatherNumbers 32 = .ok (.invokestatic 410, 3) := by decide +kernel
theorem dX11_gatherNumbers_35 : decode cX11_gatherNumbers 35 = .ok (.lstore 5, 2) := by decide +kernel
theorem dX11_gatherNumbers_37 : decode cX11_gatherNumbers 37 = .ok (.lload 5, 2) := by decide +kernel
theorem dX11_gatherNumbers_39 : decode cX11_gatherNumbers 39 = .ok (.invokestatic 349, 3) := by decide +kernel
theorem dX11_gatherNumbers_42 : decode cX11_gatherNumbers 42 = .ok (.ifCond .eq 14, 3) := by decide +kernel
theorem dX11_gatherNumbers_45 : decode cX11_gatherNumbers 45 = .ok (.aload_n 0, 1) := by decide +kernel
theorem dX11_gatherNumbers_46 : decode cX11_gatherNumbers 46 = .ok (.getfield 69, 3) := by decide +kernel
theorem dX11_gatherNumbers_49 : decode cX11_gatherNumbers 49 = .ok (.iload_n 3, 1) := by decide +kernel
theorem dX11_gatherNumbers_50 : decode cX11_gatherNumbers 50 = .ok (.lload 5, 2) := by decide +kernel
theorem dX11_gatherNumbers_52 : decode cX11_gatherNumbers 52 = .ok (.lastore, 1) := by decide +kernel
theorem dX11_gatherNumbers_53 : decode cX11_gatherNumbers 53 = .ok (.iinc 3 1, 3) := by decide +kernel
theorem dX11_gatherNumbers_56 : decode cX11_gatherNumbers 56 = .ok (.iinc 4 1, 3) := by decide +kernel
theorem dX11_gatherNumbers_59 : decode cX11_gatherNumbers 59 = .ok (.goto (-54), 3) := by decide +kernel
theorem dX11_gatherNumbers_62 : decode cX11_gatherNumbers 62 = .ok (.iload_n 3, 1) := by decide +kernel
theorem dX11_gatherNumbers_63 : decode cX11_gatherNumbers 63 = .ok (.ireturn, 1) := by decide +kernel
theorem dX11_meanBits_0 : decode cX11_meanBits 0 = .ok (.dconst 0, 1) := by decide +kernel
theorem dX11_meanBits_1 : decode cX11_meanBits 1 = .ok (.dstore_n 2, 1) := by decide +kernel
theorem dX11_meanBits_2 : decode cX11_meanBits 2 = .ok (.iconst 0, 1) := by decide +kernel
theorem dX11_meanBits_3 : decode cX11_meanBits 3 = .ok (.istore 4, 2) := by decide +kernel
theorem dX11_meanBits_5 : decode cX11_meanBits 5 = .ok (.iload 4, 2) := by decide +kernel
theorem dX11_meanBits_7 : decode cX11_meanBits 7 = .ok (.iload_n 1, 1) := by decide +kernel
theorem dX11_meanBits_8 : decode cX11_meanBits 8 = .ok (.if_icmp .ge 81, 3) := by decide +kernel
theorem dX11_meanBits_11 : decode cX11_meanBits 11 = .ok (.iload 4, 2) := by decide +kernel
theorem dX11_meanBits_13 : decode cX11_meanBits 13 = .ok (.aload_n 0, 1) := by decide +kernel
theorem dX11_meanBits_14 : decode cX11_meanBits 14 = .ok (.getfield 69, 3) := by decide +kernel
theorem dX11_meanBits_17 : decode cX11_meanBits 17 = .ok (.arraylength, 1) := by decide +kernel
theorem dX11_meanBits_18 : decode cX11_meanBits 18 = .ok (.if_icmp .ge 71, 3) := by decide +kernel
theorem dX11_meanBits_21 : decode cX11_meanBits 21 = .ok (.aload_n 0, 1) := by decide +kernel
theorem dX11_meanBits_22 : decode cX11_meanBits 22 = .ok (.getfield 69, 3) := by decide +kernel
theorem dX11_meanBits_25 : decode cX11_meanBits 25 = .ok (.iload 4, 2) := by decide +kernel
theorem dX11_meanBits_27 : decode cX11_meanBits 27 = .ok (.laload, 1) := by decide +kernel
theorem dX11_meanBits_28 : decode cX11_meanBits 28 = .ok (.invokestatic 353, 3) := by decide +kernel
theorem dX11_meanBits_31 : decode cX11_meanBits 31 = .ok (.dstore 5, 2) := by decide +kernel
theorem dX11_meanBits_33 : decode cX11_meanBits 33 = .ok (.dload_n 2, 1) := by decide +kernel
theorem dX11_meanBits_34 : decode cX11_meanBits 34 = .ok (.invokestatic 561, 3) := by decide +kernel
theorem dX11_meanBits_37 : decode cX11_meanBits 37 = .ok (.ifCond .eq 41, 3) := by decide +kernel
theorem dX11_meanBits_40 : decode cX11_meanBits 40 = .ok (.dload 5, 2) := by decide +kernel
theorem dX11_meanBits_42 : decode cX11_meanBits 42 = .ok (.invokestatic 561, 3) := by decide +kernel
theorem dX11_meanBits_45 : decode cX11_meanBits 45 = .ok (.ifCond .eq 33, 3) := by decide +kernel
theorem dX11_meanBits_48 : decode cX11_meanBits 48 = .ok (.dload_n 2, 1) := by decide +kernel
theorem dX11_meanBits_49 : decode cX11_meanBits 49 = .ok (.dconst 0, 1) := by decide +kernel
theorem dX11_meanBits_50 : decode cX11_meanBits 50 = .ok (.dcmp .g, 1) := by decide +kernel
theorem dX11_meanBits_51 : decode cX11_meanBits 51 = .ok (.ifCond .ge 7, 3) := by decide +kernel
theorem dX11_meanBits_54 : decode cX11_meanBits 54 = .ok (.iconst 1, 1) := by decide +kernel
theorem dX11_meanBits_55 : decode cX11_meanBits 55 = .ok (.goto 4, 3) := by decide +kernel
theorem dX11_meanBits_58 : decode cX11_meanBits 58 = .ok (.iconst 0, 1) := by decide +kernel
theorem dX11_meanBits_59 : decode cX11_meanBits 59 = .ok (.dload 5, 2) := by decide +kernel
theorem dX11_meanBits_61 : decode cX11_meanBits 61 = .ok (.dconst 0, 1) := by decide +kernel
theorem dX11_meanBits_62 : decode cX11_meanBits 62 = .ok (.dcmp .g, 1) := by decide +kernel
theorem dX11_meanBits_63 : decode cX11_meanBits 63 = .ok (.ifCond .ge 7, 3) := by decide +kernel
theorem dX11_meanBits_66 : decode cX11_meanBits 66 = .ok (.iconst 1, 1) := by decide +kernel
theorem dX11_meanBits_67 : decode cX11_meanBits 67 = .ok (.goto 4, 3) := by decide +kernel
theorem dX11_meanBits_70 : decode cX11_meanBits 70 = .ok (.iconst 0, 1) := by decide +kernel
theorem dX11_meanBits_71 : decode cX11_meanBits 71 = .ok (.if_icmp .eq 7, 3) := by decide +kernel
theorem dX11_meanBits_74 : decode cX11_meanBits 74 = .ok (.ldc2_w 420, 3) := by decide +kernel
theorem dX11_meanBits_77 : decode cX11_meanBits 77 = .ok (.lreturn, 1) := by decide +kernel
theorem dX11_meanBits_78 : decode cX11_meanBits 78 = .ok (.dload_n 2, 1) := by decide +kernel
theorem dX11_meanBits_79 : decode cX11_meanBits 79 = .ok (.dload 5, 2) := by decide +kernel
theorem dX11_meanBits_81 : decode cX11_meanBits 81 = .ok (.dadd, 1) := by decide +kernel
theorem dX11_meanBits_82 : decode cX11_meanBits 82 = .ok (.dstore_n 2, 1) := by decide +kernel
theorem dX11_meanBits_83 : decode cX11_meanBits 83 = .ok (.iinc 4 1, 3) := by decide +kernel
theorem dX11_meanBits_86 : decode cX11_meanBits 86 = .ok (.goto (-81), 3) := by decide +kernel
theorem dX11_meanBits_89 : decode cX11_meanBits 89 = .ok (.iload_n 1, 1) := by decide +kernel
theorem dX11_meanBits_90 : decode cX11_meanBits 90 = .ok (.iconst 1, 1) := by decide +kernel
theorem dX11_meanBits_91 : decode cX11_meanBits 91 = .ok (.if_icmp .ge 7, 3) := by decide +kernel
theorem dX11_meanBits_94 : decode cX11_meanBits 94 = .ok (.ldc2_w 420, 3) := by decide +kernel
theorem dX11_meanBits_97 : decode cX11_meanBits 97 = .ok (.lreturn, 1) := by decide +kernel
theorem dX11_meanBits_98 : decode cX11_meanBits 98 = .ok (.dload_n 2, 1) := by decide +kernel
theorem dX11_meanBits_99 : decode cX11_meanBits 99 = .ok (.dconst 0, 1) := by decide +kernel
theorem dX11_meanBits_100 : decode cX11_meanBits 100 = .ok (.dcmp .g, 1) := by decide +kernel
theorem dX11_meanBits_101 : decode cX11_meanBits 101 = .ok (.ifCond .ge 18, 3) := by decide +kernel
theorem dX11_meanBits_104 : decode cX11_meanBits 104 = .ok (.ldc2_w 540, 3) := by decide +kernel
theorem dX11_meanBits_107 : decode cX11_meanBits 107 = .ok (.dload_n 2, 1) := by decide +kernel
theorem dX11_meanBits_108 : decode cX11_meanBits 108 = .ok (.dneg, 1) := by decide +kernel
theorem dX11_meanBits_109 : decode cX11_meanBits 109 = .ok (.iload_n 1, 1) := by decide +kernel
theorem dX11_meanBits_110 : decode cX11_meanBits 110 = .ok (.i2d, 1) := by decide +kernel
theorem dX11_meanBits_111 : decode cX11_meanBits 111 = .ok (.ddiv, 1) := by decide +kernel
theorem dX11_meanBits_112 : decode cX11_meanBits 112 = .ok (.invokestatic 565, 3) := by decide +kernel
theorem dX11_meanBits_115 : decode cX11_meanBits 115 = .ok (.lor, 1) := by decide +kernel
theorem dX11_meanBits_116 : decode cX11_meanBits 116 = .ok (.goto 10, 3) := by decide +kernel
theorem dX11_meanBits_119 : decode cX11_meanBits 119 = .ok (.dload_n 2, 1) := by decide +kernel
theorem dX11_meanBits_120 : decode cX11_meanBits 120 = .ok (.iload_n 1, 1) := by decide +kernel
theorem dX11_meanBits_121 : decode cX11_meanBits 121 = .ok (.i2d, 1) := by decide +kernel
theorem dX11_meanBits_122 : decode cX11_meanBits 122 = .ok (.ddiv, 1) := by decide +kernel
theorem dX11_meanBits_123 : decode cX11_meanBits 123 = .ok (.invokestatic 565, 3) := by decide +kernel
theorem dX11_meanBits_126 : decode cX11_meanBits 126 = .ok (.lreturn, 1) := by decide +kernel
theorem dX11_isEndless_0 : decode cX11_isEndless 0 = .ok (.dload_n 0, 1) := by decide +kernel
theorem dX11_isEndless_1 : decode cX11_isEndless 1 = .ok (.dconst 0, 1) := by decide +kernel
theorem dX11_isEndless_2 : decode cX11_isEndless 2 = .ok (.dcmp .l, 1) := by decide +kernel
theorem dX11_isEndless_3 : decode cX11_isEndless 3 = .ok (.ifCond .eq 17, 3) := by decide +kernel
theorem dX11_isEndless_6 : decode cX11_isEndless 6 = .ok (.dload_n 0, 1) := by decide +kernel
theorem dX11_isEndless_7 : decode cX11_isEndless 7 = .ok (.ldc2_w 569, 3) := by decide +kernel
theorem dX11_isEndless_10 : decode cX11_isEndless 10 = .ok (.dmul, 1) := by decide +kernel
theorem dX11_isEndless_11 : decode cX11_isEndless 11 = .ok (.dload_n 0, 1) := by decide +kernel
theorem dX11_isEndless_12 : decode cX11_isEndless 12 = .ok (.dcmp .l, 1) := by decide +kernel
theorem dX11_isEndless_13 : decode cX11_isEndless 13 = .ok (.ifCond .ne 7, 3) := by decide +kernel
theorem dX11_isEndless_16 : decode cX11_isEndless 16 = .ok (.iconst 1, 1) := by decide +kernel
theorem dX11_isEndless_17 : decode cX11_isEndless 17 = .ok (.goto 4, 3) := by decide +kernel
theorem dX11_isEndless_20 : decode cX11_isEndless 20 = .ok (.iconst 0, 1) := by decide +kernel
theorem dX11_isEndless_21 : decode cX11_isEndless 21 = .ok (.ireturn, 1) := by decide +kernel
theorem dX11_scaled_0 : decode cX11_scaled 0 = .ok (.dload_n 0, 1) := by decide +kernel
theorem dX11_scaled_1 : decode cX11_scaled 1 = .ok (.dstore_n 3, 1) := by decide +kernel
theorem dX11_scaled_2 : decode cX11_scaled 2 = .ok (.iload_n 2, 1) := by decide +kernel
theorem dX11_scaled_3 : decode cX11_scaled 3 = .ok (.ifCond .ge 9, 3) := by decide +kernel
theorem dX11_scaled_6 : decode cX11_scaled 6 = .ok (.ldc2_w 569, 3) := by decide +kernel
theorem dX11_scaled_9 : decode cX11_scaled 9 = .ok (.goto 6, 3) := by decide +kernel
theorem dX11_scaled_12 : decode cX11_scaled 12 = .ok (.ldc2_w 571, 3) := by decide +kernel
theorem dX11_scaled_15 : decode cX11_scaled 15 = .ok (.dstore 5, 2) := by decide +kernel
theorem dX11_scaled_17 : decode cX11_scaled 17 = .ok (.iload_n 2, 1) := by decide +kernel
theorem dX11_scaled_18 : decode cX11_scaled 18 = .ok (.ifCond .ge 8, 3) := by decide +kernel
theorem dX11_scaled_21 : decode cX11_scaled 21 = .ok (.iload_n 2, 1) := by decide +kernel
theorem dX11_scaled_22 : decode cX11_scaled 22 = .ok (.ineg, 1) := by decide +kernel
theorem dX11_scaled_23 : decode cX11_scaled 23 = .ok (.goto 4, 3) := by decide +kernel
theorem dX11_scaled_26 : decode cX11_scaled 26 = .ok (.iload_n 2, 1) := by decide +kernel
theorem dX11_scaled_27 : decode cX11_scaled 27 = .ok (.istore 7, 2) := by decide +kernel
theorem dX11_scaled_29 : decode cX11_scaled 29 = .ok (.iconst 0, 1) := by decide +kernel
theorem dX11_scaled_30 : decode cX11_scaled 30 = .ok (.istore 8, 2) := by decide +kernel
theorem dX11_scaled_32 : decode cX11_scaled 32 = .ok (.iload 8, 2) := by decide +kernel
theorem dX11_scaled_34 : decode cX11_scaled 34 = .ok (.bipush 11, 2) := by decide +kernel
theorem dX11_scaled_36 : decode cX11_scaled 36 = .ok (.if_icmp .ge 40, 3) := by decide +kernel
theorem dX11_scaled_39 : decode cX11_scaled 39 = .ok (.iload 7, 2) := by decide +kernel
theorem dX11_scaled_41 : decode cX11_scaled 41 = .ok (.ifCond .le 35, 3) := by decide +kernel
theorem dX11_scaled_44 : decode cX11_scaled 44 = .ok (.iload 7, 2) := by decide +kernel
theorem dX11_scaled_46 : decode cX11_scaled 46 = .ok (.iconst 1, 1) := by decide +kernel
theorem dX11_scaled_47 : decode cX11_scaled 47 = .ok (.iand, 1) := by decide +kernel
theorem dX11_scaled_48 : decode cX11_scaled 48 = .ok (.iconst 1, 1) := by decide +kernel
theorem dX11_scaled_49 : decode cX11_scaled 49 = .ok (.if_icmp .ne 8, 3) := by decide +kernel
theorem dX11_scaled_52 : decode cX11_scaled 52 = .ok (.dload_n 3, 1) := by decide +kernel
theorem dX11_scaled_53 : decode cX11_scaled 53 = .ok (.dload 5, 2) := by decide +kernel
theorem dX11_scaled_55 : decode cX11_scaled 55 = .ok (.dmul, 1) := by decide +kernel
theorem dX11_scaled_56 : decode cX11_scaled 56 = .ok (.dstore_n 3, 1) := by decide +kernel
theorem dX11_scaled_57 : decode cX11_scaled 57 = .ok (.iload 7, 2) := by decide +kernel
theorem dX11_scaled_59 : decode cX11_scaled 59 = .ok (.iconst 1, 1) := by decide +kernel
theorem dX11_scaled_60 : decode cX11_scaled 60 = .ok (.ishr, 1) := by decide +kernel
theorem dX11_scaled_61 : decode cX11_scaled 61 = .ok (.istore 7, 2) := by decide +kernel
theorem dX11_scaled_63 : decode cX11_scaled 63 = .ok (.dload 5, 2) := by decide +kernel
theorem dX11_scaled_65 : decode cX11_scaled 65 = .ok (.dload 5, 2) := by decide +kernel
theorem dX11_scaled_67 : decode cX11_scaled 67 = .ok (.dmul, 1) := by decide +kernel
theorem dX11_scaled_68 : decode cX11_scaled 68 = .ok (.dstore 5, 2) := by decide +kernel
theorem dX11_scaled_70 : decode cX11_scaled 70 = .ok (.iinc 8 1, 3) := by decide +kernel
theorem dX11_scaled_73 : decode cX11_scaled 73 = .ok (.goto (-41), 3) := by decide +kernel
theorem dX11_scaled_76 : decode cX11_scaled 76 = .ok (.dload_n 3, 1) := by decide +kernel
theorem dX11_scaled_77 : decode cX11_scaled 77 = .ok (.dreturn, 1) := by decide +kernel
theorem dX11_realOf_0 : decode cX11_realOf 0 = .ok (.lload_n 0, 1) := by decide +kernel
theorem dX11_realOf_1 : decode cX11_realOf 1 = .ok (.bipush 52, 2) := by decide +kernel
theorem dX11_realOf_3 : decode cX11_realOf 3 = .ok (.lshr, 1) := by decide +kernel
theorem dX11_realOf_4 : decode cX11_realOf 4 = .ok (.ldc2_w 573, 3) := by decide +kernel
theorem dX11_realOf_7 : decode cX11_realOf 7 = .ok (.land, 1) := by decide +kernel
theorem dX11_realOf_8 : decode cX11_realOf 8 = .ok (.l2i, 1) := by decide +kernel
theorem dX11_realOf_9 : decode cX11_realOf 9 = .ok (.istore_n 2, 1) := by decide +kernel
theorem dX11_realOf_10 : decode cX11_realOf 10 = .ok (.lload_n 0, 1) := by decide +kernel
theorem dX11_realOf_11 : decode cX11_realOf 11 = .ok (.ldc2_w 556, 3) := by decide +kernel
theorem dX11_realOf_14 : decode cX11_realOf 14 = .ok (.land, 1) := by decide +kernel
theorem dX11_realOf_15 : decode cX11_realOf 15 = .ok (.lstore_n 3, 1) := by decide +kernel
theorem dX11_realOf_16 : decode cX11_realOf 16 = .ok (.iload_n 2, 1) := by decide +kernel
theorem dX11_realOf_17 : decode cX11_realOf 17 = .ok (.sipush 2047, 3) := by decide +kernel
theorem dX11_realOf_20 : decode cX11_realOf 20 = .ok (.if_icmp .ne 15, 3) := by decide +kernel
theorem dX11_realOf_23 : decode cX11_realOf 23 = .ok (.dconst 1, 1) := by decide +kernel
theorem dX11_realOf_24 : decode cX11_realOf 24 = .ok (.sipush 1024, 3) := by decide +kernel
theorem dX11_realOf_27 : decode cX11_realOf 27 = .ok (.invokestatic 575, 3) := by decide +kernel
theorem dX11_realOf_30 : decode cX11_realOf 30 = .ok (.dstore 5, 2) := by decide +kernel
theorem dX11_realOf_32 : decode cX11_realOf 32 = .ok (.goto 36, 3) := by decide +kernel
theorem dX11_realOf_35 : decode cX11_realOf 35 = .ok (.iload_n 2, 1) := by decide +kernel
theorem dX11_realOf_36 : decode cX11_realOf 36 = .ok (.ifCond .ne 16, 3) := by decide +kernel
theorem dX11_realOf_39 : decode cX11_realOf 39 = .ok (.lload_n 3, 1) := by decide +kernel
theorem dX11_realOf_40 : decode cX11_realOf 40 = .ok (.l2d, 1) := by decide +kernel
theorem dX11_realOf_41 : decode cX11_realOf 41 = .ok (.sipush (-1074), 3) := by decide +kernel
theorem dX11_realOf_44 : decode cX11_realOf 44 = .ok (.invokestatic 575, 3) := by decide +kernel
theorem dX11_realOf_47 : decode cX11_realOf 47 = .ok (.dstore 5, 2) := by decide +kernel
theorem dX11_realOf_49 : decode cX11_realOf 49 = .ok (.goto 19, 3) := by decide +kernel
theorem dX11_realOf_52 : decode cX11_realOf 52 = .ok (.lload_n 3, 1) := by decide +kernel
theorem dX11_realOf_53 : decode cX11_realOf 53 = .ok (.ldc2_w 579, 3) := by decide +kernel
theorem dX11_realOf_56 : decode cX11_realOf 56 = .ok (.lor, 1) := by decide +kernel
theorem dX11_realOf_57 : decode cX11_realOf 57 = .ok (.l2d, 1) := by decide +kernel
theorem dX11_realOf_58 : decode cX11_realOf 58 = .ok (.iload_n 2, 1) := by decide +kernel
theorem dX11_realOf_59 : decode cX11_realOf 59 = .ok (.sipush 1075, 3) := by decide +kernel
theorem dX11_realOf_62 : decode cX11_realOf 62 = .ok (.isub, 1) := by decide +kernel
theorem dX11_realOf_63 : decode cX11_realOf 63 = .ok (.invokestatic 575, 3) := by decide +kernel
theorem dX11_realOf_66 : decode cX11_realOf 66 = .ok (.dstore 5, 2) := by decide +kernel
theorem dX11_realOf_68 : decode cX11_realOf 68 = .ok (.lload_n 0, 1) := by decide +kernel
theorem dX11_realOf_69 : decode cX11_realOf 69 = .ok (.lconst 0, 1) := by decide +kernel
theorem dX11_realOf_70 : decode cX11_realOf 70 = .ok (.lcmp, 1) := by decide +kernel
theorem dX11_realOf_71 : decode cX11_realOf 71 = .ok (.ifCond .ge 9, 3) := by decide +kernel
theorem dX11_realOf_74 : decode cX11_realOf 74 = .ok (.dload 5, 2) := by decide +kernel
theorem dX11_realOf_76 : decode cX11_realOf 76 = .ok (.dneg, 1) := by decide +kernel
theorem dX11_realOf_77 : decode cX11_realOf 77 = .ok (.goto 5, 3) := by decide +kernel
theorem dX11_realOf_80 : decode cX11_realOf 80 = .ok (.dload 5, 2) := by decide +kernel
theorem dX11_realOf_82 : decode cX11_realOf 82 = .ok (.dreturn, 1) := by decide +kernel
theorem dX11_bitsOf_0 : decode cX11_bitsOf 0 = .ok (.dload_n 0, 1) := by decide +kernel
theorem dX11_bitsOf_1 : decode cX11_bitsOf 1 = .ok (.dconst 0, 1) := by decide +kernel
theorem dX11_bitsOf_2 : decode cX11_bitsOf 2 = .ok (.dcmp .l, 1) := by decide +kernel
theorem dX11_bitsOf_3 : decode cX11_bitsOf 3 = .ok (.ifCond .ne 5, 3) := by decide +kernel
theorem dX11_bitsOf_6 : decode cX11_bitsOf 6 = .ok (.lconst 0, 1) := by decide +kernel
theorem dX11_bitsOf_7 : decode cX11_bitsOf 7 = .ok (.lreturn, 1) := by decide +kernel
theorem dX11_bitsOf_8 : decode cX11_bitsOf 8 = .ok (.dload_n 0, 1) := by decide +kernel
theorem dX11_bitsOf_9 : decode cX11_bitsOf 9 = .ok (.invokestatic 561, 3) := by decide +kernel
theorem dX11_bitsOf_12 : decode cX11_bitsOf 12 = .ok (.ifCond .eq 7, 3) := by decide +kernel
theorem dX11_bitsOf_15 : decode cX11_bitsOf 15 = .ok (.ldc2_w 534, 3) := by decide +kernel
theorem dX11_bitsOf_18 : decode cX11_bitsOf 18 = .ok (.lreturn, 1) := by decide +kernel
theorem dX11_bitsOf_19 : decode cX11_bitsOf 19 = .ok (.dload_n 0, 1) := by decide +kernel
theorem dX11_bitsOf_20 : decode cX11_bitsOf 20 = .ok (.dstore_n 2, 1) := by decide +kernel
theorem dX11_bitsOf_21 : decode cX11_bitsOf 21 = .ok (.iconst 0, 1) := by decide +kernel
theorem dX11_bitsOf_22 : decode cX11_bitsOf 22 = .ok (.istore 4, 2) := by decide +kernel
theorem dX11_bitsOf_24 : decode cX11_bitsOf 24 = .ok (.sipush 512, 3) := by decide +kernel
theorem dX11_bitsOf_27 : decode cX11_bitsOf 27 = .ok (.istore 5, 2) := by decide +kernel
theorem dX11_bitsOf_29 : decode cX11_bitsOf 29 = .ok (.iload 5, 2) := by decide +kernel
theorem dX11_bitsOf_31 : decode cX11_bitsOf 31 = .ok (.ifCond .le 38, 3) := by decide +kernel
theorem dX11_bitsOf_34 : decode cX11_bitsOf 34 = .ok (.dload_n 2, 1) := by decide +kernel
theorem dX11_bitsOf_35 : decode cX11_bitsOf 35 = .ok (.dconst 1, 1) := by decide +kernel
theorem dX11_bitsOf_36 : decode cX11_bitsOf 36 = .ok (.iload 5, 2) := by decide +kernel
theorem dX11_bitsOf_38 : decode cX11_bitsOf 38 = .ok (.invokestatic 575, 3) := by decide +kernel
theorem dX11_bitsOf_41 : decode cX11_bitsOf 41 = .ok (.dcmp .l, 1) := by decide +kernel
theorem dX11_bitsOf_42 : decode cX11_bitsOf 42 = .ok (.ifCond .lt 18, 3) := by decide +kernel
theorem dX11_bitsOf_45 : decode cX11_bitsOf 45 = .ok (.dload_n 2, 1) := by decide +kernel
theorem dX11_bitsOf_46 : decode cX11_bitsOf 46 = .ok (.iload 5, 2) := by decide +kernel
theorem dX11_bitsOf_48 : decode cX11_bitsOf 48 = .ok (.ineg, 1) := by decide +kernel
theorem dX11_bitsOf_49 : decode cX11_bitsOf 49 = .ok (.invokestatic 575, 3) := by decide +kernel
theorem dX11_bitsOf_52 : decode cX11_bitsOf 52 = .ok (.dstore_n 2, 1) := by decide +kernel
theorem dX11_bitsOf_53 : decode cX11_bitsOf 53 = .ok (.iload 4, 2) := by decide +kernel
theorem dX11_bitsOf_55 : decode cX11_bitsOf 55 = .ok (.iload 5, 2) := by decide +kernel
theorem dX11_bitsOf_57 : decode cX11_bitsOf 57 = .ok (.iadd, 1) := by decide +kernel
theorem dX11_bitsOf_58 : decode cX11_bitsOf 58 = .ok (.istore 4, 2) := by decide +kernel
theorem dX11_bitsOf_60 : decode cX11_bitsOf 60 = .ok (.iload 5, 2) := by decide +kernel
theorem dX11_bitsOf_62 : decode cX11_bitsOf 62 = .ok (.iconst 2, 1) := by decide +kernel
theorem dX11_bitsOf_63 : decode cX11_bitsOf 63 = .ok (.idiv, 1) := by decide +kernel
theorem dX11_bitsOf_64 : decode cX11_bitsOf 64 = .ok (.istore 5, 2) := by decide +kernel
theorem dX11_bitsOf_66 : decode cX11_bitsOf 66 = .ok (.goto (-37), 3) := by decide +kernel
theorem dX11_bitsOf_69 : decode cX11_bitsOf 69 = .ok (.dload_n 2, 1) := by decide +kernel
theorem dX11_bitsOf_70 : decode cX11_bitsOf 70 = .ok (.dconst 1, 1) := by decide +kernel
theorem dX11_bitsOf_71 : decode cX11_bitsOf 71 = .ok (.sipush (-511), 3) := by decide +kernel
theorem dX11_bitsOf_74 : decode cX11_bitsOf 74 = .ok (.invokestatic 575, 3) := by decide +kernel
theorem dX11_bitsOf_77 : decode cX11_bitsOf 77 = .ok (.dcmp .g, 1) := by decide +kernel
theorem dX11_bitsOf_78 : decode cX11_bitsOf 78 = .ok (.ifCond .ge 17, 3) := by decide +kernel
theorem dX11_bitsOf_81 : decode cX11_bitsOf 81 = .ok (.dload_n 2, 1) := by decide +kernel
theorem dX11_bitsOf_82 : decode cX11_bitsOf 82 = .ok (.sipush 512, 3) := by decide +kernel
theorem dX11_bitsOf_85 : decode cX11_bitsOf 85 = .ok (.invokestatic 575, 3) := by decide +kernel
theorem dX11_bitsOf_88 : decode cX11_bitsOf 88 = .ok (.dstore_n 2, 1) := by decide +kernel
theorem dX11_bitsOf_89 : decode cX11_bitsOf 89 = .ok (.iinc 4 (-512), 6) := by decide +kernel
theorem dX11_bitsOf_95 : decode cX11_bitsOf 95 = .ok (.sipush 512, 3) := by decide +kernel
theorem dX11_bitsOf_98 : decode cX11_bitsOf 98 = .ok (.istore 5, 2) := by decide +kernel
theorem dX11_bitsOf_100 : decode cX11_bitsOf 100 = .ok (.iload 5, 2) := by decide +kernel
theorem dX11_bitsOf_102 : decode cX11_bitsOf 102 = .ok (.ifCond .le 39, 3) := by decide +kernel
theorem dX11_bitsOf_105 : decode cX11_bitsOf 105 = .ok (.dload_n 2, 1) := by decide +kernel
theorem dX11_bitsOf_106 : decode cX11_bitsOf 106 = .ok (.dconst 1, 1) := by decide +kernel
theorem dX11_bitsOf_107 : decode cX11_bitsOf 107 = .ok (.iconst 1, 1) := by decide +kernel
theorem dX11_bitsOf_108 : decode cX11_bitsOf 108 = .ok (.iload 5, 2) := by decide +kernel
theorem dX11_bitsOf_110 : decode cX11_bitsOf 110 = .ok (.isub, 1) := by decide +kernel
theorem dX11_bitsOf_111 : decode cX11_bitsOf 111 = .ok (.invokestatic 575, 3) := by decide +kernel
theorem dX11_bitsOf_114 : decode cX11_bitsOf 114 = .ok (.dcmp .g, 1) := by decide +kernel
theorem dX11_bitsOf_115 : decode cX11_bitsOf 115 = .ok (.ifCond .ge 17, 3) := by decide +kernel
theorem dX11_bitsOf_118 : decode cX11_bitsOf 118 = .ok (.dload_n 2, 1) := by decide +kernel
theorem dX11_bitsOf_119 : decode cX11_bitsOf 119 = .ok (.iload 5, 2) := by decide +kernel
theorem dX11_bitsOf_121 : decode cX11_bitsOf 121 = .ok (.invokestatic 575, 3) := by decide +kernel
theorem dX11_bitsOf_124 : decode cX11_bitsOf 124 = .ok (.dstore_n 2, 1) := by decide +kernel
theorem dX11_bitsOf_125 : decode cX11_bitsOf 125 = .ok (.iload 4, 2) := by decide +kernel
theorem dX11_bitsOf_127 : decode cX11_bitsOf 127 = .ok (.iload 5, 2) := by decide +kernel
theorem dX11_bitsOf_129 : decode cX11_bitsOf 129 = .ok (.isub, 1) := by decide +kernel
theorem dX11_bitsOf_130 : decode cX11_bitsOf 130 = .ok (.istore 4, 2) := by decide +kernel
theorem dX11_bitsOf_132 : decode cX11_bitsOf 132 = .ok (.iload 5, 2) := by decide +kernel
theorem dX11_bitsOf_134 : decode cX11_bitsOf 134 = .ok (.iconst 2, 1) := by decide +kernel
theorem dX11_bitsOf_135 : decode cX11_bitsOf 135 = .ok (.idiv, 1) := by decide +kernel
theorem dX11_bitsOf_136 : decode cX11_bitsOf 136 = .ok (.istore 5, 2) := by decide +kernel
theorem dX11_bitsOf_138 : decode cX11_bitsOf 138 = .ok (.goto (-38), 3) := by decide +kernel
theorem dX11_bitsOf_141 : decode cX11_bitsOf 141 = .ok (.dload_n 2, 1) := by decide +kernel
theorem dX11_bitsOf_142 : decode cX11_bitsOf 142 = .ok (.bipush 52, 2) := by decide +kernel
theorem dX11_bitsOf_144 : decode cX11_bitsOf 144 = .ok (.invokestatic 575, 3) := by decide +kernel
theorem dX11_bitsOf_147 : decode cX11_bitsOf 147 = .ok (.d2l, 1) := by decide +kernel
theorem dX11_bitsOf_148 : decode cX11_bitsOf 148 = .ok (.lstore 5, 2) := by decide +kernel
theorem dX11_bitsOf_150 : decode cX11_bitsOf 150 = .ok (.iload 4, 2) := by decide +kernel
theorem dX11_bitsOf_152 : decode cX11_bitsOf 152 = .ok (.sipush (-1022), 3) := by decide +kernel
theorem dX11_bitsOf_155 : decode cX11_bitsOf 155 = .ok (.if_icmp .ge 13, 3) := by decide +kernel
theorem dX11_bitsOf_158 : decode cX11_bitsOf 158 = .ok (.lload 5, 2) := by decide +kernel
theorem dX11_bitsOf_160 : decode cX11_bitsOf 160 = .ok (.sipush (-1022), 3) := by decide +kernel
theorem dX11_bitsOf_163 : decode cX11_bitsOf 163 = .ok (.iload 4, 2) := by decide +kernel
theorem dX11_bitsOf_165 : decode cX11_bitsOf 165 = .ok (.isub, 1) := by decide +kernel
theorem dX11_bitsOf_166 : decode cX11_bitsOf 166 = .ok (.lshr, 1) := by decide +kernel
theorem dX11_bitsOf_167 : decode cX11_bitsOf 167 = .ok (.lreturn, 1) := by decide +kernel
theorem dX11_bitsOf_168 : decode cX11_bitsOf 168 = .ok (.iload 4, 2) := by decide +kernel
theorem dX11_bitsOf_170 : decode cX11_bitsOf 170 = .ok (.i2l, 1) := by decide +kernel
theorem dX11_bitsOf_171 : decode cX11_bitsOf 171 = .ok (.ldc2_w 581, 3) := by decide +kernel
theorem dX11_bitsOf_174 : decode cX11_bitsOf 174 = .ok (.ladd, 1) := by decide +kernel
theorem dX11_bitsOf_175 : decode cX11_bitsOf 175 = .ok (.bipush 52, 2) := by decide +kernel
theorem dX11_bitsOf_177 : decode cX11_bitsOf 177 = .ok (.lshl, 1) := by decide +kernel
theorem dX11_bitsOf_178 : decode cX11_bitsOf 178 = .ok (.lload 5, 2) := by decide +kernel
theorem dX11_bitsOf_180 : decode cX11_bitsOf 180 = .ok (.ldc2_w 556, 3) := by decide +kernel
theorem dX11_bitsOf_183 : decode cX11_bitsOf 183 = .ok (.land, 1) := by decide +kernel
theorem dX11_bitsOf_184 : decode cX11_bitsOf 184 = .ok (.lor, 1) := by decide +kernel
theorem dX11_bitsOf_185 : decode cX11_bitsOf 185 = .ok (.lreturn, 1) := by decide +kernel
theorem dX11_canShare_0 : decode cX11_canShare 0 = .ok (.lconst 0, 1) := by decide +kernel
theorem dX11_canShare_1 : decode cX11_canShare 1 = .ok (.lstore_n 1, 1) := by decide +kernel
theorem dX11_canShare_2 : decode cX11_canShare 2 = .ok (.iconst 0, 1) := by decide +kernel
theorem dX11_canShare_3 : decode cX11_canShare 3 = .ok (.istore_n 3, 1) := by decide +kernel
theorem dX11_canShare_4 : decode cX11_canShare 4 = .ok (.iload_n 3, 1) := by decide +kernel
theorem dX11_canShare_5 : decode cX11_canShare 5 = .ok (.aload_n 0, 1) := by decide +kernel
theorem dX11_canShare_6 : decode cX11_canShare 6 = .ok (.getfield 134, 3) := by decide +kernel
theorem dX11_canShare_9 : decode cX11_canShare 9 = .ok (.arraylength, 1) := by decide +kernel
theorem dX11_canShare_10 : decode cX11_canShare 10 = .ok (.if_icmp .ge 31, 3) := by decide +kernel
theorem dX11_canShare_13 : decode cX11_canShare 13 = .ok (.aload_n 0, 1) := by decide +kernel
theorem dX11_canShare_14 : decode cX11_canShare 14 = .ok (.getfield 134, 3) := by decide +kernel
theorem dX11_canShare_17 : decode cX11_canShare 17 = .ok (.iload_n 3, 1) := by decide +kernel
theorem dX11_canShare_18 : decode cX11_canShare 18 = .ok (.laload, 1) := by decide +kernel
theorem dX11_canShare_19 : decode cX11_canShare 19 = .ok (.lconst 0, 1) := by decide +kernel
theorem dX11_canShare_20 : decode cX11_canShare 20 = .ok (.lcmp, 1) := by decide +kernel
theorem dX11_canShare_21 : decode cX11_canShare 21 = .ok (.ifCond .ge 5, 3) := by decide +kernel
theorem dX11_canShare_24 : decode cX11_canShare 24 = .ok (.iconst 0, 1) := by decide +kernel
theorem dX11_canShare_25 : decode cX11_canShare 25 = .ok (.ireturn, 1) := by decide +kernel
theorem dX11_canShare_26 : decode cX11_canShare 26 = .ok (.lload_n 1, 1) := by decide +kernel
theorem dX11_canShare_27 : decode cX11_canShare 27 = .ok (.aload_n 0, 1) := by decide +kernel
theorem dX11_canShare_28 : decode cX11_canShare 28 = .ok (.getfield 134, 3) := by decide +kernel
theorem dX11_canShare_31 : decode cX11_canShare 31 = .ok (.iload_n 3, 1) := by decide +kernel
theorem dX11_canShare_32 : decode cX11_canShare 32 = .ok (.laload, 1) := by decide +kernel
theorem dX11_canShare_33 : decode cX11_canShare 33 = .ok (.ladd, 1) := by decide +kernel
theorem dX11_canShare_34 : decode cX11_canShare 34 = .ok (.lstore_n 1, 1) := by decide +kernel
theorem dX11_canShare_35 : decode cX11_canShare 35 = .ok (.iinc 3 1, 3) := by decide +kernel
theorem dX11_canShare_38 : decode cX11_canShare 38 = .ok (.goto (-34), 3) := by decide +kernel
theorem dX11_canShare_41 : decode cX11_canShare 41 = .ok (.lload_n 1, 1) := by decide +kernel
theorem dX11_canShare_42 : decode cX11_canShare 42 = .ok (.lconst 0, 1) := by decide +kernel
theorem dX11_canShare_43 : decode cX11_canShare 43 = .ok (.lcmp, 1) := by decide +kernel
theorem dX11_canShare_44 : decode cX11_canShare 44 = .ok (.ifCond .le 7, 3) := by decide +kernel
theorem dX11_canShare_47 : decode cX11_canShare 47 = .ok (.iconst 1, 1) := by decide +kernel
theorem dX11_canShare_48 : decode cX11_canShare 48 = .ok (.goto 4, 3) := by decide +kernel
theorem dX11_canShare_51 : decode cX11_canShare 51 = .ok (.iconst 0, 1) := by decide +kernel
theorem dX11_canShare_52 : decode cX11_canShare 52 = .ok (.ireturn, 1) := by decide +kernel
theorem dX11_shareOut_0 : decode cX11_shareOut 0 = .ok (.lconst 0, 1) := by decide +kernel
theorem dX11_shareOut_1 : decode cX11_shareOut 1 = .ok (.lstore 6, 2) := by decide +kernel
theorem dX11_shareOut_3 : decode cX11_shareOut 3 = .ok (.iconst 0, 1) := by decide +kernel
theorem dX11_shareOut_4 : decode cX11_shareOut 4 = .ok (.istore 8, 2) := by decide +kernel
theorem dX11_shareOut_6 : decode cX11_shareOut 6 = .ok (.iload 8, 2) := by decide +kernel
theorem dX11_shareOut_8 : decode cX11_shareOut 8 = .ok (.iload_n 3, 1) := by decide +kernel
theorem dX11_shareOut_9 : decode cX11_shareOut 9 = .ok (.if_icmp .ge 18, 3) := by decide +kernel
theorem dX11_shareOut_12 : decode cX11_shareOut 12 = .ok (.lload 6, 2) := by decide +kernel
theorem dX11_shareOut_14 : decode cX11_shareOut 14 = .ok (.aload_n 2, 1) := by decide +kernel
theorem dX11_shareOut_15 : decode cX11_shareOut 15 = .ok (.iload 8, 2) := by decide +kernel
theorem dX11_shareOut_17 : decode cX11_shareOut 17 = .ok (.laload, 1) := by decide +kernel
theorem dX11_shareOut_18 : decode cX11_shareOut 18 = .ok (.ladd, 1) := by decide +kernel
theorem dX11_shareOut_19 : decode cX11_shareOut 19 = .ok (.lstore 6, 2) := by decide +kernel
theorem dX11_shareOut_21 : decode cX11_shareOut 21 = .ok (.iinc 8 1, 3) := by decide +kernel
theorem dX11_shareOut_24 : decode cX11_shareOut 24 = .ok (.goto (-18), 3) := by decide +kernel
theorem dX11_shareOut_27 : decode cX11_shareOut 27 = .ok (.lload 6, 2) := by decide +kernel
theorem dX11_shareOut_29 : decode cX11_shareOut 29 = .ok (.lconst 0, 1) := by decide +kernel
theorem dX11_shareOut_30 : decode cX11_shareOut 30 = .ok (.lcmp, 1) := by decide +kernel
theorem dX11_shareOut_31 : decode cX11_shareOut 31 = .ok (.ifCond .gt 4, 3) := by decide +kernel
theorem dX11_shareOut_34 : decode cX11_shareOut 34 = .ok (.return_, 1) := by decide +kernel
theorem dX11_shareOut_35 : decode cX11_shareOut 35 = .ok (.lload_n 0, 1) := by decide +kernel
theorem dX11_shareOut_36 : decode cX11_shareOut 36 = .ok (.lstore 8, 2) := by decide +kernel
theorem dX11_shareOut_38 : decode cX11_shareOut 38 = .ok (.iconst 0, 1) := by decide +kernel
theorem dX11_shareOut_39 : decode cX11_shareOut 39 = .ok (.istore 10, 2) := by decide +kernel
theorem dX11_shareOut_41 : decode cX11_shareOut 41 = .ok (.iload 10, 2) := by decide +kernel
theorem dX11_shareOut_43 : decode cX11_shareOut 43 = .ok (.iload_n 3, 1) := by decide +kernel
theorem dX11_shareOut_44 : decode cX11_shareOut 44 = .ok (.if_icmp .ge 47, 3) := by decide +kernel
theorem dX11_shareOut_47 : decode cX11_shareOut 47 = .ok (.aload 4, 2) := by decide +kernel
theorem dX11_shareOut_49 : decode cX11_shareOut 49 = .ok (.iload 10, 2) := by decide +kernel
theorem dX11_shareOut_51 : decode cX11_shareOut 51 = .ok (.lload_n 0, 1) := by decide +kernel
theorem dX11_shareOut_52 : decode cX11_shareOut 52 = .ok (.aload_n 2, 1) := by decide +kernel
theorem dX11_shareOut_53 : decode cX11_shareOut 53 = .ok (.iload 10, 2) := by decide +kernel
theorem dX11_shareOut_55 : decode cX11_shareOut 55 = .ok (.laload, 1) := by decide +kernel
theorem dX11_shareOut_56 : decode cX11_shareOut 56 = .ok (.lmul, 1) := by decide +kernel
theorem dX11_shareOut_57 : decode cX11_shareOut 57 = .ok (.lload 6, 2) := by decide +kernel
theorem dX11_shareOut_59 : decode cX11_shareOut 59 = .ok (.ldiv, 1) := by decide +kernel
theorem dX11_shareOut_60 : decode cX11_shareOut 60 = .ok (.lastore, 1) := by decide +kernel
theorem dX11_shareOut_61 : decode cX11_shareOut 61 = .ok (.aload 5, 2) := by decide +kernel
theorem dX11_shareOut_63 : decode cX11_shareOut 63 = .ok (.iload 10, 2) := by decide +kernel
theorem dX11_shareOut_65 : decode cX11_shareOut 65 = .ok (.lload_n 0, 1) := by decide +kernel
theorem dX11_shareOut_66 : decode cX11_shareOut 66 = .ok (.aload_n 2, 1) := by decide +kernel
theorem dX11_shareOut_67 : decode cX11_shareOut 67 = .ok (.iload 10, 2) := by decide +kernel
theorem dX11_shareOut_69 : decode cX11_shareOut 69 = .ok (.laload, 1) := by decide +kernel
theorem dX11_shareOut_70 : decode cX11_shareOut 70 = .ok (.lmul, 1) := by decide +kernel
theorem dX11_shareOut_71 : decode cX11_shareOut 71 = .ok (.lload 6, 2) := by decide +kernel
theorem dX11_shareOut_73 : decode cX11_shareOut 73 = .ok (.lrem, 1) := by decide +kernel
theorem dX11_shareOut_74 : decode cX11_shareOut 74 = .ok (.lastore, 1) := by decide +kernel
theorem dX11_shareOut_75 : decode cX11_shareOut 75 = .ok (.lload 8, 2) := by decide +kernel
theorem dX11_shareOut_77 : decode cX11_shareOut 77 = .ok (.aload 4, 2) := by decide +kernel
theorem dX11_shareOut_79 : decode cX11_shareOut 79 = .ok (.iload 10, 2) := by decide +kernel
theorem dX11_shareOut_81 : decode cX11_shareOut 81 = .ok (.laload, 1) := by decide +kernel
theorem dX11_shareOut_82 : decode cX11_shareOut 82 = .ok (.lsub, 1) := by decide +kernel
theorem dX11_shareOut_83 : decode cX11_shareOut 83 = .ok (.lstore 8, 2) := by decide +kernel
theorem dX11_shareOut_85 : decode cX11_shareOut 85 = .ok (.iinc 10 1, 3) := by decide +kernel
theorem dX11_shareOut_88 : decode cX11_shareOut 88 = .ok (.goto (-47), 3) := by decide +kernel
theorem dX11_shareOut_91 : decode cX11_shareOut 91 = .ok (.iconst 0, 1) := by decide +kernel
theorem dX11_shareOut_92 : decode cX11_shareOut 92 = .ok (.istore 10, 2) := by decide +kernel
theorem dX11_shareOut_94 : decode cX11_shareOut 94 = .ok (.iload 10, 2) := by decide +kernel
theorem dX11_shareOut_96 : decode cX11_shareOut 96 = .ok (.iload_n 3, 1) := by decide +kernel
theorem dX11_shareOut_97 : decode cX11_shareOut 97 = .ok (.if_icmp .ge 75, 3) := by decide +kernel
theorem dX11_shareOut_100 : decode cX11_shareOut 100 = .ok (.lload 8, 2) := by decide +kernel
theorem dX11_shareOut_102 : decode cX11_shareOut 102 = .ok (.lconst 0, 1) := by decide +kernel
theorem dX11_shareOut_103 : decode cX11_shareOut 103 = .ok (.lcmp, 1) := by decide +kernel
theorem dX11_shareOut_104 : decode cX11_shareOut 104 = .ok (.ifCond .le 68, 3) := by decide +kernel
theorem dX11_shareOut_107 : decode cX11_shareOut 107 = .ok (.iconst 0, 1) := by decide +kernel
theorem dX11_shareOut_108 : decode cX11_shareOut 108 = .ok (.istore 11, 2) := by decide +kernel
theorem dX11_shareOut_110 : decode cX11_shareOut 110 = .ok (.iconst 1, 1) := by decide +kernel
theorem dX11_shareOut_111 : decode cX11_shareOut 111 = .ok (.istore 12, 2) := by decide +kernel
theorem dX11_shareOut_113 : decode cX11_shareOut 113 = .ok (.iload 12, 2) := by decide +kernel
theorem dX11_shareOut_115 : decode cX11_shareOut 115 = .ok (.iload_n 3, 1) := by decide +kernel
theorem dX11_shareOut_116 : decode cX11_shareOut 116 = .ok (.if_icmp .ge 27, 3) := by decide +kernel
theorem dX11_shareOut_119 : decode cX11_shareOut 119 = .ok (.aload 5, 2) := by decide +kernel
theorem dX11_shareOut_121 : decode cX11_shareOut 121 = .ok (.iload 12, 2) := by decide +kernel
theorem dX11_shareOut_123 : decode cX11_shareOut 123 = .ok (.laload, 1) := by decide +kernel
theorem dX11_shareOut_124 : decode cX11_shareOut 124 = .ok (.aload 5, 2) := by decide +kernel
theorem dX11_shareOut_126 : decode cX11_shareOut 126 = .ok (.iload 11, 2) := by decide +kernel
theorem dX11_shareOut_128 : decode cX11_shareOut 128 = .ok (.laload, 1) := by decide +kernel
theorem dX11_shareOut_129 : decode cX11_shareOut 129 = .ok (.lcmp, 1) := by decide +kernel
theorem dX11_shareOut_130 : decode cX11_shareOut 130 = .ok (.ifCond .le 7, 3) := by decide +kernel
theorem dX11_shareOut_133 : decode cX11_shareOut 133 = .ok (.iload 12, 2) := by decide +kernel
theorem dX11_shareOut_135 : decode cX11_shareOut 135 = .ok (.istore 11, 2) := by decide +kernel
theorem dX11_shareOut_137 : decode cX11_shareOut 137 = .ok (.iinc 12 1, 3) := by decide +kernel
theorem dX11_shareOut_140 : decode cX11_shareOut 140 = .ok (.goto (-27), 3) := by decide +kernel
theorem dX11_shareOut_143 : decode cX11_shareOut 143 = .ok (.aload 4, 2) := by decide +kernel
theorem dX11_shareOut_145 : decode cX11_shareOut 145 = .ok (.iload 11, 2) := by decide +kernel
theorem dX11_shareOut_147 : decode cX11_shareOut 147 = .ok (.dup2, 1) := by decide +kernel
theorem dX11_shareOut_148 : decode cX11_shareOut 148 = .ok (.laload, 1) := by decide +kernel
theorem dX11_shareOut_149 : decode cX11_shareOut 149 = .ok (.lconst 1, 1) := by decide +kernel
theorem dX11_shareOut_150 : decode cX11_shareOut 150 = .ok (.ladd, 1) := by decide +kernel
theorem dX11_shareOut_151 : decode cX11_shareOut 151 = .ok (.lastore, 1) := by decide +kernel
theorem dX11_shareOut_152 : decode cX11_shareOut 152 = .ok (.aload 5, 2) := by decide +kernel
theorem dX11_shareOut_154 : decode cX11_shareOut 154 = .ok (.iload 11, 2) := by decide +kernel
theorem dX11_shareOut_156 : decode cX11_shareOut 156 = .ok (.ldc2_w 583, 3) := by decide +kernel
theorem dX11_shareOut_159 : decode cX11_shareOut 159 = .ok (.lastore, 1) := by decide +kernel
theorem dX11_shareOut_160 : decode cX11_shareOut 160 = .ok (.lload 8, 2) := by decide +kernel
theorem dX11_shareOut_162 : decode cX11_shareOut 162 = .ok (.lconst 1, 1) := by decide +kernel
theorem dX11_shareOut_163 : decode cX11_shareOut 163 = .ok (.lsub, 1) := by decide +kernel
theorem dX11_shareOut_164 : decode cX11_shareOut 164 = .ok (.lstore 8, 2) := by decide +kernel
theorem dX11_shareOut_166 : decode cX11_shareOut 166 = .ok (.iinc 10 1, 3) := by decide +kernel
theorem dX11_shareOut_169 : decode cX11_shareOut 169 = .ok (.goto (-75), 3) := by decide +kernel
theorem dX11_shareOut_172 : decode cX11_shareOut 172 = .ok (.return_, 1) := by decide +kernel
theorem dX12_init_0 : decode cX12_init 0 = .ok (.aload_n 0, 1) := by decide +kernel
theorem dX12_init_1 : decode cX12_init 1 = .ok (.invokespecial 3, 3) := by decide +kernel
theorem dX12_init_4 : decode cX12_init 4 = .ok (.aload_n 0, 1) := by decide +kernel
theorem dX12_init_5 : decode cX12_init 5 = .ok (.bipush 16, 2) := by decide +kernel
theorem dX12_init_7 : decode cX12_init 7 = .ok (.newarray .int, 2) := by decide +kernel
theorem dX12_init_9 : decode cX12_init 9 = .ok (.putfield 9, 3) := by decide +kernel
theorem dX12_init_12 : decode cX12_init 12 = .ok (.aload_n 0, 1) := by decide +kernel
theorem dX12_init_13 : decode cX12_init 13 = .ok (.sipush 4100, 3) := by decide +kernel
theorem dX12_init_16 : decode cX12_init 16 = .ok (.newarray .byte, 2) := by decide +kernel
theorem dX12_init_18 : decode cX12_init 18 = .ok (.putfield 15, 3) := by decide +kernel
theorem dX12_init_21 : decode cX12_init 21 = .ok (.aload_n 0, 1) := by decide +kernel
theorem dX12_init_22 : decode cX12_init 22 = .ok (.sipush 4100, 3) := by decide +kernel
theorem dX12_init_25 : decode cX12_init 25 = .ok (.newarray .byte, 2) := by decide +kernel
theorem dX12_init_27 : decode cX12_init 27 = .ok (.putfield 19, 3) := by decide +kernel
theorem dX12_init_30 : decode cX12_init 30 = .ok (.aload_n 0, 1) := by decide +kernel
theorem dX12_init_31 : decode cX12_init 31 = .ok (.sipush 4100, 3) := by decide +kernel
theorem dX12_init_34 : decode cX12_init 34 = .ok (.newarray .int, 2) := by decide +kernel
theorem dX12_init_36 : decode cX12_init 36 = .ok (.putfield 22, 3) := by decide +kernel
theorem dX12_init_39 : decode cX12_init 39 = .ok (.aload_n 0, 1) := by decide +kernel
theorem dX12_init_40 : decode cX12_init 40 = .ok (.ldc 25, 2) := by decide +kernel
theorem dX12_init_42 : decode cX12_init 42 = .ok (.newarray .long, 2) := by decide +kernel
theorem dX12_init_44 : decode cX12_init 44 = .ok (.putfield 26, 3) := by decide +kernel
theorem dX12_init_47 : decode cX12_init 47 = .ok (.aload_n 0, 1) := by decide +kernel
theorem dX12_init_48 : decode cX12_init 48 = .ok (.ldc 30, 2) := by decide +kernel
theorem dX12_init_50 : decode cX12_init 50 = .ok (.newarray .short, 2) := by decide +kernel
theorem dX12_init_52 : decode cX12_init 52 = .ok (.putfield 31, 3) := by decide +kernel
theorem dX12_init_55 : decode cX12_init 55 = .ok (.aload_n 0, 1) := by decide +kernel
theorem dX12_init_56 : decode cX12_init 56 = .ok (.sipush 4100, 3) := by decide +kernel
theorem dX12_init_59 : decode cX12_init 59 = .ok (.newarray .int, 2) := by decide +kernel
theorem dX12_init_61 : decode cX12_init 61 = .ok (.putfield 35, 3) := by decide +kernel
theorem dX12_init_64 : decode cX12_init 64 = .ok (.aload_n 0, 1) := by decide +kernel
theorem dX12_init_65 : decode cX12_init 65 = .ok (.sipush 4100, 3) := by decide +kernel
theorem dX12_init_68 : decode cX12_init 68 = .ok (.newarray .byte, 2) := by decide +kernel
theorem dX12_init_70 : decode cX12_init 70 = .ok (.putfield 38, 3) := by decide +kernel
theorem dX12_init_73 : decode cX12_init 73 = .ok (.aload_n 0, 1) := by decide +kernel
theorem dX12_init_74 : decode cX12_init 74 = .ok (.sipush 4100, 3) := by decide +kernel
theorem dX12_init_77 : decode cX12_init 77 = .ok (.newarray .int, 2) := by decide +kernel
theorem dX12_init_79 : decode cX12_init 79 = .ok (.putfield 41, 3) := by decide +kernel
theorem dX12_init_82 : decode cX12_init 82 = .ok (.aload_n 0, 1) := by decide +kernel
theorem dX12_init_83 : decode cX12_init 83 = .ok (.sipush 4100, 3) := by decide +kernel
theorem dX12_init_86 : decode cX12_init 86 = .ok (.newarray .int, 2) := by decide +kernel
theorem dX12_init_88 : decode cX12_init 88 = .ok (.putfield 44, 3) := by decide +kernel
theorem dX12_init_91 : decode cX12_init 91 = .ok (.aload_n 0, 1) := by decide +kernel
theorem dX12_init_92 : decode cX12_init 92 = .ok (.sipush 4100, 3) := by decide +kernel
theorem dX12_init_95 : decode cX12_init 95 = .ok (.newarray .short, 2) := by decide +kernel
theorem dX12_init_97 : decode cX12_init 97 = .ok (.putfield 47, 3) := by decide +kernel
theorem dX12_init_100 : decode cX12_init 100 = .ok (.aload_n 0, 1) := by decide +kernel
theorem dX12_init_101 : decode cX12_init 101 = .ok (.sipush 4100, 3) := by decide +kernel
theorem dX12_init_104 : decode cX12_init 104 = .ok (.newarray .short, 2) := by decide +kernel
theorem dX12_init_106 : decode cX12_init 106 = .ok (.putfield 50, 3) := by decide +kernel
theorem dX12_init_109 : decode cX12_init 109 = .ok (.aload_n 0, 1) := by decide +kernel
theorem dX12_init_110 : decode cX12_init 110 = .ok (.sipush 4100, 3) := by decide +kernel
theorem dX12_init_113 : decode cX12_init 113 = .ok (.newarray .byte, 2) := by decide +kernel
theorem dX12_init_115 : decode cX12_init 115 = .ok (.putfield 53, 3) := by decide +kernel
theorem dX12_init_118 : decode cX12_init 118 = .ok (.aload_n 0, 1) := by decide +kernel
theorem dX12_init_119 : decode cX12_init 119 = .ok (.bipush 40, 2) := by decide +kernel
theorem dX12_init_121 : decode cX12_init 121 = .ok (.newarray .long, 2) := by decide +kernel
theorem dX12_init_123 : decode cX12_init 123 = .ok (.putfield 56, 3) := by decide +kernel
theorem dX12_init_126 : decode cX12_init 126 = .ok (.aload_n 0, 1) := by decide +kernel
theorem dX12_init_127 : decode cX12_init 127 = .ok (.sipush 200, 3) := by decide +kernel
theorem dX12_init_130 : decode cX12_init 130 = .ok (.newarray .int, 2) := by decide +kernel
theorem dX12_init_132 : decode cX12_init 132 = .ok (.putfield 59, 3) := by decide +kernel
theorem dX12_init_135 : decode cX12_init 135 = .ok (.aload_n 0, 1) := by decide +kernel
theorem dX12_init_136 : decode cX12_init 136 = .ok (.bipush 8, 2) := by decide +kernel
theorem dX12_init_138 : decode cX12_init 138 = .ok (.newarray .int, 2) := by decide +kernel
theorem dX12_init_140 : decode cX12_init 140 = .ok (.putfield 62, 3) := by decide +kernel
theorem dX12_init_143 : decode cX12_init 143 = .ok (.aload_n 0, 1) := by decide +kernel
theorem dX12_init_144 : decode cX12_init 144 = .ok (.bipush 8, 2) := by decide +kernel
theorem dX12_init_146 : decode cX12_init 146 = .ok (.newarray .int, 2) := by decide +kernel
theorem dX12_init_148 : decode cX12_init 148 = .ok (.putfield 65, 3) := by decide +kernel
theorem dX12_init_151 : decode cX12_init 151 = .ok (.aload_n 0, 1) := by decide +kernel
theorem dX12_init_152 : decode cX12_init 152 = .ok (.bipush 8, 2) := by decide +kernel
theorem dX12_init_154 : decode cX12_init 154 = .ok (.newarray .int, 2) := by decide +kernel
theorem dX12_init_156 : decode cX12_init 156 = .ok (.putfield 68, 3) := by decide +kernel
theorem dX12_init_159 : decode cX12_init 159 = .ok (.aload_n 0, 1) := by decide +kernel
theorem dX12_init_160 : decode cX12_init 160 = .ok (.sipush 4100, 3) := by decide +kernel
theorem dX12_init_163 : decode cX12_init 163 = .ok (.newarray .int, 2) := by decide +kernel
theorem dX12_init_165 : decode cX12_init 165 = .ok (.putfield 71, 3) := by decide +kernel
theorem dX12_init_168 : decode cX12_init 168 = .ok (.aload_n 0, 1) := by decide +kernel
theorem dX12_init_169 : decode cX12_init 169 = .ok (.iconst 4, 1) := by decide +kernel
theorem dX12_init_170 : decode cX12_init 170 = .ok (.newarray .int, 2) := by decide +kernel
theorem dX12_init_172 : decode cX12_init 172 = .ok (.putfield 74, 3) := by decide +kernel
theorem dX12_init_175 : decode cX12_init 175 = .ok (.aload_n 0, 1) := by decide +kernel
theorem dX12_init_176 : decode cX12_init 176 = .ok (.sipush 160, 3) := by decide +kernel
theorem dX12_init_179 : decode cX12_init 179 = .ok (.newarray .int, 2) := by decide +kernel
theorem dX12_init_181 : decode cX12_init 181 = .ok (.putfield 77, 3) := by decide +kernel
theorem dX12_init_184 : decode cX12_init 184 = .ok (.aload_n 0, 1) := by decide +kernel
theorem dX12_init_185 : decode cX12_init 185 = .ok (.sipush 160, 3) := by decide +kernel
theorem dX12_init_188 : decode cX12_init 188 = .ok (.newarray .int, 2) := by decide +kernel
theorem dX12_init_190 : decode cX12_init 190 = .ok (.putfield 80, 3) := by decide +kernel
theorem dX12_init_193 : decode cX12_init 193 = .ok (.aload_n 0, 1) := by decide +kernel
theorem dX12_init_194 : decode cX12_init 194 = .ok (.sipush 160, 3) := by decide +kernel
theorem dX12_init_197 : decode cX12_init 197 = .ok (.newarray .int, 2) := by decide +kernel
theorem dX12_init_199 : decode cX12_init 199 = .ok (.putfield 83, 3) := by decide +kernel
theorem dX12_init_202 : decode cX12_init 202 = .ok (.aload_n 0, 1) := by decide +kernel
theorem dX12_init_203 : decode cX12_init 203 = .ok (.sipush 160, 3) := by decide +kernel
theorem dX12_init_206 : decode cX12_init 206 = .ok (.newarray .int, 2) := by decide +kernel
theorem dX12_init_208 : decode cX12_init 208 = .ok (.putfield 86, 3) := by decide +kernel
theorem dX12_init_211 : decode cX12_init 211 = .ok (.aload_n 0, 1) := by decide +kernel
theorem dX12_init_212 : decode cX12_init 212 = .ok (.bipush 6, 2) := by decide +kernel
theorem dX12_init_214 : decode cX12_init 214 = .ok (.newarray .long, 2) := by decide +kernel
theorem dX12_init_216 : decode cX12_init 216 = .ok (.putfield 89, 3) := by decide +kernel
theorem dX12_init_219 : decode cX12_init 219 = .ok (.aload_n 0, 1) := by decide +kernel
theorem dX12_init_220 : decode cX12_init 220 = .ok (.iconst 3, 1) := by decide +kernel
theorem dX12_init_221 : decode cX12_init 221 = .ok (.newarray .int, 2) := by decide +kernel
theorem dX12_init_223 : decode cX12_init 223 = .ok (.putfield 92, 3) := by decide +kernel
theorem dX12_init_226 : decode cX12_init 226 = .ok (.aload_n 0, 1) := by decide +kernel
theorem dX12_init_227 : decode cX12_init 227 = .ok (.iconst 3, 1) := by decide +kernel
theorem dX12_init_228 : decode cX12_init 228 = .ok (.newarray .int, 2) := by decide +kernel
theorem dX12_init_230 : decode cX12_init 230 = .ok (.putfield 95, 3) := by decide +kernel
theorem dX12_init_233 : decode cX12_init 233 = .ok (.aload_n 0, 1) := by decide +kernel
theorem dX12_init_234 : decode cX12_init 234 = .ok (.bipush 44, 2) := by decide +kernel
theorem dX12_init_236 : decode cX12_init 236 = .ok (.newarray .int, 2) := by decide +kernel
theorem dX12_init_238 : decode cX12_init 238 = .ok (.putfield 98, 3) := by decide +kernel
theorem dX12_init_241 : decode cX12_init 241 = .ok (.aload_n 0, 1) := by decide +kernel
theorem dX12_init_242 : decode cX12_init 242 = .ok (.sipush 400, 3) := by decide +kernel
theorem dX12_init_245 : decode cX12_init 245 = .ok (.newarray .int, 2) := by decide +kernel
theorem dX12_init_247 : decode cX12_init 247 = .ok (.putfield 101, 3) := by decide +kernel
theorem dX12_init_250 : decode cX12_init 250 = .ok (.aload_n 0, 1) := by decide +kernel
theorem dX12_init_251 : decode cX12_init 251 = .ok (.sipush 400, 3) := by decide +kernel
theorem dX12_init_254 : decode cX12_init 254 = .ok (.newarray .int, 2) := by decide +kernel
theorem dX12_init_256 : decode cX12_init 256 = .ok (.putfield 104, 3) := by decide +kernel
theorem dX12_init_259 : decode cX12_init 259 = .ok (.aload_n 0, 1) := by decide +kernel
theorem dX12_init_260 : decode cX12_init 260 = .ok (.sipush 400, 3) := by decide +kernel
theorem dX12_init_263 : decode cX12_init 263 = .ok (.newarray .int, 2) := by decide +kernel
theorem dX12_init_265 : decode cX12_init 265 = .ok (.putfield 107, 3) := by decide +kernel
theorem dX12_init_268 : decode cX12_init 268 = .ok (.aload_n 0, 1) := by decide +kernel
theorem dX12_init_269 : decode cX12_init 269 = .ok (.sipush 400, 3) := by decide +kernel
theorem dX12_init_272 : decode cX12_init 272 = .ok (.newarray .int, 2) := by decide +kernel
theorem dX12_init_274 : decode cX12_init 274 = .ok (.putfield 110, 3) := by decide +kernel
theorem dX12_init_277 : decode cX12_init 277 = .ok (.aload_n 0, 1) := by decide +kernel
theorem dX12_init_278 : decode cX12_init 278 = .ok (.sipush 400, 3) := by decide +kernel
theorem dX12_init_281 : decode cX12_init 281 = .ok (.newarray .int, 2) := by decide +kernel
theorem dX12_init_283 : decode cX12_init 283 = .ok (.putfield 113, 3) := by decide +kernel
theorem dX12_init_286 : decode cX12_init 286 = .ok (.aload_n 0, 1) := by decide +kernel
theorem dX12_init_287 : decode cX12_init 287 = .ok (.sipush 400, 3) := by decide +kernel
theorem dX12_init_290 : decode cX12_init 290 = .ok (.newarray .int, 2) := by decide +kernel
theorem dX12_init_292 : decode cX12_init 292 = .ok (.putfield 116, 3) := by decide +kernel
theorem dX12_init_295 : decode cX12_init 295 = .ok (.aload_n 0, 1) := by decide +kernel
theorem dX12_init_296 : decode cX12_init 296 = .ok (.sipush 400, 3) := by decide +kernel
theorem dX12_init_299 : decode cX12_init 299 = .ok (.newarray .int, 2) := by decide +kernel
theorem dX12_init_301 : decode cX12_init 301 = .ok (.putfield 119, 3) := by decide +kernel
theorem dX12_init_304 : decode cX12_init 304 = .ok (.aload_n 0, 1) := by decide +kernel
theorem dX12_init_305 : decode cX12_init 305 = .ok (.sipush 400, 3) := by decide +kernel
theorem dX12_init_308 : decode cX12_init 308 = .ok (.newarray .int, 2) := by decide +kernel
theorem dX12_init_310 : decode cX12_init 310 = .ok (.putfield 122, 3) := by decide +kernel
theorem dX12_init_313 : decode cX12_init 313 = .ok (.aload_n 0, 1) := by decide +kernel
theorem dX12_init_314 : decode cX12_init 314 = .ok (.sipush 400, 3) := by decide +kernel
theorem dX12_init_317 : decode cX12_init 317 = .ok (.newarray .int, 2) := by decide +kernel
theorem dX12_init_319 : decode cX12_init 319 = .ok (.putfield 125, 3) := by decide +kernel
theorem dX12_init_322 : decode cX12_init 322 = .ok (.aload_n 0, 1) := by decide +kernel
theorem dX12_init_323 : decode cX12_init 323 = .ok (.sipush 400, 3) := by decide +kernel
theorem dX12_init_326 : decode cX12_init 326 = .ok (.newarray .int, 2) := by decide +kernel
theorem dX12_init_328 : decode cX12_init 328 = .ok (.putfield 128, 3) := by decide +kernel
theorem dX12_init_331 : decode cX12_init 331 = .ok (.aload_n 0, 1) := by decide +kernel
theorem dX12_init_332 : decode cX12_init 332 = .ok (.sipush 400, 3) := by decide +kernel
theorem dX12_init_335 : decode cX12_init 335 = .ok (.newarray .int, 2) := by decide +kernel
theorem dX12_init_337 : decode cX12_init 337 = .ok (.putfield 131, 3) := by decide +kernel
theorem dX12_init_340 : decode cX12_init 340 = .ok (.aload_n 0, 1) := by decide +kernel
theorem dX12_init_341 : decode cX12_init 341 = .ok (.sipush 2000, 3) := by decide +kernel
theorem dX12_init_344 : decode cX12_init 344 = .ok (.newarray .int, 2) := by decide +kernel
theorem dX12_init_346 : decode cX12_init 346 = .ok (.putfield 134, 3) := by decide +kernel
theorem dX12_init_349 : decode cX12_init 349 = .ok (.aload_n 0, 1) := by decide +kernel
theorem dX12_init_350 : decode cX12_init 350 = .ok (.sipush 2000, 3) := by decide +kernel
theorem dX12_init_353 : decode cX12_init 353 = .ok (.newarray .long, 2) := by decide +kernel
theorem dX12_init_355 : decode cX12_init 355 = .ok (.putfield 137, 3) := by decide +kernel
theorem dX12_init_358 : decode cX12_init 358 = .ok (.aload_n 0, 1) := by decide +kernel
theorem dX12_init_359 : decode cX12_init 359 = .ok (.iconst (-1), 1) := by decide +kernel
theorem dX12_init_360 : decode cX12_init 360 = .ok (.putfield 140, 3) := by decide +kernel
theorem dX12_init_363 : decode cX12_init 363 = .ok (.aload_n 0, 1) := by decide +kernel
theorem dX12_init_364 : decode cX12_init 364 = .ok (.iconst 3, 1) := by decide +kernel
theorem dX12_init_365 : decode cX12_init 365 = .ok (.newarray .int, 2) := by decide +kernel
theorem dX12_init_367 : decode cX12_init 367 = .ok (.putfield 144, 3) := by decide +kernel
theorem dX12_init_370 : decode cX12_init 370 = .ok (.aload_n 0, 1) := by decide +kernel
theorem dX12_init_371 : decode cX12_init 371 = .ok (.bipush 24, 2) := by decide +kernel
theorem dX12_init_373 : decode cX12_init 373 = .ok (.newarray .int, 2) := by decide +kernel
theorem dX12_init_375 : decode cX12_init 375 = .ok (.putfield 147, 3) := by decide +kernel
theorem dX12_init_378 : decode cX12_init 378 = .ok (.aload_n 0, 1) := by decide +kernel
theorem dX12_init_379 : decode cX12_init 379 = .ok (.bipush 24, 2) := by decide +kernel
theorem dX12_init_381 : decode cX12_init 381 = .ok (.newarray .int, 2) := by decide +kernel
theorem dX12_init_383 : decode cX12_init 383 = .ok (.putfield 150, 3) := by decide +kernel
theorem dX12_init_386 : decode cX12_init 386 = .ok (.aload_n 0, 1) := by decide +kernel
theorem dX12_init_387 : decode cX12_init 387 = .ok (.iconst 3, 1) := by decide +kernel
theorem dX12_init_388 : decode cX12_init 388 = .ok (.newarray .int, 2) := by decide +kernel
theorem dX12_init_390 : decode cX12_init 390 = .ok (.dup, 1) := by decide +kernel
theorem dX12_init_391 : decode cX12_init 391 = .ok (.iconst 0, 1) := by decide +kernel
theorem dX12_init_392 : decode cX12_init 392 = .ok (.iconst (-1), 1) := by decide +kernel
theorem dX12_init_393 : decode cX12_init 393 = .ok (.iastore, 1) := by decide +kernel
theorem dX12_init_394 : decode cX12_init 394 = .ok (.dup, 1) := by decide +kernel
theorem dX12_init_395 : decode cX12_init 395 = .ok (.iconst 1, 1) := by decide +kernel
theorem dX12_init_396 : decode cX12_init 396 = .ok (.iconst (-1), 1) := by decide +kernel
theorem dX12_init_397 : decode cX12_init 397 = .ok (.iastore, 1) := by decide +kernel
theorem dX12_init_398 : decode cX12_init 398 = .ok (.dup, 1) := by decide +kernel
theorem dX12_init_399 : decode cX12_init 399 = .ok (.iconst 2, 1) := by decide +kernel
theorem dX12_init_400 : decode cX12_init 400 = .ok (.iconst (-1), 1) := by decide +kernel
theorem dX12_init_401 : decode cX12_init 401 = .ok (.iastore, 1) := by decide +kernel
theorem dX12_init_402 : decode cX12_init 402 = .ok (.putfield 153, 3) := by decide +kernel
theorem dX12_init_405 : decode cX12_init 405 = .ok (.aload_n 0, 1) := by decide +kernel
theorem dX12_init_406 : decode cX12_init 406 = .ok (.iconst 3, 1) := by decide +kernel
theorem dX12_init_407 : decode cX12_init 407 = .ok (.newarray .boolean, 2) := by decide +kernel
theorem dX12_init_409 : decode cX12_init 409 = .ok (.putfield 156, 3) := by decide +kernel
theorem dX12_init_412 : decode cX12_init 412 = .ok (.aload_n 0, 1) := by decide +kernel
theorem dX12_init_413 : decode cX12_init 413 = .ok (.iconst 3, 1) := by decide +kernel
theorem dX12_init_414 : decode cX12_init 414 = .ok (.newarray .boolean, 2) := by decide +kernel
theorem dX12_init_416 : decode cX12_init 416 = .ok (.putfield 160, 3) := by decide +kernel
theorem dX12_init_419 : decode cX12_init 419 = .ok (.aload_n 0, 1) := by decide +kernel
theorem dX12_init_420 : decode cX12_init 420 = .ok (.iconst 3, 1) := by decide +kernel
theorem dX12_init_421 : decode cX12_init 421 = .ok (.newarray .int, 2) := by decide +kernel
theorem dX12_init_423 : decode cX12_init 423 = .ok (.putfield 163, 3) := by decide +kernel
theorem dX12_init_426 : decode cX12_init 426 = .ok (.aload_n 0, 1) := by decide +kernel
theorem dX12_init_427 : decode cX12_init 427 = .ok (.iconst 3, 1) := by decide +kernel
theorem dX12_init_428 : decode cX12_init 428 = .ok (.newarray .int, 2) := by decide +kernel
theorem dX12_init_430 : decode cX12_init 430 = .ok (.putfield 166, 3) := by decide +kernel
theorem dX12_init_433 : decode cX12_init 433 = .ok (.aload_n 0, 1) := by decide +kernel
theorem dX12_init_434 : decode cX12_init 434 = .ok (.iconst 3, 1) := by decide +kernel
theorem dX12_init_435 : decode cX12_init 435 = .ok (.newarray .int, 2) := by decide +kernel
theorem dX12_init_437 : decode cX12_init 437 = .ok (.putfield 169, 3) := by decide +kernel
theorem dX12_init_440 : decode cX12_init 440 = .ok (.aload_n 0, 1) := by decide +kernel
theorem dX12_init_441 : decode cX12_init 441 = .ok (.bipush 9, 2) := by decide +kernel
theorem dX12_init_443 : decode cX12_init 443 = .ok (.newarray .long, 2) := by decide +kernel
theorem dX12_init_445 : decode cX12_init 445 = .ok (.dup, 1) := by decide +kernel
theorem dX12_init_446 : decode cX12_init 446 = .ok (.iconst 0, 1) := by decide +kernel
theorem dX12_init_447 : decode cX12_init 447 = .ok (.ldc2_w 172, 3) := by decide +kernel
theorem dX12_init_450 : decode cX12_init 450 = .ok (.lastore, 1) := by decide +kernel
