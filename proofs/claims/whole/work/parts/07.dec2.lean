/-! DECODE: the model, but its constructor -/
abbrev y_Mod_thrown : MethodName := ⟨"FusedEngineModel", "thrown", "()I"⟩
abbrev b_Mod_thrown : ByteArray := prog_6_method_2_code
theorem d_Mod_thrown_0 : decode b_Mod_thrown 0 = .ok (.aload_n 0, 1) := by decide +kernel
theorem d_Mod_thrown_1 : decode b_Mod_thrown 1 = .ok (.getfield 53, 3) := by decide +kernel
theorem d_Mod_thrown_4 : decode b_Mod_thrown 4 = .ok (.ireturn, 1) := by decide +kernel
abbrev y_Mod_refuse : MethodName := ⟨"FusedEngineModel", "refuse", "(I)I"⟩
abbrev b_Mod_refuse : ByteArray := prog_6_method_3_code
theorem d_Mod_refuse_0 : decode b_Mod_refuse 0 = .ok (.aload_n 0, 1) := by decide +kernel
theorem d_Mod_refuse_1 : decode b_Mod_refuse 1 = .ok (.iload_n 1, 1) := by decide +kernel
theorem d_Mod_refuse_2 : decode b_Mod_refuse 2 = .ok (.putfield 53, 3) := by decide +kernel
theorem d_Mod_refuse_5 : decode b_Mod_refuse 5 = .ok (.iconst 0, 1) := by decide +kernel
theorem d_Mod_refuse_6 : decode b_Mod_refuse 6 = .ok (.ireturn, 1) := by decide +kernel
abbrev y_Mod_outside : MethodName := ⟨"FusedEngineModel", "outside", "(III)Z"⟩
abbrev b_Mod_outside : ByteArray := prog_6_method_4_code
theorem d_Mod_outside_0 : decode b_Mod_outside 0 = .ok (.iload_n 0, 1) := by decide +kernel
theorem d_Mod_outside_1 : decode b_Mod_outside 1 = .ok (.iload_n 1, 1) := by decide +kernel
theorem d_Mod_outside_2 : decode b_Mod_outside 2 = .ok (.if_icmp .lt 8, 3) := by decide +kernel
theorem d_Mod_outside_5 : decode b_Mod_outside 5 = .ok (.iload_n 0, 1) := by decide +kernel
theorem d_Mod_outside_6 : decode b_Mod_outside 6 = .ok (.iload_n 2, 1) := by decide +kernel
theorem d_Mod_outside_7 : decode b_Mod_outside 7 = .ok (.if_icmp .le 7, 3) := by decide +kernel
theorem d_Mod_outside_10 : decode b_Mod_outside 10 = .ok (.iconst 1, 1) := by decide +kernel
theorem d_Mod_outside_11 : decode b_Mod_outside 11 = .ok (.goto 4, 3) := by decide +kernel
theorem d_Mod_outside_14 : decode b_Mod_outside 14 = .ok (.iconst 0, 1) := by decide +kernel
theorem d_Mod_outside_15 : decode b_Mod_outside 15 = .ok (.ireturn, 1) := by decide +kernel
abbrev y_Mod_isPlain : MethodName := ⟨"FusedEngineModel", "isPlain", "(I)Z"⟩
abbrev b_Mod_isPlain : ByteArray := prog_6_method_5_code
theorem d_Mod_isPlain_0 : decode b_Mod_isPlain 0 = .ok (.iload_n 0, 1) := by decide +kernel
theorem d_Mod_isPlain_1 : decode b_Mod_isPlain 1 = .ok (.bipush 43, 2) := by decide +kernel
theorem d_Mod_isPlain_3 : decode b_Mod_isPlain 3 = .ok (.if_icmp .eq 33, 3) := by decide +kernel
theorem d_Mod_isPlain_6 : decode b_Mod_isPlain 6 = .ok (.iload_n 0, 1) := by decide +kernel
theorem d_Mod_isPlain_7 : decode b_Mod_isPlain 7 = .ok (.bipush 45, 2) := by decide +kernel
theorem d_Mod_isPlain_9 : decode b_Mod_isPlain 9 = .ok (.if_icmp .eq 27, 3) := by decide +kernel
theorem d_Mod_isPlain_12 : decode b_Mod_isPlain 12 = .ok (.iload_n 0, 1) := by decide +kernel
theorem d_Mod_isPlain_13 : decode b_Mod_isPlain 13 = .ok (.bipush 42, 2) := by decide +kernel
theorem d_Mod_isPlain_15 : decode b_Mod_isPlain 15 = .ok (.if_icmp .eq 21, 3) := by decide +kernel
theorem d_Mod_isPlain_18 : decode b_Mod_isPlain 18 = .ok (.iload_n 0, 1) := by decide +kernel
theorem d_Mod_isPlain_19 : decode b_Mod_isPlain 19 = .ok (.bipush 47, 2) := by decide +kernel
theorem d_Mod_isPlain_21 : decode b_Mod_isPlain 21 = .ok (.if_icmp .eq 15, 3) := by decide +kernel
theorem d_Mod_isPlain_24 : decode b_Mod_isPlain 24 = .ok (.iload_n 0, 1) := by decide +kernel
theorem d_Mod_isPlain_25 : decode b_Mod_isPlain 25 = .ok (.bipush 60, 2) := by decide +kernel
theorem d_Mod_isPlain_27 : decode b_Mod_isPlain 27 = .ok (.if_icmp .eq 9, 3) := by decide +kernel
theorem d_Mod_isPlain_30 : decode b_Mod_isPlain 30 = .ok (.iload_n 0, 1) := by decide +kernel
theorem d_Mod_isPlain_31 : decode b_Mod_isPlain 31 = .ok (.bipush 61, 2) := by decide +kernel
theorem d_Mod_isPlain_33 : decode b_Mod_isPlain 33 = .ok (.if_icmp .ne 7, 3) := by decide +kernel
theorem d_Mod_isPlain_36 : decode b_Mod_isPlain 36 = .ok (.iconst 1, 1) := by decide +kernel
theorem d_Mod_isPlain_37 : decode b_Mod_isPlain 37 = .ok (.goto 4, 3) := by decide +kernel
theorem d_Mod_isPlain_40 : decode b_Mod_isPlain 40 = .ok (.iconst 0, 1) := by decide +kernel
theorem d_Mod_isPlain_41 : decode b_Mod_isPlain 41 = .ok (.ireturn, 1) := by decide +kernel
abbrev y_Mod_isLetter : MethodName := ⟨"FusedEngineModel", "isLetter", "(I)Z"⟩
abbrev b_Mod_isLetter : ByteArray := prog_6_method_6_code
theorem d_Mod_isLetter_0 : decode b_Mod_isLetter 0 = .ok (.iload_n 0, 1) := by decide +kernel
theorem d_Mod_isLetter_1 : decode b_Mod_isLetter 1 = .ok (.invokestatic 57, 3) := by decide +kernel
theorem d_Mod_isLetter_4 : decode b_Mod_isLetter 4 = .ok (.ifCond .ne 75, 3) := by decide +kernel
theorem d_Mod_isLetter_7 : decode b_Mod_isLetter 7 = .ok (.iload_n 0, 1) := by decide +kernel
theorem d_Mod_isLetter_8 : decode b_Mod_isLetter 8 = .ok (.bipush 80, 2) := by decide +kernel
theorem d_Mod_isLetter_10 : decode b_Mod_isLetter 10 = .ok (.if_icmp .eq 69, 3) := by decide +kernel
theorem d_Mod_isLetter_13 : decode b_Mod_isLetter 13 = .ok (.iload_n 0, 1) := by decide +kernel
theorem d_Mod_isLetter_14 : decode b_Mod_isLetter 14 = .ok (.bipush 76, 2) := by decide +kernel
theorem d_Mod_isLetter_16 : decode b_Mod_isLetter 16 = .ok (.if_icmp .eq 63, 3) := by decide +kernel
theorem d_Mod_isLetter_19 : decode b_Mod_isLetter 19 = .ok (.iload_n 0, 1) := by decide +kernel
theorem d_Mod_isLetter_20 : decode b_Mod_isLetter 20 = .ok (.bipush 83, 2) := by decide +kernel
theorem d_Mod_isLetter_22 : decode b_Mod_isLetter 22 = .ok (.if_icmp .eq 57, 3) := by decide +kernel
theorem d_Mod_isLetter_25 : decode b_Mod_isLetter 25 = .ok (.iload_n 0, 1) := by decide +kernel
theorem d_Mod_isLetter_26 : decode b_Mod_isLetter 26 = .ok (.bipush 68, 2) := by decide +kernel
theorem d_Mod_isLetter_28 : decode b_Mod_isLetter 28 = .ok (.if_icmp .eq 51, 3) := by decide +kernel
theorem d_Mod_isLetter_31 : decode b_Mod_isLetter 31 = .ok (.iload_n 0, 1) := by decide +kernel
theorem d_Mod_isLetter_32 : decode b_Mod_isLetter 32 = .ok (.bipush 88, 2) := by decide +kernel
theorem d_Mod_isLetter_34 : decode b_Mod_isLetter 34 = .ok (.if_icmp .eq 45, 3) := by decide +kernel
theorem d_Mod_isLetter_37 : decode b_Mod_isLetter 37 = .ok (.iload_n 0, 1) := by decide +kernel
theorem d_Mod_isLetter_38 : decode b_Mod_isLetter 38 = .ok (.bipush 79, 2) := by decide +kernel
theorem d_Mod_isLetter_40 : decode b_Mod_isLetter 40 = .ok (.if_icmp .eq 39, 3) := by decide +kernel
theorem d_Mod_isLetter_43 : decode b_Mod_isLetter 43 = .ok (.iload_n 0, 1) := by decide +kernel
theorem d_Mod_isLetter_44 : decode b_Mod_isLetter 44 = .ok (.bipush 86, 2) := by decide +kernel
theorem d_Mod_isLetter_46 : decode b_Mod_isLetter 46 = .ok (.if_icmp .eq 33, 3) := by decide +kernel
theorem d_Mod_isLetter_49 : decode b_Mod_isLetter 49 = .ok (.iload_n 0, 1) := by decide +kernel
theorem d_Mod_isLetter_50 : decode b_Mod_isLetter 50 = .ok (.bipush 74, 2) := by decide +kernel
theorem d_Mod_isLetter_52 : decode b_Mod_isLetter 52 = .ok (.if_icmp .eq 27, 3) := by decide +kernel
theorem d_Mod_isLetter_55 : decode b_Mod_isLetter 55 = .ok (.iload_n 0, 1) := by decide +kernel
theorem d_Mod_isLetter_56 : decode b_Mod_isLetter 56 = .ok (.bipush 90, 2) := by decide +kernel
theorem d_Mod_isLetter_58 : decode b_Mod_isLetter 58 = .ok (.if_icmp .eq 21, 3) := by decide +kernel
theorem d_Mod_isLetter_61 : decode b_Mod_isLetter 61 = .ok (.iload_n 0, 1) := by decide +kernel
theorem d_Mod_isLetter_62 : decode b_Mod_isLetter 62 = .ok (.bipush 67, 2) := by decide +kernel
theorem d_Mod_isLetter_64 : decode b_Mod_isLetter 64 = .ok (.if_icmp .eq 15, 3) := by decide +kernel
theorem d_Mod_isLetter_67 : decode b_Mod_isLetter 67 = .ok (.iload_n 0, 1) := by decide +kernel
theorem d_Mod_isLetter_68 : decode b_Mod_isLetter 68 = .ok (.bipush 82, 2) := by decide +kernel
theorem d_Mod_isLetter_70 : decode b_Mod_isLetter 70 = .ok (.if_icmp .eq 9, 3) := by decide +kernel
theorem d_Mod_isLetter_73 : decode b_Mod_isLetter 73 = .ok (.iload_n 0, 1) := by decide +kernel
theorem d_Mod_isLetter_74 : decode b_Mod_isLetter 74 = .ok (.bipush 72, 2) := by decide +kernel
theorem d_Mod_isLetter_76 : decode b_Mod_isLetter 76 = .ok (.if_icmp .ne 7, 3) := by decide +kernel
theorem d_Mod_isLetter_79 : decode b_Mod_isLetter 79 = .ok (.iconst 1, 1) := by decide +kernel
theorem d_Mod_isLetter_80 : decode b_Mod_isLetter 80 = .ok (.goto 4, 3) := by decide +kernel
theorem d_Mod_isLetter_83 : decode b_Mod_isLetter 83 = .ok (.iconst 0, 1) := by decide +kernel
theorem d_Mod_isLetter_84 : decode b_Mod_isLetter 84 = .ok (.ireturn, 1) := by decide +kernel
abbrev y_Mod_leads : MethodName := ⟨"FusedEngineModel", "leads", "(I)Z"⟩
abbrev b_Mod_leads : ByteArray := prog_6_method_7_code
theorem d_Mod_leads_0 : decode b_Mod_leads 0 = .ok (.iload_n 0, 1) := by decide +kernel
theorem d_Mod_leads_1 : decode b_Mod_leads 1 = .ok (.bipush 74, 2) := by decide +kernel
theorem d_Mod_leads_3 : decode b_Mod_leads 3 = .ok (.if_icmp .eq 15, 3) := by decide +kernel
theorem d_Mod_leads_6 : decode b_Mod_leads 6 = .ok (.iload_n 0, 1) := by decide +kernel
theorem d_Mod_leads_7 : decode b_Mod_leads 7 = .ok (.bipush 90, 2) := by decide +kernel
theorem d_Mod_leads_9 : decode b_Mod_leads 9 = .ok (.if_icmp .eq 9, 3) := by decide +kernel
theorem d_Mod_leads_12 : decode b_Mod_leads 12 = .ok (.iload_n 0, 1) := by decide +kernel
theorem d_Mod_leads_13 : decode b_Mod_leads 13 = .ok (.bipush 67, 2) := by decide +kernel
theorem d_Mod_leads_15 : decode b_Mod_leads 15 = .ok (.if_icmp .ne 7, 3) := by decide +kernel
theorem d_Mod_leads_18 : decode b_Mod_leads 18 = .ok (.iconst 1, 1) := by decide +kernel
theorem d_Mod_leads_19 : decode b_Mod_leads 19 = .ok (.goto 4, 3) := by decide +kernel
theorem d_Mod_leads_22 : decode b_Mod_leads 22 = .ok (.iconst 0, 1) := by decide +kernel
theorem d_Mod_leads_23 : decode b_Mod_leads 23 = .ok (.ireturn, 1) := by decide +kernel
abbrev y_Mod_fits : MethodName := ⟨"FusedEngineModel", "fits", "(II)Z"⟩
abbrev b_Mod_fits : ByteArray := prog_6_method_8_code
theorem d_Mod_fits_0 : decode b_Mod_fits 0 = .ok (.iload_n 0, 1) := by decide +kernel
theorem d_Mod_fits_1 : decode b_Mod_fits 1 = .ok (.invokestatic 61, 3) := by decide +kernel
theorem d_Mod_fits_4 : decode b_Mod_fits 4 = .ok (.ifCond .eq 29, 3) := by decide +kernel
theorem d_Mod_fits_7 : decode b_Mod_fits 7 = .ok (.iload_n 0, 1) := by decide +kernel
theorem d_Mod_fits_8 : decode b_Mod_fits 8 = .ok (.bipush 76, 2) := by decide +kernel
theorem d_Mod_fits_10 : decode b_Mod_fits 10 = .ok (.if_icmp .eq 9, 3) := by decide +kernel
theorem d_Mod_fits_13 : decode b_Mod_fits 13 = .ok (.iload_n 0, 1) := by decide +kernel
theorem d_Mod_fits_14 : decode b_Mod_fits 14 = .ok (.bipush 83, 2) := by decide +kernel
theorem d_Mod_fits_16 : decode b_Mod_fits 16 = .ok (.if_icmp .ne 13, 3) := by decide +kernel
theorem d_Mod_fits_19 : decode b_Mod_fits 19 = .ok (.iload_n 1, 1) := by decide +kernel
theorem d_Mod_fits_20 : decode b_Mod_fits 20 = .ok (.iconst 0, 1) := by decide +kernel
theorem d_Mod_fits_21 : decode b_Mod_fits 21 = .ok (.bipush 7, 2) := by decide +kernel
theorem d_Mod_fits_23 : decode b_Mod_fits 23 = .ok (.invokestatic 64, 3) := by decide +kernel
theorem d_Mod_fits_26 : decode b_Mod_fits 26 = .ok (.ifCond .ne 7, 3) := by decide +kernel
theorem d_Mod_fits_29 : decode b_Mod_fits 29 = .ok (.iconst 1, 1) := by decide +kernel
theorem d_Mod_fits_30 : decode b_Mod_fits 30 = .ok (.goto 4, 3) := by decide +kernel
theorem d_Mod_fits_33 : decode b_Mod_fits 33 = .ok (.iconst 0, 1) := by decide +kernel
theorem d_Mod_fits_34 : decode b_Mod_fits 34 = .ok (.ireturn, 1) := by decide +kernel
abbrev y_Mod_begin : MethodName := ⟨"FusedEngineModel", "begin", "()V"⟩
abbrev b_Mod_begin : ByteArray := prog_6_method_9_code
theorem d_Mod_begin_0 : decode b_Mod_begin 0 = .ok (.iconst 0, 1) := by decide +kernel
theorem d_Mod_begin_1 : decode b_Mod_begin 1 = .ok (.istore_n 1, 1) := by decide +kernel
theorem d_Mod_begin_2 : decode b_Mod_begin 2 = .ok (.iload_n 1, 1) := by decide +kernel
theorem d_Mod_begin_3 : decode b_Mod_begin 3 = .ok (.iconst 2, 1) := by decide +kernel
theorem d_Mod_begin_4 : decode b_Mod_begin 4 = .ok (.if_icmp .ge 51, 3) := by decide +kernel
theorem d_Mod_begin_7 : decode b_Mod_begin 7 = .ok (.aload_n 0, 1) := by decide +kernel
theorem d_Mod_begin_8 : decode b_Mod_begin 8 = .ok (.getfield 23, 3) := by decide +kernel
theorem d_Mod_begin_11 : decode b_Mod_begin 11 = .ok (.iload_n 1, 1) := by decide +kernel
theorem d_Mod_begin_12 : decode b_Mod_begin 12 = .ok (.iconst 0, 1) := by decide +kernel
theorem d_Mod_begin_13 : decode b_Mod_begin 13 = .ok (.iastore, 1) := by decide +kernel
theorem d_Mod_begin_14 : decode b_Mod_begin 14 = .ok (.aload_n 0, 1) := by decide +kernel
theorem d_Mod_begin_15 : decode b_Mod_begin 15 = .ok (.getfield 26, 3) := by decide +kernel
theorem d_Mod_begin_18 : decode b_Mod_begin 18 = .ok (.iload_n 1, 1) := by decide +kernel
theorem d_Mod_begin_19 : decode b_Mod_begin 19 = .ok (.iconst 0, 1) := by decide +kernel
theorem d_Mod_begin_20 : decode b_Mod_begin 20 = .ok (.iastore, 1) := by decide +kernel
theorem d_Mod_begin_21 : decode b_Mod_begin 21 = .ok (.aload_n 0, 1) := by decide +kernel
theorem d_Mod_begin_22 : decode b_Mod_begin 22 = .ok (.getfield 29, 3) := by decide +kernel
theorem d_Mod_begin_25 : decode b_Mod_begin 25 = .ok (.iload_n 1, 1) := by decide +kernel
theorem d_Mod_begin_26 : decode b_Mod_begin 26 = .ok (.iconst 0, 1) := by decide +kernel
theorem d_Mod_begin_27 : decode b_Mod_begin 27 = .ok (.iastore, 1) := by decide +kernel
theorem d_Mod_begin_28 : decode b_Mod_begin 28 = .ok (.aload_n 0, 1) := by decide +kernel
theorem d_Mod_begin_29 : decode b_Mod_begin 29 = .ok (.getfield 32, 3) := by decide +kernel
theorem d_Mod_begin_32 : decode b_Mod_begin 32 = .ok (.iload_n 1, 1) := by decide +kernel
theorem d_Mod_begin_33 : decode b_Mod_begin 33 = .ok (.iconst 0, 1) := by decide +kernel
theorem d_Mod_begin_34 : decode b_Mod_begin 34 = .ok (.iastore, 1) := by decide +kernel
theorem d_Mod_begin_35 : decode b_Mod_begin 35 = .ok (.aload_n 0, 1) := by decide +kernel
theorem d_Mod_begin_36 : decode b_Mod_begin 36 = .ok (.getfield 35, 3) := by decide +kernel
theorem d_Mod_begin_39 : decode b_Mod_begin 39 = .ok (.iload_n 1, 1) := by decide +kernel
theorem d_Mod_begin_40 : decode b_Mod_begin 40 = .ok (.iconst 0, 1) := by decide +kernel
theorem d_Mod_begin_41 : decode b_Mod_begin 41 = .ok (.iastore, 1) := by decide +kernel
theorem d_Mod_begin_42 : decode b_Mod_begin 42 = .ok (.aload_n 0, 1) := by decide +kernel
theorem d_Mod_begin_43 : decode b_Mod_begin 43 = .ok (.getfield 38, 3) := by decide +kernel
theorem d_Mod_begin_46 : decode b_Mod_begin 46 = .ok (.iload_n 1, 1) := by decide +kernel
theorem d_Mod_begin_47 : decode b_Mod_begin 47 = .ok (.iconst 0, 1) := by decide +kernel
theorem d_Mod_begin_48 : decode b_Mod_begin 48 = .ok (.iastore, 1) := by decide +kernel
theorem d_Mod_begin_49 : decode b_Mod_begin 49 = .ok (.iinc 1 1, 3) := by decide +kernel
theorem d_Mod_begin_52 : decode b_Mod_begin 52 = .ok (.goto (-50), 3) := by decide +kernel
theorem d_Mod_begin_55 : decode b_Mod_begin 55 = .ok (.iconst 0, 1) := by decide +kernel
theorem d_Mod_begin_56 : decode b_Mod_begin 56 = .ok (.istore_n 1, 1) := by decide +kernel
theorem d_Mod_begin_57 : decode b_Mod_begin 57 = .ok (.iload_n 1, 1) := by decide +kernel
theorem d_Mod_begin_58 : decode b_Mod_begin 58 = .ok (.bipush 16, 2) := by decide +kernel
theorem d_Mod_begin_60 : decode b_Mod_begin 60 = .ok (.if_icmp .ge 16, 3) := by decide +kernel
theorem d_Mod_begin_63 : decode b_Mod_begin 63 = .ok (.aload_n 0, 1) := by decide +kernel
theorem d_Mod_begin_64 : decode b_Mod_begin 64 = .ok (.getfield 44, 3) := by decide +kernel
theorem d_Mod_begin_67 : decode b_Mod_begin 67 = .ok (.iload_n 1, 1) := by decide +kernel
theorem d_Mod_begin_68 : decode b_Mod_begin 68 = .ok (.iconst 0, 1) := by decide +kernel
theorem d_Mod_begin_69 : decode b_Mod_begin 69 = .ok (.iastore, 1) := by decide +kernel
theorem d_Mod_begin_70 : decode b_Mod_begin 70 = .ok (.iinc 1 1, 3) := by decide +kernel
theorem d_Mod_begin_73 : decode b_Mod_begin 73 = .ok (.goto (-16), 3) := by decide +kernel
theorem d_Mod_begin_76 : decode b_Mod_begin 76 = .ok (.return_, 1) := by decide +kernel
abbrev y_Mod_set : MethodName := ⟨"FusedEngineModel", "set", "(III)V"⟩
abbrev b_Mod_set : ByteArray := prog_6_method_10_code
theorem d_Mod_set_0 : decode b_Mod_set 0 = .ok (.aload_n 0, 1) := by decide +kernel
theorem d_Mod_set_1 : decode b_Mod_set 1 = .ok (.getfield 7, 3) := by decide +kernel
theorem d_Mod_set_4 : decode b_Mod_set 4 = .ok (.iload_n 1, 1) := by decide +kernel
theorem d_Mod_set_5 : decode b_Mod_set 5 = .ok (.iload_n 2, 1) := by decide +kernel
theorem d_Mod_set_6 : decode b_Mod_set 6 = .ok (.i2c, 1) := by decide +kernel
theorem d_Mod_set_7 : decode b_Mod_set 7 = .ok (.castore, 1) := by decide +kernel
theorem d_Mod_set_8 : decode b_Mod_set 8 = .ok (.aload_n 0, 1) := by decide +kernel
theorem d_Mod_set_9 : decode b_Mod_set 9 = .ok (.getfield 13, 3) := by decide +kernel
theorem d_Mod_set_12 : decode b_Mod_set 12 = .ok (.iload_n 1, 1) := by decide +kernel
theorem d_Mod_set_13 : decode b_Mod_set 13 = .ok (.iload_n 3, 1) := by decide +kernel
theorem d_Mod_set_14 : decode b_Mod_set 14 = .ok (.iastore, 1) := by decide +kernel
theorem d_Mod_set_15 : decode b_Mod_set 15 = .ok (.aload_n 0, 1) := by decide +kernel
theorem d_Mod_set_16 : decode b_Mod_set 16 = .ok (.iconst 0, 1) := by decide +kernel
theorem d_Mod_set_17 : decode b_Mod_set 17 = .ok (.putfield 68, 3) := by decide +kernel
theorem d_Mod_set_20 : decode b_Mod_set 20 = .ok (.aload_n 0, 1) := by decide +kernel
theorem d_Mod_set_21 : decode b_Mod_set 21 = .ok (.invokevirtual 72, 3) := by decide +kernel
theorem d_Mod_set_24 : decode b_Mod_set 24 = .ok (.return_, 1) := by decide +kernel
abbrev y_Mod_add : MethodName := ⟨"FusedEngineModel", "add", "(II)I"⟩
abbrev b_Mod_add : ByteArray := prog_6_method_11_code
theorem d_Mod_add_0 : decode b_Mod_add 0 = .ok (.aload_n 0, 1) := by decide +kernel
theorem d_Mod_add_1 : decode b_Mod_add 1 = .ok (.iload_n 1, 1) := by decide +kernel
theorem d_Mod_add_2 : decode b_Mod_add 2 = .ok (.iload_n 2, 1) := by decide +kernel
theorem d_Mod_add_3 : decode b_Mod_add 3 = .ok (.invokestatic 75, 3) := by decide +kernel
theorem d_Mod_add_6 : decode b_Mod_add 6 = .ok (.ifCond .ne 7, 3) := by decide +kernel
theorem d_Mod_add_9 : decode b_Mod_add 9 = .ok (.iconst 1, 1) := by decide +kernel
theorem d_Mod_add_10 : decode b_Mod_add 10 = .ok (.goto 17, 3) := by decide +kernel
theorem d_Mod_add_13 : decode b_Mod_add 13 = .ok (.aload_n 0, 1) := by decide +kernel
theorem d_Mod_add_14 : decode b_Mod_add 14 = .ok (.getfield 79, 3) := by decide +kernel
theorem d_Mod_add_17 : decode b_Mod_add 17 = .ok (.bipush 80, 2) := by decide +kernel
theorem d_Mod_add_19 : decode b_Mod_add 19 = .ok (.if_icmp .ne 7, 3) := by decide +kernel
theorem d_Mod_add_22 : decode b_Mod_add 22 = .ok (.iconst 2, 1) := by decide +kernel
theorem d_Mod_add_23 : decode b_Mod_add 23 = .ok (.goto 4, 3) := by decide +kernel
theorem d_Mod_add_26 : decode b_Mod_add 26 = .ok (.iconst 0, 1) := by decide +kernel
theorem d_Mod_add_27 : decode b_Mod_add 27 = .ok (.putfield 53, 3) := by decide +kernel
theorem d_Mod_add_30 : decode b_Mod_add 30 = .ok (.aload_n 0, 1) := by decide +kernel
theorem d_Mod_add_31 : decode b_Mod_add 31 = .ok (.getfield 53, 3) := by decide +kernel
theorem d_Mod_add_34 : decode b_Mod_add 34 = .ok (.ifCond .le 5, 3) := by decide +kernel
theorem d_Mod_add_37 : decode b_Mod_add 37 = .ok (.iconst 0, 1) := by decide +kernel
theorem d_Mod_add_38 : decode b_Mod_add 38 = .ok (.ireturn, 1) := by decide +kernel
theorem d_Mod_add_39 : decode b_Mod_add 39 = .ok (.aload_n 0, 1) := by decide +kernel
theorem d_Mod_add_40 : decode b_Mod_add 40 = .ok (.aload_n 0, 1) := by decide +kernel
theorem d_Mod_add_41 : decode b_Mod_add 41 = .ok (.getfield 79, 3) := by decide +kernel
theorem d_Mod_add_44 : decode b_Mod_add 44 = .ok (.iload_n 1, 1) := by decide +kernel
theorem d_Mod_add_45 : decode b_Mod_add 45 = .ok (.iload_n 2, 1) := by decide +kernel
theorem d_Mod_add_46 : decode b_Mod_add 46 = .ok (.invokevirtual 82, 3) := by decide +kernel
theorem d_Mod_add_49 : decode b_Mod_add 49 = .ok (.aload_n 0, 1) := by decide +kernel
theorem d_Mod_add_50 : decode b_Mod_add 50 = .ok (.dup, 1) := by decide +kernel
theorem d_Mod_add_51 : decode b_Mod_add 51 = .ok (.getfield 79, 3) := by decide +kernel
theorem d_Mod_add_54 : decode b_Mod_add 54 = .ok (.iconst 1, 1) := by decide +kernel
theorem d_Mod_add_55 : decode b_Mod_add 55 = .ok (.iadd, 1) := by decide +kernel
theorem d_Mod_add_56 : decode b_Mod_add 56 = .ok (.putfield 79, 3) := by decide +kernel
theorem d_Mod_add_59 : decode b_Mod_add 59 = .ok (.aload_n 0, 1) := by decide +kernel
theorem d_Mod_add_60 : decode b_Mod_add 60 = .ok (.getfield 79, 3) := by decide +kernel
theorem d_Mod_add_63 : decode b_Mod_add 63 = .ok (.iconst 1, 1) := by decide +kernel
theorem d_Mod_add_64 : decode b_Mod_add 64 = .ok (.isub, 1) := by decide +kernel
theorem d_Mod_add_65 : decode b_Mod_add 65 = .ok (.ireturn, 1) := by decide +kernel
abbrev y_Mod_change : MethodName := ⟨"FusedEngineModel", "change", "(III)V"⟩
abbrev b_Mod_change : ByteArray := prog_6_method_12_code
theorem d_Mod_change_0 : decode b_Mod_change 0 = .ok (.aload_n 0, 1) := by decide +kernel
theorem d_Mod_change_1 : decode b_Mod_change 1 = .ok (.iload_n 1, 1) := by decide +kernel
theorem d_Mod_change_2 : decode b_Mod_change 2 = .ok (.iconst 0, 1) := by decide +kernel
theorem d_Mod_change_3 : decode b_Mod_change 3 = .ok (.aload_n 0, 1) := by decide +kernel
theorem d_Mod_change_4 : decode b_Mod_change 4 = .ok (.getfield 79, 3) := by decide +kernel
theorem d_Mod_change_7 : decode b_Mod_change 7 = .ok (.iconst 1, 1) := by decide +kernel
theorem d_Mod_change_8 : decode b_Mod_change 8 = .ok (.isub, 1) := by decide +kernel
theorem d_Mod_change_9 : decode b_Mod_change 9 = .ok (.invokestatic 64, 3) := by decide +kernel
theorem d_Mod_change_12 : decode b_Mod_change 12 = .ok (.ifCond .eq 7, 3) := by decide +kernel
theorem d_Mod_change_15 : decode b_Mod_change 15 = .ok (.iconst 1, 1) := by decide +kernel
theorem d_Mod_change_16 : decode b_Mod_change 16 = .ok (.goto 16, 3) := by decide +kernel
theorem d_Mod_change_19 : decode b_Mod_change 19 = .ok (.iload_n 2, 1) := by decide +kernel
theorem d_Mod_change_20 : decode b_Mod_change 20 = .ok (.iload_n 3, 1) := by decide +kernel
theorem d_Mod_change_21 : decode b_Mod_change 21 = .ok (.invokestatic 75, 3) := by decide +kernel
theorem d_Mod_change_24 : decode b_Mod_change 24 = .ok (.ifCond .eq 7, 3) := by decide +kernel
theorem d_Mod_change_27 : decode b_Mod_change 27 = .ok (.iconst 0, 1) := by decide +kernel
theorem d_Mod_change_28 : decode b_Mod_change 28 = .ok (.goto 4, 3) := by decide +kernel
theorem d_Mod_change_31 : decode b_Mod_change 31 = .ok (.iconst 2, 1) := by decide +kernel
theorem d_Mod_change_32 : decode b_Mod_change 32 = .ok (.putfield 53, 3) := by decide +kernel
theorem d_Mod_change_35 : decode b_Mod_change 35 = .ok (.aload_n 0, 1) := by decide +kernel
theorem d_Mod_change_36 : decode b_Mod_change 36 = .ok (.getfield 53, 3) := by decide +kernel
theorem d_Mod_change_39 : decode b_Mod_change 39 = .ok (.ifCond .ne 10, 3) := by decide +kernel
theorem d_Mod_change_42 : decode b_Mod_change 42 = .ok (.aload_n 0, 1) := by decide +kernel
theorem d_Mod_change_43 : decode b_Mod_change 43 = .ok (.iload_n 1, 1) := by decide +kernel
theorem d_Mod_change_44 : decode b_Mod_change 44 = .ok (.iload_n 2, 1) := by decide +kernel
theorem d_Mod_change_45 : decode b_Mod_change 45 = .ok (.iload_n 3, 1) := by decide +kernel
theorem d_Mod_change_46 : decode b_Mod_change 46 = .ok (.invokevirtual 82, 3) := by decide +kernel
theorem d_Mod_change_49 : decode b_Mod_change 49 = .ok (.return_, 1) := by decide +kernel
abbrev y_Mod_clear : MethodName := ⟨"FusedEngineModel", "clear", "()V"⟩
abbrev b_Mod_clear : ByteArray := prog_6_method_13_code
theorem d_Mod_clear_0 : decode b_Mod_clear 0 = .ok (.aload_n 0, 1) := by decide +kernel
theorem d_Mod_clear_1 : decode b_Mod_clear 1 = .ok (.iconst 0, 1) := by decide +kernel
theorem d_Mod_clear_2 : decode b_Mod_clear 2 = .ok (.putfield 53, 3) := by decide +kernel
theorem d_Mod_clear_5 : decode b_Mod_clear 5 = .ok (.aload_n 0, 1) := by decide +kernel
theorem d_Mod_clear_6 : decode b_Mod_clear 6 = .ok (.iconst 0, 1) := by decide +kernel
theorem d_Mod_clear_7 : decode b_Mod_clear 7 = .ok (.putfield 79, 3) := by decide +kernel
theorem d_Mod_clear_10 : decode b_Mod_clear 10 = .ok (.aload_n 0, 1) := by decide +kernel
theorem d_Mod_clear_11 : decode b_Mod_clear 11 = .ok (.iconst 0, 1) := by decide +kernel
theorem d_Mod_clear_12 : decode b_Mod_clear 12 = .ok (.putfield 68, 3) := by decide +kernel
theorem d_Mod_clear_15 : decode b_Mod_clear 15 = .ok (.aload_n 0, 1) := by decide +kernel
theorem d_Mod_clear_16 : decode b_Mod_clear 16 = .ok (.invokevirtual 72, 3) := by decide +kernel
theorem d_Mod_clear_19 : decode b_Mod_clear 19 = .ok (.return_, 1) := by decide +kernel
abbrev y_Mod_target : MethodName := ⟨"FusedEngineModel", "target", "(I)Z"⟩
abbrev b_Mod_target : ByteArray := prog_6_method_14_code
theorem d_Mod_target_0 : decode b_Mod_target 0 = .ok (.iload_n 1, 1) := by decide +kernel
theorem d_Mod_target_1 : decode b_Mod_target 1 = .ok (.ifCond .le 20, 3) := by decide +kernel
theorem d_Mod_target_4 : decode b_Mod_target 4 = .ok (.aload_n 0, 1) := by decide +kernel
theorem d_Mod_target_5 : decode b_Mod_target 5 = .ok (.getfield 7, 3) := by decide +kernel
theorem d_Mod_target_8 : decode b_Mod_target 8 = .ok (.iload_n 1, 1) := by decide +kernel
theorem d_Mod_target_9 : decode b_Mod_target 9 = .ok (.iconst 1, 1) := by decide +kernel
theorem d_Mod_target_10 : decode b_Mod_target 10 = .ok (.isub, 1) := by decide +kernel
theorem d_Mod_target_11 : decode b_Mod_target 11 = .ok (.caload, 1) := by decide +kernel
theorem d_Mod_target_12 : decode b_Mod_target 12 = .ok (.bipush 67, 2) := by decide +kernel
theorem d_Mod_target_14 : decode b_Mod_target 14 = .ok (.if_icmp .ne 7, 3) := by decide +kernel
theorem d_Mod_target_17 : decode b_Mod_target 17 = .ok (.iconst 1, 1) := by decide +kernel
theorem d_Mod_target_18 : decode b_Mod_target 18 = .ok (.goto 4, 3) := by decide +kernel
theorem d_Mod_target_21 : decode b_Mod_target 21 = .ok (.iconst 0, 1) := by decide +kernel
theorem d_Mod_target_22 : decode b_Mod_target 22 = .ok (.istore_n 2, 1) := by decide +kernel
theorem d_Mod_target_23 : decode b_Mod_target 23 = .ok (.iconst 0, 1) := by decide +kernel
theorem d_Mod_target_24 : decode b_Mod_target 24 = .ok (.istore_n 3, 1) := by decide +kernel
theorem d_Mod_target_25 : decode b_Mod_target 25 = .ok (.iload_n 3, 1) := by decide +kernel
theorem d_Mod_target_26 : decode b_Mod_target 26 = .ok (.aload_n 0, 1) := by decide +kernel
theorem d_Mod_target_27 : decode b_Mod_target 27 = .ok (.getfield 79, 3) := by decide +kernel
theorem d_Mod_target_30 : decode b_Mod_target 30 = .ok (.if_icmp .ge 41, 3) := by decide +kernel
theorem d_Mod_target_33 : decode b_Mod_target 33 = .ok (.iload_n 2, 1) := by decide +kernel
theorem d_Mod_target_34 : decode b_Mod_target 34 = .ok (.ifCond .ne 25, 3) := by decide +kernel
theorem d_Mod_target_37 : decode b_Mod_target 37 = .ok (.aload_n 0, 1) := by decide +kernel
theorem d_Mod_target_38 : decode b_Mod_target 38 = .ok (.getfield 7, 3) := by decide +kernel
theorem d_Mod_target_41 : decode b_Mod_target 41 = .ok (.iload_n 3, 1) := by decide +kernel
theorem d_Mod_target_42 : decode b_Mod_target 42 = .ok (.caload, 1) := by decide +kernel
theorem d_Mod_target_43 : decode b_Mod_target 43 = .ok (.invokestatic 86, 3) := by decide +kernel
theorem d_Mod_target_46 : decode b_Mod_target 46 = .ok (.ifCond .eq 17, 3) := by decide +kernel
theorem d_Mod_target_49 : decode b_Mod_target 49 = .ok (.aload_n 0, 1) := by decide +kernel
theorem d_Mod_target_50 : decode b_Mod_target 50 = .ok (.getfield 13, 3) := by decide +kernel
theorem d_Mod_target_53 : decode b_Mod_target 53 = .ok (.iload_n 3, 1) := by decide +kernel
theorem d_Mod_target_54 : decode b_Mod_target 54 = .ok (.iaload, 1) := by decide +kernel
theorem d_Mod_target_55 : decode b_Mod_target 55 = .ok (.iload_n 1, 1) := by decide +kernel
theorem d_Mod_target_56 : decode b_Mod_target 56 = .ok (.if_icmp .ne 7, 3) := by decide +kernel
theorem d_Mod_target_59 : decode b_Mod_target 59 = .ok (.iconst 1, 1) := by decide +kernel
theorem d_Mod_target_60 : decode b_Mod_target 60 = .ok (.goto 4, 3) := by decide +kernel
theorem d_Mod_target_63 : decode b_Mod_target 63 = .ok (.iconst 0, 1) := by decide +kernel
theorem d_Mod_target_64 : decode b_Mod_target 64 = .ok (.istore_n 2, 1) := by decide +kernel
theorem d_Mod_target_65 : decode b_Mod_target 65 = .ok (.iinc 3 1, 3) := by decide +kernel
theorem d_Mod_target_68 : decode b_Mod_target 68 = .ok (.goto (-43), 3) := by decide +kernel
theorem d_Mod_target_71 : decode b_Mod_target 71 = .ok (.iload_n 2, 1) := by decide +kernel
theorem d_Mod_target_72 : decode b_Mod_target 72 = .ok (.ireturn, 1) := by decide +kernel
abbrev y_Mod_lengthOf : MethodName := ⟨"FusedEngineModel", "lengthOf", "(I)I"⟩
abbrev b_Mod_lengthOf : ByteArray := prog_6_method_15_code
theorem d_Mod_lengthOf_0 : decode b_Mod_lengthOf 0 = .ok (.iconst 0, 1) := by decide +kernel
theorem d_Mod_lengthOf_1 : decode b_Mod_lengthOf 1 = .ok (.istore_n 2, 1) := by decide +kernel
theorem d_Mod_lengthOf_2 : decode b_Mod_lengthOf 2 = .ok (.iload_n 2, 1) := by decide +kernel
theorem d_Mod_lengthOf_3 : decode b_Mod_lengthOf 3 = .ok (.iconst 4, 1) := by decide +kernel
theorem d_Mod_lengthOf_4 : decode b_Mod_lengthOf 4 = .ok (.if_icmp .ge 22, 3) := by decide +kernel
theorem d_Mod_lengthOf_7 : decode b_Mod_lengthOf 7 = .ok (.aload_n 0, 1) := by decide +kernel
theorem d_Mod_lengthOf_8 : decode b_Mod_lengthOf 8 = .ok (.getfield 20, 3) := by decide +kernel
theorem d_Mod_lengthOf_11 : decode b_Mod_lengthOf 11 = .ok (.iconst 4, 1) := by decide +kernel
theorem d_Mod_lengthOf_12 : decode b_Mod_lengthOf 12 = .ok (.iload_n 1, 1) := by decide +kernel
theorem d_Mod_lengthOf_13 : decode b_Mod_lengthOf 13 = .ok (.imul, 1) := by decide +kernel
theorem d_Mod_lengthOf_14 : decode b_Mod_lengthOf 14 = .ok (.iload_n 2, 1) := by decide +kernel
theorem d_Mod_lengthOf_15 : decode b_Mod_lengthOf 15 = .ok (.iadd, 1) := by decide +kernel
theorem d_Mod_lengthOf_16 : decode b_Mod_lengthOf 16 = .ok (.caload, 1) := by decide +kernel
theorem d_Mod_lengthOf_17 : decode b_Mod_lengthOf 17 = .ok (.ifCond .eq 9, 3) := by decide +kernel
theorem d_Mod_lengthOf_20 : decode b_Mod_lengthOf 20 = .ok (.iinc 2 1, 3) := by decide +kernel
theorem d_Mod_lengthOf_23 : decode b_Mod_lengthOf 23 = .ok (.goto (-21), 3) := by decide +kernel
theorem d_Mod_lengthOf_26 : decode b_Mod_lengthOf 26 = .ok (.iload_n 2, 1) := by decide +kernel
theorem d_Mod_lengthOf_27 : decode b_Mod_lengthOf 27 = .ok (.ireturn, 1) := by decide +kernel
abbrev y_Mod_alike : MethodName := ⟨"FusedEngineModel", "alike", "(II)I"⟩
abbrev b_Mod_alike : ByteArray := prog_6_method_16_code
theorem d_Mod_alike_0 : decode b_Mod_alike 0 = .ok (.iconst 0, 1) := by decide +kernel
theorem d_Mod_alike_1 : decode b_Mod_alike 1 = .ok (.istore_n 3, 1) := by decide +kernel
theorem d_Mod_alike_2 : decode b_Mod_alike 2 = .ok (.iload_n 3, 1) := by decide +kernel
theorem d_Mod_alike_3 : decode b_Mod_alike 3 = .ok (.iconst 4, 1) := by decide +kernel
theorem d_Mod_alike_4 : decode b_Mod_alike 4 = .ok (.if_icmp .ge 54, 3) := by decide +kernel
theorem d_Mod_alike_7 : decode b_Mod_alike 7 = .ok (.iload_n 2, 1) := by decide +kernel
theorem d_Mod_alike_8 : decode b_Mod_alike 8 = .ok (.iload_n 3, 1) := by decide +kernel
theorem d_Mod_alike_9 : decode b_Mod_alike 9 = .ok (.iadd, 1) := by decide +kernel
theorem d_Mod_alike_10 : decode b_Mod_alike 10 = .ok (.aload_n 0, 1) := by decide +kernel
theorem d_Mod_alike_11 : decode b_Mod_alike 11 = .ok (.getfield 79, 3) := by decide +kernel
theorem d_Mod_alike_14 : decode b_Mod_alike 14 = .ok (.if_icmp .ge 44, 3) := by decide +kernel
theorem d_Mod_alike_17 : decode b_Mod_alike 17 = .ok (.aload_n 0, 1) := by decide +kernel
theorem d_Mod_alike_18 : decode b_Mod_alike 18 = .ok (.getfield 7, 3) := by decide +kernel
theorem d_Mod_alike_21 : decode b_Mod_alike 21 = .ok (.iload_n 2, 1) := by decide +kernel
theorem d_Mod_alike_22 : decode b_Mod_alike 22 = .ok (.iload_n 3, 1) := by decide +kernel
theorem d_Mod_alike_23 : decode b_Mod_alike 23 = .ok (.iadd, 1) := by decide +kernel
theorem d_Mod_alike_24 : decode b_Mod_alike 24 = .ok (.caload, 1) := by decide +kernel
theorem d_Mod_alike_25 : decode b_Mod_alike 25 = .ok (.aload_n 0, 1) := by decide +kernel
theorem d_Mod_alike_26 : decode b_Mod_alike 26 = .ok (.getfield 20, 3) := by decide +kernel
theorem d_Mod_alike_29 : decode b_Mod_alike 29 = .ok (.iconst 4, 1) := by decide +kernel
theorem d_Mod_alike_30 : decode b_Mod_alike 30 = .ok (.iload_n 1, 1) := by decide +kernel
theorem d_Mod_alike_31 : decode b_Mod_alike 31 = .ok (.imul, 1) := by decide +kernel
theorem d_Mod_alike_32 : decode b_Mod_alike 32 = .ok (.iload_n 3, 1) := by decide +kernel
theorem d_Mod_alike_33 : decode b_Mod_alike 33 = .ok (.iadd, 1) := by decide +kernel
theorem d_Mod_alike_34 : decode b_Mod_alike 34 = .ok (.caload, 1) := by decide +kernel
theorem d_Mod_alike_35 : decode b_Mod_alike 35 = .ok (.if_icmp .ne 23, 3) := by decide +kernel
theorem d_Mod_alike_38 : decode b_Mod_alike 38 = .ok (.iload_n 3, 1) := by decide +kernel
theorem d_Mod_alike_39 : decode b_Mod_alike 39 = .ok (.ifCond .eq 13, 3) := by decide +kernel
theorem d_Mod_alike_42 : decode b_Mod_alike 42 = .ok (.aload_n 0, 1) := by decide +kernel
theorem d_Mod_alike_43 : decode b_Mod_alike 43 = .ok (.iload_n 2, 1) := by decide +kernel
theorem d_Mod_alike_44 : decode b_Mod_alike 44 = .ok (.iload_n 3, 1) := by decide +kernel
theorem d_Mod_alike_45 : decode b_Mod_alike 45 = .ok (.iadd, 1) := by decide +kernel
theorem d_Mod_alike_46 : decode b_Mod_alike 46 = .ok (.invokevirtual 89, 3) := by decide +kernel
theorem d_Mod_alike_49 : decode b_Mod_alike 49 = .ok (.ifCond .ne 9, 3) := by decide +kernel
theorem d_Mod_alike_52 : decode b_Mod_alike 52 = .ok (.iinc 3 1, 3) := by decide +kernel
theorem d_Mod_alike_55 : decode b_Mod_alike 55 = .ok (.goto (-53), 3) := by decide +kernel
theorem d_Mod_alike_58 : decode b_Mod_alike 58 = .ok (.iload_n 3, 1) := by decide +kernel
theorem d_Mod_alike_59 : decode b_Mod_alike 59 = .ok (.ireturn, 1) := by decide +kernel
abbrev y_Mod_rowAt : MethodName := ⟨"FusedEngineModel", "rowAt", "(I)I"⟩
abbrev b_Mod_rowAt : ByteArray := prog_6_method_17_code
theorem d_Mod_rowAt_0 : decode b_Mod_rowAt 0 = .ok (.iconst (-1), 1) := by decide +kernel
theorem d_Mod_rowAt_1 : decode b_Mod_rowAt 1 = .ok (.istore_n 2, 1) := by decide +kernel
theorem d_Mod_rowAt_2 : decode b_Mod_rowAt 2 = .ok (.bipush 19, 2) := by decide +kernel
theorem d_Mod_rowAt_4 : decode b_Mod_rowAt 4 = .ok (.istore_n 3, 1) := by decide +kernel
theorem d_Mod_rowAt_5 : decode b_Mod_rowAt 5 = .ok (.iload_n 3, 1) := by decide +kernel
theorem d_Mod_rowAt_6 : decode b_Mod_rowAt 6 = .ok (.ifCond .lt 55, 3) := by decide +kernel
theorem d_Mod_rowAt_9 : decode b_Mod_rowAt 9 = .ok (.aload_n 0, 1) := by decide +kernel
theorem d_Mod_rowAt_10 : decode b_Mod_rowAt 10 = .ok (.iload_n 3, 1) := by decide +kernel
theorem d_Mod_rowAt_11 : decode b_Mod_rowAt 11 = .ok (.iload_n 1, 1) := by decide +kernel
theorem d_Mod_rowAt_12 : decode b_Mod_rowAt 12 = .ok (.invokevirtual 92, 3) := by decide +kernel
theorem d_Mod_rowAt_15 : decode b_Mod_rowAt 15 = .ok (.aload_n 0, 1) := by decide +kernel
theorem d_Mod_rowAt_16 : decode b_Mod_rowAt 16 = .ok (.iload_n 3, 1) := by decide +kernel
theorem d_Mod_rowAt_17 : decode b_Mod_rowAt 17 = .ok (.invokevirtual 96, 3) := by decide +kernel
theorem d_Mod_rowAt_20 : decode b_Mod_rowAt 20 = .ok (.if_icmp .ne 7, 3) := by decide +kernel
theorem d_Mod_rowAt_23 : decode b_Mod_rowAt 23 = .ok (.iconst 1, 1) := by decide +kernel
theorem d_Mod_rowAt_24 : decode b_Mod_rowAt 24 = .ok (.goto 4, 3) := by decide +kernel
theorem d_Mod_rowAt_27 : decode b_Mod_rowAt 27 = .ok (.iconst 0, 1) := by decide +kernel
theorem d_Mod_rowAt_28 : decode b_Mod_rowAt 28 = .ok (.istore 4, 2) := by decide +kernel
theorem d_Mod_rowAt_30 : decode b_Mod_rowAt 30 = .ok (.iload 4, 2) := by decide +kernel
theorem d_Mod_rowAt_32 : decode b_Mod_rowAt 32 = .ok (.ifCond .eq 23, 3) := by decide +kernel
theorem d_Mod_rowAt_35 : decode b_Mod_rowAt 35 = .ok (.iload_n 2, 1) := by decide +kernel
theorem d_Mod_rowAt_36 : decode b_Mod_rowAt 36 = .ok (.iconst (-1), 1) := by decide +kernel
theorem d_Mod_rowAt_37 : decode b_Mod_rowAt 37 = .ok (.if_icmp .eq 16, 3) := by decide +kernel
theorem d_Mod_rowAt_40 : decode b_Mod_rowAt 40 = .ok (.aload_n 0, 1) := by decide +kernel
theorem d_Mod_rowAt_41 : decode b_Mod_rowAt 41 = .ok (.iload_n 3, 1) := by decide +kernel
theorem d_Mod_rowAt_42 : decode b_Mod_rowAt 42 = .ok (.invokevirtual 96, 3) := by decide +kernel
theorem d_Mod_rowAt_45 : decode b_Mod_rowAt 45 = .ok (.aload_n 0, 1) := by decide +kernel
theorem d_Mod_rowAt_46 : decode b_Mod_rowAt 46 = .ok (.iload_n 2, 1) := by decide +kernel
theorem d_Mod_rowAt_47 : decode b_Mod_rowAt 47 = .ok (.invokevirtual 96, 3) := by decide +kernel
theorem d_Mod_rowAt_50 : decode b_Mod_rowAt 50 = .ok (.if_icmp .lt 5, 3) := by decide +kernel
theorem d_Mod_rowAt_53 : decode b_Mod_rowAt 53 = .ok (.iload_n 3, 1) := by decide +kernel
theorem d_Mod_rowAt_54 : decode b_Mod_rowAt 54 = .ok (.istore_n 2, 1) := by decide +kernel
theorem d_Mod_rowAt_55 : decode b_Mod_rowAt 55 = .ok (.iinc 3 (-1), 3) := by decide +kernel
theorem d_Mod_rowAt_58 : decode b_Mod_rowAt 58 = .ok (.goto (-53), 3) := by decide +kernel
theorem d_Mod_rowAt_61 : decode b_Mod_rowAt 61 = .ok (.iload_n 2, 1) := by decide +kernel
theorem d_Mod_rowAt_62 : decode b_Mod_rowAt 62 = .ok (.ireturn, 1) := by decide +kernel
abbrev y_Mod_fuse : MethodName := ⟨"FusedEngineModel", "fuse", "()I"⟩
abbrev b_Mod_fuse : ByteArray := prog_6_method_18_code
theorem d_Mod_fuse_0 : decode b_Mod_fuse 0 = .ok (.aload_n 0, 1) := by decide +kernel
theorem d_Mod_fuse_1 : decode b_Mod_fuse 1 = .ok (.iconst 0, 1) := by decide +kernel
theorem d_Mod_fuse_2 : decode b_Mod_fuse 2 = .ok (.putfield 53, 3) := by decide +kernel
theorem d_Mod_fuse_5 : decode b_Mod_fuse 5 = .ok (.iconst 0, 1) := by decide +kernel
theorem d_Mod_fuse_6 : decode b_Mod_fuse 6 = .ok (.istore_n 1, 1) := by decide +kernel
theorem d_Mod_fuse_7 : decode b_Mod_fuse 7 = .ok (.iconst 0, 1) := by decide +kernel
theorem d_Mod_fuse_8 : decode b_Mod_fuse 8 = .ok (.istore_n 2, 1) := by decide +kernel
theorem d_Mod_fuse_9 : decode b_Mod_fuse 9 = .ok (.iconst 0, 1) := by decide +kernel
theorem d_Mod_fuse_10 : decode b_Mod_fuse 10 = .ok (.istore_n 3, 1) := by decide +kernel
theorem d_Mod_fuse_11 : decode b_Mod_fuse 11 = .ok (.iload_n 3, 1) := by decide +kernel
theorem d_Mod_fuse_12 : decode b_Mod_fuse 12 = .ok (.aload_n 0, 1) := by decide +kernel
theorem d_Mod_fuse_13 : decode b_Mod_fuse 13 = .ok (.getfield 79, 3) := by decide +kernel
theorem d_Mod_fuse_16 : decode b_Mod_fuse 16 = .ok (.if_icmp .ge 74, 3) := by decide +kernel
theorem d_Mod_fuse_19 : decode b_Mod_fuse 19 = .ok (.iload_n 2, 1) := by decide +kernel
theorem d_Mod_fuse_20 : decode b_Mod_fuse 20 = .ok (.ifCond .le 8, 3) := by decide +kernel
theorem d_Mod_fuse_23 : decode b_Mod_fuse 23 = .ok (.bipush (-2), 2) := by decide +kernel
theorem d_Mod_fuse_25 : decode b_Mod_fuse 25 = .ok (.goto 8, 3) := by decide +kernel
theorem d_Mod_fuse_28 : decode b_Mod_fuse 28 = .ok (.aload_n 0, 1) := by decide +kernel
theorem d_Mod_fuse_29 : decode b_Mod_fuse 29 = .ok (.iload_n 3, 1) := by decide +kernel
theorem d_Mod_fuse_30 : decode b_Mod_fuse 30 = .ok (.invokevirtual 100, 3) := by decide +kernel
theorem d_Mod_fuse_33 : decode b_Mod_fuse 33 = .ok (.istore 4, 2) := by decide +kernel
theorem d_Mod_fuse_35 : decode b_Mod_fuse 35 = .ok (.aload_n 0, 1) := by decide +kernel
theorem d_Mod_fuse_36 : decode b_Mod_fuse 36 = .ok (.getfield 17, 3) := by decide +kernel
theorem d_Mod_fuse_39 : decode b_Mod_fuse 39 = .ok (.iload_n 3, 1) := by decide +kernel
theorem d_Mod_fuse_40 : decode b_Mod_fuse 40 = .ok (.iload 4, 2) := by decide +kernel
theorem d_Mod_fuse_42 : decode b_Mod_fuse 42 = .ok (.iastore, 1) := by decide +kernel
theorem d_Mod_fuse_43 : decode b_Mod_fuse 43 = .ok (.iload_n 2, 1) := by decide +kernel
theorem d_Mod_fuse_44 : decode b_Mod_fuse 44 = .ok (.ifCond .le 7, 3) := by decide +kernel
theorem d_Mod_fuse_47 : decode b_Mod_fuse 47 = .ok (.iload_n 1, 1) := by decide +kernel
theorem d_Mod_fuse_48 : decode b_Mod_fuse 48 = .ok (.goto 6, 3) := by decide +kernel
theorem d_Mod_fuse_51 : decode b_Mod_fuse 51 = .ok (.iload_n 1, 1) := by decide +kernel
theorem d_Mod_fuse_52 : decode b_Mod_fuse 52 = .ok (.iconst 1, 1) := by decide +kernel
theorem d_Mod_fuse_53 : decode b_Mod_fuse 53 = .ok (.iadd, 1) := by decide +kernel
theorem d_Mod_fuse_54 : decode b_Mod_fuse 54 = .ok (.istore_n 1, 1) := by decide +kernel
theorem d_Mod_fuse_55 : decode b_Mod_fuse 55 = .ok (.iload_n 2, 1) := by decide +kernel
theorem d_Mod_fuse_56 : decode b_Mod_fuse 56 = .ok (.ifCond .le 9, 3) := by decide +kernel
theorem d_Mod_fuse_59 : decode b_Mod_fuse 59 = .ok (.iload_n 2, 1) := by decide +kernel
theorem d_Mod_fuse_60 : decode b_Mod_fuse 60 = .ok (.iconst 1, 1) := by decide +kernel
theorem d_Mod_fuse_61 : decode b_Mod_fuse 61 = .ok (.isub, 1) := by decide +kernel
theorem d_Mod_fuse_62 : decode b_Mod_fuse 62 = .ok (.goto 21, 3) := by decide +kernel
theorem d_Mod_fuse_65 : decode b_Mod_fuse 65 = .ok (.iload 4, 2) := by decide +kernel
theorem d_Mod_fuse_67 : decode b_Mod_fuse 67 = .ok (.iconst (-1), 1) := by decide +kernel
theorem d_Mod_fuse_68 : decode b_Mod_fuse 68 = .ok (.if_icmp .ne 7, 3) := by decide +kernel
theorem d_Mod_fuse_71 : decode b_Mod_fuse 71 = .ok (.iconst 0, 1) := by decide +kernel
theorem d_Mod_fuse_72 : decode b_Mod_fuse 72 = .ok (.goto 11, 3) := by decide +kernel
theorem d_Mod_fuse_75 : decode b_Mod_fuse 75 = .ok (.aload_n 0, 1) := by decide +kernel
theorem d_Mod_fuse_76 : decode b_Mod_fuse 76 = .ok (.iload 4, 2) := by decide +kernel
theorem d_Mod_fuse_78 : decode b_Mod_fuse 78 = .ok (.invokevirtual 96, 3) := by decide +kernel
theorem d_Mod_fuse_81 : decode b_Mod_fuse 81 = .ok (.iconst 1, 1) := by decide +kernel
theorem d_Mod_fuse_82 : decode b_Mod_fuse 82 = .ok (.isub, 1) := by decide +kernel
theorem d_Mod_fuse_83 : decode b_Mod_fuse 83 = .ok (.istore_n 2, 1) := by decide +kernel
theorem d_Mod_fuse_84 : decode b_Mod_fuse 84 = .ok (.iinc 3 1, 3) := by decide +kernel
theorem d_Mod_fuse_87 : decode b_Mod_fuse 87 = .ok (.goto (-76), 3) := by decide +kernel
theorem d_Mod_fuse_90 : decode b_Mod_fuse 90 = .ok (.aload_n 0, 1) := by decide +kernel
theorem d_Mod_fuse_91 : decode b_Mod_fuse 91 = .ok (.iconst 1, 1) := by decide +kernel
theorem d_Mod_fuse_92 : decode b_Mod_fuse 92 = .ok (.putfield 68, 3) := by decide +kernel
theorem d_Mod_fuse_95 : decode b_Mod_fuse 95 = .ok (.aload_n 0, 1) := by decide +kernel
theorem d_Mod_fuse_96 : decode b_Mod_fuse 96 = .ok (.invokevirtual 72, 3) := by decide +kernel
theorem d_Mod_fuse_99 : decode b_Mod_fuse 99 = .ok (.iload_n 1, 1) := by decide +kernel
theorem d_Mod_fuse_100 : decode b_Mod_fuse 100 = .ok (.ireturn, 1) := by decide +kernel
abbrev y_Mod_look : MethodName := ⟨"FusedEngineModel", "look", "(II)I"⟩
abbrev b_Mod_look : ByteArray := prog_6_method_19_code
theorem d_Mod_look_0 : decode b_Mod_look 0 = .ok (.iload_n 1, 1) := by decide +kernel
theorem d_Mod_look_1 : decode b_Mod_look 1 = .ok (.iconst 0, 1) := by decide +kernel
theorem d_Mod_look_2 : decode b_Mod_look 2 = .ok (.aload_n 0, 1) := by decide +kernel
theorem d_Mod_look_3 : decode b_Mod_look 3 = .ok (.getfield 79, 3) := by decide +kernel
theorem d_Mod_look_6 : decode b_Mod_look 6 = .ok (.iconst 1, 1) := by decide +kernel
theorem d_Mod_look_7 : decode b_Mod_look 7 = .ok (.isub, 1) := by decide +kernel
theorem d_Mod_look_8 : decode b_Mod_look 8 = .ok (.invokestatic 64, 3) := by decide +kernel
theorem d_Mod_look_11 : decode b_Mod_look 11 = .ok (.ifCond .ne 24, 3) := by decide +kernel
theorem d_Mod_look_14 : decode b_Mod_look 14 = .ok (.iload_n 2, 1) := by decide +kernel
theorem d_Mod_look_15 : decode b_Mod_look 15 = .ok (.iconst 0, 1) := by decide +kernel
theorem d_Mod_look_16 : decode b_Mod_look 16 = .ok (.iconst 3, 1) := by decide +kernel
theorem d_Mod_look_17 : decode b_Mod_look 17 = .ok (.invokestatic 64, 3) := by decide +kernel
theorem d_Mod_look_20 : decode b_Mod_look 20 = .ok (.ifCond .ne 15, 3) := by decide +kernel
theorem d_Mod_look_23 : decode b_Mod_look 23 = .ok (.iload_n 2, 1) := by decide +kernel
theorem d_Mod_look_24 : decode b_Mod_look 24 = .ok (.iconst 2, 1) := by decide +kernel
theorem d_Mod_look_25 : decode b_Mod_look 25 = .ok (.if_icmp .ne 16, 3) := by decide +kernel
theorem d_Mod_look_28 : decode b_Mod_look 28 = .ok (.aload_n 0, 1) := by decide +kernel
theorem d_Mod_look_29 : decode b_Mod_look 29 = .ok (.getfield 68, 3) := by decide +kernel
theorem d_Mod_look_32 : decode b_Mod_look 32 = .ok (.ifCond .ne 9, 3) := by decide +kernel
theorem d_Mod_look_35 : decode b_Mod_look 35 = .ok (.aload_n 0, 1) := by decide +kernel
theorem d_Mod_look_36 : decode b_Mod_look 36 = .ok (.iconst 1, 1) := by decide +kernel
theorem d_Mod_look_37 : decode b_Mod_look 37 = .ok (.invokevirtual 103, 3) := by decide +kernel
theorem d_Mod_look_40 : decode b_Mod_look 40 = .ok (.ireturn, 1) := by decide +kernel
theorem d_Mod_look_41 : decode b_Mod_look 41 = .ok (.aload_n 0, 1) := by decide +kernel
theorem d_Mod_look_42 : decode b_Mod_look 42 = .ok (.iconst 0, 1) := by decide +kernel
theorem d_Mod_look_43 : decode b_Mod_look 43 = .ok (.putfield 53, 3) := by decide +kernel
theorem d_Mod_look_46 : decode b_Mod_look 46 = .ok (.iload_n 2, 1) := by decide +kernel
theorem d_Mod_look_47 : decode b_Mod_look 47 = .ok (.ifCond .ne 12, 3) := by decide +kernel
theorem d_Mod_look_50 : decode b_Mod_look 50 = .ok (.aload_n 0, 1) := by decide +kernel
theorem d_Mod_look_51 : decode b_Mod_look 51 = .ok (.getfield 7, 3) := by decide +kernel
theorem d_Mod_look_54 : decode b_Mod_look 54 = .ok (.iload_n 1, 1) := by decide +kernel
theorem d_Mod_look_55 : decode b_Mod_look 55 = .ok (.caload, 1) := by decide +kernel
theorem d_Mod_look_56 : decode b_Mod_look 56 = .ok (.goto 44, 3) := by decide +kernel
theorem d_Mod_look_59 : decode b_Mod_look 59 = .ok (.iload_n 2, 1) := by decide +kernel
theorem d_Mod_look_60 : decode b_Mod_look 60 = .ok (.iconst 1, 1) := by decide +kernel
theorem d_Mod_look_61 : decode b_Mod_look 61 = .ok (.if_icmp .ne 12, 3) := by decide +kernel
theorem d_Mod_look_64 : decode b_Mod_look 64 = .ok (.aload_n 0, 1) := by decide +kernel
theorem d_Mod_look_65 : decode b_Mod_look 65 = .ok (.getfield 13, 3) := by decide +kernel
theorem d_Mod_look_68 : decode b_Mod_look 68 = .ok (.iload_n 1, 1) := by decide +kernel
theorem d_Mod_look_69 : decode b_Mod_look 69 = .ok (.iaload, 1) := by decide +kernel
theorem d_Mod_look_70 : decode b_Mod_look 70 = .ok (.goto 30, 3) := by decide +kernel
theorem d_Mod_look_73 : decode b_Mod_look 73 = .ok (.iload_n 2, 1) := by decide +kernel
theorem d_Mod_look_74 : decode b_Mod_look 74 = .ok (.iconst 2, 1) := by decide +kernel
theorem d_Mod_look_75 : decode b_Mod_look 75 = .ok (.if_icmp .ne 12, 3) := by decide +kernel
theorem d_Mod_look_78 : decode b_Mod_look 78 = .ok (.aload_n 0, 1) := by decide +kernel
theorem d_Mod_look_79 : decode b_Mod_look 79 = .ok (.getfield 17, 3) := by decide +kernel
theorem d_Mod_look_82 : decode b_Mod_look 82 = .ok (.iload_n 1, 1) := by decide +kernel
theorem d_Mod_look_83 : decode b_Mod_look 83 = .ok (.iaload, 1) := by decide +kernel
theorem d_Mod_look_84 : decode b_Mod_look 84 = .ok (.goto 16, 3) := by decide +kernel
theorem d_Mod_look_87 : decode b_Mod_look 87 = .ok (.aload_n 0, 1) := by decide +kernel
theorem d_Mod_look_88 : decode b_Mod_look 88 = .ok (.iload_n 1, 1) := by decide +kernel
theorem d_Mod_look_89 : decode b_Mod_look 89 = .ok (.invokevirtual 89, 3) := by decide +kernel
theorem d_Mod_look_92 : decode b_Mod_look 92 = .ok (.ifCond .eq 7, 3) := by decide +kernel
theorem d_Mod_look_95 : decode b_Mod_look 95 = .ok (.iconst 1, 1) := by decide +kernel
theorem d_Mod_look_96 : decode b_Mod_look 96 = .ok (.goto 4, 3) := by decide +kernel
theorem d_Mod_look_99 : decode b_Mod_look 99 = .ok (.iconst 0, 1) := by decide +kernel
theorem d_Mod_look_100 : decode b_Mod_look 100 = .ok (.ireturn, 1) := by decide +kernel
abbrev y_Mod_takes : MethodName := ⟨"FusedEngineModel", "takes", "(I)I"⟩
abbrev b_Mod_takes : ByteArray := prog_6_method_20_code
theorem d_Mod_takes_0 : decode b_Mod_takes 0 = .ok (.iload_n 1, 1) := by decide +kernel
theorem d_Mod_takes_1 : decode b_Mod_takes 1 = .ok (.invokestatic 57, 3) := by decide +kernel
theorem d_Mod_takes_4 : decode b_Mod_takes 4 = .ok (.ifCond .ne 9, 3) := by decide +kernel
theorem d_Mod_takes_7 : decode b_Mod_takes 7 = .ok (.iload_n 1, 1) := by decide +kernel
theorem d_Mod_takes_8 : decode b_Mod_takes 8 = .ok (.bipush 88, 2) := by decide +kernel
theorem d_Mod_takes_10 : decode b_Mod_takes 10 = .ok (.if_icmp .ne 7, 3) := by decide +kernel
theorem d_Mod_takes_13 : decode b_Mod_takes 13 = .ok (.iconst 2, 1) := by decide +kernel
theorem d_Mod_takes_14 : decode b_Mod_takes 14 = .ok (.goto 38, 3) := by decide +kernel
theorem d_Mod_takes_17 : decode b_Mod_takes 17 = .ok (.iload_n 1, 1) := by decide +kernel
theorem d_Mod_takes_18 : decode b_Mod_takes 18 = .ok (.bipush 83, 2) := by decide +kernel
theorem d_Mod_takes_20 : decode b_Mod_takes 20 = .ok (.if_icmp .eq 27, 3) := by decide +kernel
theorem d_Mod_takes_23 : decode b_Mod_takes 23 = .ok (.iload_n 1, 1) := by decide +kernel
theorem d_Mod_takes_24 : decode b_Mod_takes 24 = .ok (.bipush 68, 2) := by decide +kernel
theorem d_Mod_takes_26 : decode b_Mod_takes 26 = .ok (.if_icmp .eq 21, 3) := by decide +kernel
theorem d_Mod_takes_29 : decode b_Mod_takes 29 = .ok (.iload_n 1, 1) := by decide +kernel
theorem d_Mod_takes_30 : decode b_Mod_takes 30 = .ok (.bipush 79, 2) := by decide +kernel
theorem d_Mod_takes_32 : decode b_Mod_takes 32 = .ok (.if_icmp .eq 15, 3) := by decide +kernel
theorem d_Mod_takes_35 : decode b_Mod_takes 35 = .ok (.iload_n 1, 1) := by decide +kernel
theorem d_Mod_takes_36 : decode b_Mod_takes 36 = .ok (.bipush 86, 2) := by decide +kernel
theorem d_Mod_takes_38 : decode b_Mod_takes 38 = .ok (.if_icmp .eq 9, 3) := by decide +kernel
theorem d_Mod_takes_41 : decode b_Mod_takes 41 = .ok (.iload_n 1, 1) := by decide +kernel
theorem d_Mod_takes_42 : decode b_Mod_takes 42 = .ok (.bipush 90, 2) := by decide +kernel
theorem d_Mod_takes_44 : decode b_Mod_takes 44 = .ok (.if_icmp .ne 7, 3) := by decide +kernel
theorem d_Mod_takes_47 : decode b_Mod_takes 47 = .ok (.iconst 1, 1) := by decide +kernel
theorem d_Mod_takes_48 : decode b_Mod_takes 48 = .ok (.goto 4, 3) := by decide +kernel
theorem d_Mod_takes_51 : decode b_Mod_takes 51 = .ok (.iconst 0, 1) := by decide +kernel
theorem d_Mod_takes_52 : decode b_Mod_takes 52 = .ok (.ireturn, 1) := by decide +kernel
abbrev y_Mod_trap : MethodName := ⟨"FusedEngineModel", "trap", "(II)I"⟩
abbrev b_Mod_trap : ByteArray := prog_6_method_21_code
theorem d_Mod_trap_0 : decode b_Mod_trap 0 = .ok (.aload_n 0, 1) := by decide +kernel
theorem d_Mod_trap_1 : decode b_Mod_trap 1 = .ok (.getfield 26, 3) := by decide +kernel
theorem d_Mod_trap_4 : decode b_Mod_trap 4 = .ok (.iload_n 1, 1) := by decide +kernel
theorem d_Mod_trap_5 : decode b_Mod_trap 5 = .ok (.iaload, 1) := by decide +kernel
theorem d_Mod_trap_6 : decode b_Mod_trap 6 = .ok (.aload_n 0, 1) := by decide +kernel
theorem d_Mod_trap_7 : decode b_Mod_trap 7 = .ok (.iload_n 2, 1) := by decide +kernel
theorem d_Mod_trap_8 : decode b_Mod_trap 8 = .ok (.invokevirtual 106, 3) := by decide +kernel
theorem d_Mod_trap_11 : decode b_Mod_trap 11 = .ok (.if_icmp .lt 18, 3) := by decide +kernel
theorem d_Mod_trap_14 : decode b_Mod_trap 14 = .ok (.iload_n 2, 1) := by decide +kernel
theorem d_Mod_trap_15 : decode b_Mod_trap 15 = .ok (.bipush 82, 2) := by decide +kernel
theorem d_Mod_trap_17 : decode b_Mod_trap 17 = .ok (.if_icmp .ne 14, 3) := by decide +kernel
theorem d_Mod_trap_20 : decode b_Mod_trap 20 = .ok (.aload_n 0, 1) := by decide +kernel
theorem d_Mod_trap_21 : decode b_Mod_trap 21 = .ok (.getfield 29, 3) := by decide +kernel
theorem d_Mod_trap_24 : decode b_Mod_trap 24 = .ok (.iload_n 1, 1) := by decide +kernel
theorem d_Mod_trap_25 : decode b_Mod_trap 25 = .ok (.iaload, 1) := by decide +kernel
theorem d_Mod_trap_26 : decode b_Mod_trap 26 = .ok (.ifCond .ne 5, 3) := by decide +kernel
theorem d_Mod_trap_29 : decode b_Mod_trap 29 = .ok (.iconst 1, 1) := by decide +kernel
theorem d_Mod_trap_30 : decode b_Mod_trap 30 = .ok (.ireturn, 1) := by decide +kernel
theorem d_Mod_trap_31 : decode b_Mod_trap 31 = .ok (.iload_n 2, 1) := by decide +kernel
theorem d_Mod_trap_32 : decode b_Mod_trap 32 = .ok (.bipush 80, 2) := by decide +kernel
theorem d_Mod_trap_34 : decode b_Mod_trap 34 = .ok (.if_icmp .eq 15, 3) := by decide +kernel
theorem d_Mod_trap_37 : decode b_Mod_trap 37 = .ok (.iload_n 2, 1) := by decide +kernel
theorem d_Mod_trap_38 : decode b_Mod_trap 38 = .ok (.bipush 76, 2) := by decide +kernel
theorem d_Mod_trap_40 : decode b_Mod_trap 40 = .ok (.if_icmp .eq 9, 3) := by decide +kernel
theorem d_Mod_trap_43 : decode b_Mod_trap 43 = .ok (.iload_n 2, 1) := by decide +kernel
theorem d_Mod_trap_44 : decode b_Mod_trap 44 = .ok (.bipush 68, 2) := by decide +kernel
theorem d_Mod_trap_46 : decode b_Mod_trap 46 = .ok (.if_icmp .ne 7, 3) := by decide +kernel
theorem d_Mod_trap_49 : decode b_Mod_trap 49 = .ok (.iconst 1, 1) := by decide +kernel
theorem d_Mod_trap_50 : decode b_Mod_trap 50 = .ok (.goto 4, 3) := by decide +kernel
theorem d_Mod_trap_53 : decode b_Mod_trap 53 = .ok (.iconst 0, 1) := by decide +kernel
theorem d_Mod_trap_54 : decode b_Mod_trap 54 = .ok (.istore_n 3, 1) := by decide +kernel
theorem d_Mod_trap_55 : decode b_Mod_trap 55 = .ok (.iload_n 3, 1) := by decide +kernel
theorem d_Mod_trap_56 : decode b_Mod_trap 56 = .ok (.ifCond .eq 14, 3) := by decide +kernel
theorem d_Mod_trap_59 : decode b_Mod_trap 59 = .ok (.aload_n 0, 1) := by decide +kernel
theorem d_Mod_trap_60 : decode b_Mod_trap 60 = .ok (.getfield 26, 3) := by decide +kernel
theorem d_Mod_trap_63 : decode b_Mod_trap 63 = .ok (.iload_n 1, 1) := by decide +kernel
theorem d_Mod_trap_64 : decode b_Mod_trap 64 = .ok (.iaload, 1) := by decide +kernel
theorem d_Mod_trap_65 : decode b_Mod_trap 65 = .ok (.bipush 40, 2) := by decide +kernel
theorem d_Mod_trap_67 : decode b_Mod_trap 67 = .ok (.if_icmp .eq 20, 3) := by decide +kernel
theorem d_Mod_trap_70 : decode b_Mod_trap 70 = .ok (.iload_n 2, 1) := by decide +kernel
theorem d_Mod_trap_71 : decode b_Mod_trap 71 = .ok (.bipush 67, 2) := by decide +kernel
theorem d_Mod_trap_73 : decode b_Mod_trap 73 = .ok (.if_icmp .ne 16, 3) := by decide +kernel
theorem d_Mod_trap_76 : decode b_Mod_trap 76 = .ok (.aload_n 0, 1) := by decide +kernel
theorem d_Mod_trap_77 : decode b_Mod_trap 77 = .ok (.getfield 29, 3) := by decide +kernel
theorem d_Mod_trap_80 : decode b_Mod_trap 80 = .ok (.iload_n 1, 1) := by decide +kernel
theorem d_Mod_trap_81 : decode b_Mod_trap 81 = .ok (.iaload, 1) := by decide +kernel
theorem d_Mod_trap_82 : decode b_Mod_trap 82 = .ok (.bipush 10, 2) := by decide +kernel
theorem d_Mod_trap_84 : decode b_Mod_trap 84 = .ok (.if_icmp .ne 5, 3) := by decide +kernel
theorem d_Mod_trap_87 : decode b_Mod_trap 87 = .ok (.iconst 2, 1) := by decide +kernel
theorem d_Mod_trap_88 : decode b_Mod_trap 88 = .ok (.ireturn, 1) := by decide +kernel
theorem d_Mod_trap_89 : decode b_Mod_trap 89 = .ok (.iload_n 2, 1) := by decide +kernel
theorem d_Mod_trap_90 : decode b_Mod_trap 90 = .ok (.bipush 47, 2) := by decide +kernel
theorem d_Mod_trap_92 : decode b_Mod_trap 92 = .ok (.if_icmp .ne 28, 3) := by decide +kernel
theorem d_Mod_trap_95 : decode b_Mod_trap 95 = .ok (.aload_n 0, 1) := by decide +kernel
theorem d_Mod_trap_96 : decode b_Mod_trap 96 = .ok (.getfield 41, 3) := by decide +kernel
theorem d_Mod_trap_99 : decode b_Mod_trap 99 = .ok (.bipush 40, 2) := by decide +kernel
theorem d_Mod_trap_101 : decode b_Mod_trap 101 = .ok (.iload_n 1, 1) := by decide +kernel
theorem d_Mod_trap_102 : decode b_Mod_trap 102 = .ok (.imul, 1) := by decide +kernel
theorem d_Mod_trap_103 : decode b_Mod_trap 103 = .ok (.aload_n 0, 1) := by decide +kernel
theorem d_Mod_trap_104 : decode b_Mod_trap 104 = .ok (.getfield 26, 3) := by decide +kernel
theorem d_Mod_trap_107 : decode b_Mod_trap 107 = .ok (.iload_n 1, 1) := by decide +kernel
theorem d_Mod_trap_108 : decode b_Mod_trap 108 = .ok (.iaload, 1) := by decide +kernel
theorem d_Mod_trap_109 : decode b_Mod_trap 109 = .ok (.iadd, 1) := by decide +kernel
theorem d_Mod_trap_110 : decode b_Mod_trap 110 = .ok (.iconst 1, 1) := by decide +kernel
theorem d_Mod_trap_111 : decode b_Mod_trap 111 = .ok (.isub, 1) := by decide +kernel
theorem d_Mod_trap_112 : decode b_Mod_trap 112 = .ok (.iaload, 1) := by decide +kernel
theorem d_Mod_trap_113 : decode b_Mod_trap 113 = .ok (.ifCond .ne 7, 3) := by decide +kernel
theorem d_Mod_trap_116 : decode b_Mod_trap 116 = .ok (.iconst 3, 1) := by decide +kernel
theorem d_Mod_trap_117 : decode b_Mod_trap 117 = .ok (.goto 4, 3) := by decide +kernel
theorem d_Mod_trap_120 : decode b_Mod_trap 120 = .ok (.iconst 0, 1) := by decide +kernel
theorem d_Mod_trap_121 : decode b_Mod_trap 121 = .ok (.ireturn, 1) := by decide +kernel
abbrev y_Mod_push : MethodName := ⟨"FusedEngineModel", "push", "(II)V"⟩
abbrev b_Mod_push : ByteArray := prog_6_method_22_code
theorem d_Mod_push_0 : decode b_Mod_push 0 = .ok (.aload_n 0, 1) := by decide +kernel
theorem d_Mod_push_1 : decode b_Mod_push 1 = .ok (.getfield 41, 3) := by decide +kernel
theorem d_Mod_push_4 : decode b_Mod_push 4 = .ok (.bipush 40, 2) := by decide +kernel
theorem d_Mod_push_6 : decode b_Mod_push 6 = .ok (.iload_n 1, 1) := by decide +kernel
theorem d_Mod_push_7 : decode b_Mod_push 7 = .ok (.imul, 1) := by decide +kernel
theorem d_Mod_push_8 : decode b_Mod_push 8 = .ok (.aload_n 0, 1) := by decide +kernel
theorem d_Mod_push_9 : decode b_Mod_push 9 = .ok (.getfield 26, 3) := by decide +kernel
theorem d_Mod_push_12 : decode b_Mod_push 12 = .ok (.iload_n 1, 1) := by decide +kernel
theorem d_Mod_push_13 : decode b_Mod_push 13 = .ok (.iaload, 1) := by decide +kernel
theorem d_Mod_push_14 : decode b_Mod_push 14 = .ok (.iadd, 1) := by decide +kernel
theorem d_Mod_push_15 : decode b_Mod_push 15 = .ok (.iload_n 2, 1) := by decide +kernel
theorem d_Mod_push_16 : decode b_Mod_push 16 = .ok (.iastore, 1) := by decide +kernel
theorem d_Mod_push_17 : decode b_Mod_push 17 = .ok (.aload_n 0, 1) := by decide +kernel
theorem d_Mod_push_18 : decode b_Mod_push 18 = .ok (.getfield 26, 3) := by decide +kernel
theorem d_Mod_push_21 : decode b_Mod_push 21 = .ok (.iload_n 1, 1) := by decide +kernel
theorem d_Mod_push_22 : decode b_Mod_push 22 = .ok (.dup2, 1) := by decide +kernel
theorem d_Mod_push_23 : decode b_Mod_push 23 = .ok (.iaload, 1) := by decide +kernel
theorem d_Mod_push_24 : decode b_Mod_push 24 = .ok (.iconst 1, 1) := by decide +kernel
theorem d_Mod_push_25 : decode b_Mod_push 25 = .ok (.iadd, 1) := by decide +kernel
theorem d_Mod_push_26 : decode b_Mod_push 26 = .ok (.iastore, 1) := by decide +kernel
theorem d_Mod_push_27 : decode b_Mod_push 27 = .ok (.return_, 1) := by decide +kernel
abbrev y_Mod_pop : MethodName := ⟨"FusedEngineModel", "pop", "(I)I"⟩
abbrev b_Mod_pop : ByteArray := prog_6_method_23_code
theorem d_Mod_pop_0 : decode b_Mod_pop 0 = .ok (.aload_n 0, 1) := by decide +kernel
theorem d_Mod_pop_1 : decode b_Mod_pop 1 = .ok (.getfield 26, 3) := by decide +kernel
theorem d_Mod_pop_4 : decode b_Mod_pop 4 = .ok (.iload_n 1, 1) := by decide +kernel
theorem d_Mod_pop_5 : decode b_Mod_pop 5 = .ok (.dup2, 1) := by decide +kernel
theorem d_Mod_pop_6 : decode b_Mod_pop 6 = .ok (.iaload, 1) := by decide +kernel
theorem d_Mod_pop_7 : decode b_Mod_pop 7 = .ok (.iconst 1, 1) := by decide +kernel
theorem d_Mod_pop_8 : decode b_Mod_pop 8 = .ok (.isub, 1) := by decide +kernel
theorem d_Mod_pop_9 : decode b_Mod_pop 9 = .ok (.iastore, 1) := by decide +kernel
theorem d_Mod_pop_10 : decode b_Mod_pop 10 = .ok (.aload_n 0, 1) := by decide +kernel
theorem d_Mod_pop_11 : decode b_Mod_pop 11 = .ok (.getfield 41, 3) := by decide +kernel
theorem d_Mod_pop_14 : decode b_Mod_pop 14 = .ok (.bipush 40, 2) := by decide +kernel
theorem d_Mod_pop_16 : decode b_Mod_pop 16 = .ok (.iload_n 1, 1) := by decide +kernel
theorem d_Mod_pop_17 : decode b_Mod_pop 17 = .ok (.imul, 1) := by decide +kernel
theorem d_Mod_pop_18 : decode b_Mod_pop 18 = .ok (.aload_n 0, 1) := by decide +kernel
theorem d_Mod_pop_19 : decode b_Mod_pop 19 = .ok (.getfield 26, 3) := by decide +kernel
theorem d_Mod_pop_22 : decode b_Mod_pop 22 = .ok (.iload_n 1, 1) := by decide +kernel
theorem d_Mod_pop_23 : decode b_Mod_pop 23 = .ok (.iaload, 1) := by decide +kernel
theorem d_Mod_pop_24 : decode b_Mod_pop 24 = .ok (.iadd, 1) := by decide +kernel
theorem d_Mod_pop_25 : decode b_Mod_pop 25 = .ok (.iaload, 1) := by decide +kernel
theorem d_Mod_pop_26 : decode b_Mod_pop 26 = .ok (.ireturn, 1) := by decide +kernel
abbrev y_Mod_reckon : MethodName := ⟨"FusedEngineModel", "reckon", "(III)I"⟩
abbrev b_Mod_reckon : ByteArray := prog_6_method_24_code
theorem d_Mod_reckon_0 : decode b_Mod_reckon 0 = .ok (.iload_n 0, 1) := by decide +kernel
theorem d_Mod_reckon_1 : decode b_Mod_reckon 1 = .ok (.lookupswitch 78 #[(42, 59), (43, 51), (45, 55), (47, 63), (60, 67)], 51) := by decide +kernel
theorem d_Mod_reckon_52 : decode b_Mod_reckon 52 = .ok (.iload_n 1, 1) := by decide +kernel
theorem d_Mod_reckon_53 : decode b_Mod_reckon 53 = .ok (.iload_n 2, 1) := by decide +kernel
theorem d_Mod_reckon_54 : decode b_Mod_reckon 54 = .ok (.iadd, 1) := by decide +kernel
theorem d_Mod_reckon_55 : decode b_Mod_reckon 55 = .ok (.ireturn, 1) := by decide +kernel
theorem d_Mod_reckon_56 : decode b_Mod_reckon 56 = .ok (.iload_n 1, 1) := by decide +kernel
theorem d_Mod_reckon_57 : decode b_Mod_reckon 57 = .ok (.iload_n 2, 1) := by decide +kernel
theorem d_Mod_reckon_58 : decode b_Mod_reckon 58 = .ok (.isub, 1) := by decide +kernel
theorem d_Mod_reckon_59 : decode b_Mod_reckon 59 = .ok (.ireturn, 1) := by decide +kernel
theorem d_Mod_reckon_60 : decode b_Mod_reckon 60 = .ok (.iload_n 1, 1) := by decide +kernel
theorem d_Mod_reckon_61 : decode b_Mod_reckon 61 = .ok (.iload_n 2, 1) := by decide +kernel
theorem d_Mod_reckon_62 : decode b_Mod_reckon 62 = .ok (.imul, 1) := by decide +kernel
theorem d_Mod_reckon_63 : decode b_Mod_reckon 63 = .ok (.ireturn, 1) := by decide +kernel
theorem d_Mod_reckon_64 : decode b_Mod_reckon 64 = .ok (.iload_n 1, 1) := by decide +kernel
theorem d_Mod_reckon_65 : decode b_Mod_reckon 65 = .ok (.iload_n 2, 1) := by decide +kernel
theorem d_Mod_reckon_66 : decode b_Mod_reckon 66 = .ok (.idiv, 1) := by decide +kernel
theorem d_Mod_reckon_67 : decode b_Mod_reckon 67 = .ok (.ireturn, 1) := by decide +kernel
theorem d_Mod_reckon_68 : decode b_Mod_reckon 68 = .ok (.iload_n 1, 1) := by decide +kernel
theorem d_Mod_reckon_69 : decode b_Mod_reckon 69 = .ok (.iload_n 2, 1) := by decide +kernel
theorem d_Mod_reckon_70 : decode b_Mod_reckon 70 = .ok (.if_icmp .ge 7, 3) := by decide +kernel
theorem d_Mod_reckon_73 : decode b_Mod_reckon 73 = .ok (.iconst 1, 1) := by decide +kernel
theorem d_Mod_reckon_74 : decode b_Mod_reckon 74 = .ok (.goto 4, 3) := by decide +kernel
theorem d_Mod_reckon_77 : decode b_Mod_reckon 77 = .ok (.iconst 0, 1) := by decide +kernel
theorem d_Mod_reckon_78 : decode b_Mod_reckon 78 = .ok (.ireturn, 1) := by decide +kernel
theorem d_Mod_reckon_79 : decode b_Mod_reckon 79 = .ok (.iload_n 1, 1) := by decide +kernel
theorem d_Mod_reckon_80 : decode b_Mod_reckon 80 = .ok (.iload_n 2, 1) := by decide +kernel
theorem d_Mod_reckon_81 : decode b_Mod_reckon 81 = .ok (.if_icmp .ne 7, 3) := by decide +kernel
theorem d_Mod_reckon_84 : decode b_Mod_reckon 84 = .ok (.iconst 1, 1) := by decide +kernel
theorem d_Mod_reckon_85 : decode b_Mod_reckon 85 = .ok (.goto 4, 3) := by decide +kernel
theorem d_Mod_reckon_88 : decode b_Mod_reckon 88 = .ok (.iconst 0, 1) := by decide +kernel
theorem d_Mod_reckon_89 : decode b_Mod_reckon 89 = .ok (.ireturn, 1) := by decide +kernel
abbrev y_Mod_say : MethodName := ⟨"FusedEngineModel", "say", "(II)V"⟩
abbrev b_Mod_say : ByteArray := prog_6_method_25_code
theorem d_Mod_say_0 : decode b_Mod_say 0 = .ok (.aload_n 0, 1) := by decide +kernel
theorem d_Mod_say_1 : decode b_Mod_say 1 = .ok (.getfield 32, 3) := by decide +kernel
theorem d_Mod_say_4 : decode b_Mod_say 4 = .ok (.iload_n 1, 1) := by decide +kernel
theorem d_Mod_say_5 : decode b_Mod_say 5 = .ok (.iaload, 1) := by decide +kernel
theorem d_Mod_say_6 : decode b_Mod_say 6 = .ok (.bipush 60, 2) := by decide +kernel
theorem d_Mod_say_8 : decode b_Mod_say 8 = .ok (.if_icmp .ge 20, 3) := by decide +kernel
theorem d_Mod_say_11 : decode b_Mod_say 11 = .ok (.aload_n 0, 1) := by decide +kernel
theorem d_Mod_say_12 : decode b_Mod_say 12 = .ok (.getfield 50, 3) := by decide +kernel
theorem d_Mod_say_15 : decode b_Mod_say 15 = .ok (.bipush 60, 2) := by decide +kernel
theorem d_Mod_say_17 : decode b_Mod_say 17 = .ok (.iload_n 1, 1) := by decide +kernel
theorem d_Mod_say_18 : decode b_Mod_say 18 = .ok (.imul, 1) := by decide +kernel
theorem d_Mod_say_19 : decode b_Mod_say 19 = .ok (.aload_n 0, 1) := by decide +kernel
theorem d_Mod_say_20 : decode b_Mod_say 20 = .ok (.getfield 32, 3) := by decide +kernel
theorem d_Mod_say_23 : decode b_Mod_say 23 = .ok (.iload_n 1, 1) := by decide +kernel
theorem d_Mod_say_24 : decode b_Mod_say 24 = .ok (.iaload, 1) := by decide +kernel
theorem d_Mod_say_25 : decode b_Mod_say 25 = .ok (.iadd, 1) := by decide +kernel
theorem d_Mod_say_26 : decode b_Mod_say 26 = .ok (.iload_n 2, 1) := by decide +kernel
theorem d_Mod_say_27 : decode b_Mod_say 27 = .ok (.iastore, 1) := by decide +kernel
theorem d_Mod_say_28 : decode b_Mod_say 28 = .ok (.aload_n 0, 1) := by decide +kernel
theorem d_Mod_say_29 : decode b_Mod_say 29 = .ok (.getfield 32, 3) := by decide +kernel
theorem d_Mod_say_32 : decode b_Mod_say 32 = .ok (.iload_n 1, 1) := by decide +kernel
theorem d_Mod_say_33 : decode b_Mod_say 33 = .ok (.dup2, 1) := by decide +kernel
theorem d_Mod_say_34 : decode b_Mod_say 34 = .ok (.iaload, 1) := by decide +kernel
theorem d_Mod_say_35 : decode b_Mod_say 35 = .ok (.iconst 1, 1) := by decide +kernel
theorem d_Mod_say_36 : decode b_Mod_say 36 = .ok (.iadd, 1) := by decide +kernel
theorem d_Mod_say_37 : decode b_Mod_say 37 = .ok (.iastore, 1) := by decide +kernel
theorem d_Mod_say_38 : decode b_Mod_say 38 = .ok (.return_, 1) := by decide +kernel
abbrev y_Mod_next : MethodName := ⟨"FusedEngineModel", "next", "(III)I"⟩
abbrev b_Mod_next : ByteArray := prog_6_method_26_code
theorem d_Mod_next_0 : decode b_Mod_next 0 = .ok (.aload_n 0, 1) := by decide +kernel
theorem d_Mod_next_1 : decode b_Mod_next 1 = .ok (.getfield 23, 3) := by decide +kernel
theorem d_Mod_next_4 : decode b_Mod_next 4 = .ok (.iload_n 1, 1) := by decide +kernel
theorem d_Mod_next_5 : decode b_Mod_next 5 = .ok (.iaload, 1) := by decide +kernel
theorem d_Mod_next_6 : decode b_Mod_next 6 = .ok (.iconst 1, 1) := by decide +kernel
theorem d_Mod_next_7 : decode b_Mod_next 7 = .ok (.iadd, 1) := by decide +kernel
theorem d_Mod_next_8 : decode b_Mod_next 8 = .ok (.istore 4, 2) := by decide +kernel
theorem d_Mod_next_10 : decode b_Mod_next 10 = .ok (.iload_n 2, 1) := by decide +kernel
theorem d_Mod_next_11 : decode b_Mod_next 11 = .ok (.bipush 67, 2) := by decide +kernel
theorem d_Mod_next_13 : decode b_Mod_next 13 = .ok (.if_icmp .ne 31, 3) := by decide +kernel
theorem d_Mod_next_16 : decode b_Mod_next 16 = .ok (.aload_n 0, 1) := by decide +kernel
theorem d_Mod_next_17 : decode b_Mod_next 17 = .ok (.getfield 47, 3) := by decide +kernel
theorem d_Mod_next_20 : decode b_Mod_next 20 = .ok (.bipush 10, 2) := by decide +kernel
theorem d_Mod_next_22 : decode b_Mod_next 22 = .ok (.iload_n 1, 1) := by decide +kernel
theorem d_Mod_next_23 : decode b_Mod_next 23 = .ok (.imul, 1) := by decide +kernel
theorem d_Mod_next_24 : decode b_Mod_next 24 = .ok (.aload_n 0, 1) := by decide +kernel
theorem d_Mod_next_25 : decode b_Mod_next 25 = .ok (.getfield 29, 3) := by decide +kernel
theorem d_Mod_next_28 : decode b_Mod_next 28 = .ok (.iload_n 1, 1) := by decide +kernel
theorem d_Mod_next_29 : decode b_Mod_next 29 = .ok (.iaload, 1) := by decide +kernel
theorem d_Mod_next_30 : decode b_Mod_next 30 = .ok (.iadd, 1) := by decide +kernel
theorem d_Mod_next_31 : decode b_Mod_next 31 = .ok (.iload 4, 2) := by decide +kernel
theorem d_Mod_next_33 : decode b_Mod_next 33 = .ok (.iastore, 1) := by decide +kernel
theorem d_Mod_next_34 : decode b_Mod_next 34 = .ok (.aload_n 0, 1) := by decide +kernel
theorem d_Mod_next_35 : decode b_Mod_next 35 = .ok (.getfield 29, 3) := by decide +kernel
theorem d_Mod_next_38 : decode b_Mod_next 38 = .ok (.iload_n 1, 1) := by decide +kernel
theorem d_Mod_next_39 : decode b_Mod_next 39 = .ok (.dup2, 1) := by decide +kernel
theorem d_Mod_next_40 : decode b_Mod_next 40 = .ok (.iaload, 1) := by decide +kernel
theorem d_Mod_next_41 : decode b_Mod_next 41 = .ok (.iconst 1, 1) := by decide +kernel
theorem d_Mod_next_42 : decode b_Mod_next 42 = .ok (.iadd, 1) := by decide +kernel
theorem d_Mod_next_43 : decode b_Mod_next 43 = .ok (.iastore, 1) := by decide +kernel
theorem d_Mod_next_44 : decode b_Mod_next 44 = .ok (.iload_n 2, 1) := by decide +kernel
theorem d_Mod_next_45 : decode b_Mod_next 45 = .ok (.bipush 82, 2) := by decide +kernel
theorem d_Mod_next_47 : decode b_Mod_next 47 = .ok (.if_icmp .ne 30, 3) := by decide +kernel
theorem d_Mod_next_50 : decode b_Mod_next 50 = .ok (.aload_n 0, 1) := by decide +kernel
theorem d_Mod_next_51 : decode b_Mod_next 51 = .ok (.getfield 29, 3) := by decide +kernel
theorem d_Mod_next_54 : decode b_Mod_next 54 = .ok (.iload_n 1, 1) := by decide +kernel
theorem d_Mod_next_55 : decode b_Mod_next 55 = .ok (.dup2, 1) := by decide +kernel
theorem d_Mod_next_56 : decode b_Mod_next 56 = .ok (.iaload, 1) := by decide +kernel
theorem d_Mod_next_57 : decode b_Mod_next 57 = .ok (.iconst 1, 1) := by decide +kernel
theorem d_Mod_next_58 : decode b_Mod_next 58 = .ok (.isub, 1) := by decide +kernel
theorem d_Mod_next_59 : decode b_Mod_next 59 = .ok (.iastore, 1) := by decide +kernel
theorem d_Mod_next_60 : decode b_Mod_next 60 = .ok (.aload_n 0, 1) := by decide +kernel
theorem d_Mod_next_61 : decode b_Mod_next 61 = .ok (.getfield 47, 3) := by decide +kernel
theorem d_Mod_next_64 : decode b_Mod_next 64 = .ok (.bipush 10, 2) := by decide +kernel
theorem d_Mod_next_66 : decode b_Mod_next 66 = .ok (.iload_n 1, 1) := by decide +kernel
theorem d_Mod_next_67 : decode b_Mod_next 67 = .ok (.imul, 1) := by decide +kernel
theorem d_Mod_next_68 : decode b_Mod_next 68 = .ok (.aload_n 0, 1) := by decide +kernel
theorem d_Mod_next_69 : decode b_Mod_next 69 = .ok (.getfield 29, 3) := by decide +kernel
theorem d_Mod_next_72 : decode b_Mod_next 72 = .ok (.iload_n 1, 1) := by decide +kernel
theorem d_Mod_next_73 : decode b_Mod_next 73 = .ok (.iaload, 1) := by decide +kernel
theorem d_Mod_next_74 : decode b_Mod_next 74 = .ok (.iadd, 1) := by decide +kernel
theorem d_Mod_next_75 : decode b_Mod_next 75 = .ok (.iaload, 1) := by decide +kernel
theorem d_Mod_next_76 : decode b_Mod_next 76 = .ok (.ireturn, 1) := by decide +kernel
theorem d_Mod_next_77 : decode b_Mod_next 77 = .ok (.iload_n 2, 1) := by decide +kernel
theorem d_Mod_next_78 : decode b_Mod_next 78 = .ok (.bipush 72, 2) := by decide +kernel
theorem d_Mod_next_80 : decode b_Mod_next 80 = .ok (.if_icmp .ne 10, 3) := by decide +kernel
theorem d_Mod_next_83 : decode b_Mod_next 83 = .ok (.aload_n 0, 1) := by decide +kernel
theorem d_Mod_next_84 : decode b_Mod_next 84 = .ok (.getfield 35, 3) := by decide +kernel
theorem d_Mod_next_87 : decode b_Mod_next 87 = .ok (.iload_n 1, 1) := by decide +kernel
theorem d_Mod_next_88 : decode b_Mod_next 88 = .ok (.iconst 5, 1) := by decide +kernel
theorem d_Mod_next_89 : decode b_Mod_next 89 = .ok (.iastore, 1) := by decide +kernel
theorem d_Mod_next_90 : decode b_Mod_next 90 = .ok (.iload_n 2, 1) := by decide +kernel
theorem d_Mod_next_91 : decode b_Mod_next 91 = .ok (.bipush 90, 2) := by decide +kernel
theorem d_Mod_next_93 : decode b_Mod_next 93 = .ok (.if_icmp .ne 18, 3) := by decide +kernel
theorem d_Mod_next_96 : decode b_Mod_next 96 = .ok (.aload_n 0, 1) := by decide +kernel
theorem d_Mod_next_97 : decode b_Mod_next 97 = .ok (.iload_n 1, 1) := by decide +kernel
theorem d_Mod_next_98 : decode b_Mod_next 98 = .ok (.invokevirtual 109, 3) := by decide +kernel
theorem d_Mod_next_101 : decode b_Mod_next 101 = .ok (.ifCond .ne 7, 3) := by decide +kernel
theorem d_Mod_next_104 : decode b_Mod_next 104 = .ok (.iload_n 3, 1) := by decide +kernel
theorem d_Mod_next_105 : decode b_Mod_next 105 = .ok (.goto 5, 3) := by decide +kernel
theorem d_Mod_next_108 : decode b_Mod_next 108 = .ok (.iload 4, 2) := by decide +kernel
theorem d_Mod_next_110 : decode b_Mod_next 110 = .ok (.ireturn, 1) := by decide +kernel
theorem d_Mod_next_111 : decode b_Mod_next 111 = .ok (.iload_n 2, 1) := by decide +kernel
theorem d_Mod_next_112 : decode b_Mod_next 112 = .ok (.bipush 74, 2) := by decide +kernel
theorem d_Mod_next_114 : decode b_Mod_next 114 = .ok (.if_icmp .eq 9, 3) := by decide +kernel
theorem d_Mod_next_117 : decode b_Mod_next 117 = .ok (.iload_n 2, 1) := by decide +kernel
theorem d_Mod_next_118 : decode b_Mod_next 118 = .ok (.bipush 67, 2) := by decide +kernel
theorem d_Mod_next_120 : decode b_Mod_next 120 = .ok (.if_icmp .ne 7, 3) := by decide +kernel
theorem d_Mod_next_123 : decode b_Mod_next 123 = .ok (.iload_n 3, 1) := by decide +kernel
theorem d_Mod_next_124 : decode b_Mod_next 124 = .ok (.goto 20, 3) := by decide +kernel
theorem d_Mod_next_127 : decode b_Mod_next 127 = .ok (.iload_n 2, 1) := by decide +kernel
theorem d_Mod_next_128 : decode b_Mod_next 128 = .ok (.bipush 72, 2) := by decide +kernel
theorem d_Mod_next_130 : decode b_Mod_next 130 = .ok (.if_icmp .ne 12, 3) := by decide +kernel
theorem d_Mod_next_133 : decode b_Mod_next 133 = .ok (.aload_n 0, 1) := by decide +kernel
theorem d_Mod_next_134 : decode b_Mod_next 134 = .ok (.getfield 23, 3) := by decide +kernel
theorem d_Mod_next_137 : decode b_Mod_next 137 = .ok (.iload_n 1, 1) := by decide +kernel
theorem d_Mod_next_138 : decode b_Mod_next 138 = .ok (.iaload, 1) := by decide +kernel
theorem d_Mod_next_139 : decode b_Mod_next 139 = .ok (.goto 5, 3) := by decide +kernel
theorem d_Mod_next_142 : decode b_Mod_next 142 = .ok (.iload 4, 2) := by decide +kernel
theorem d_Mod_next_144 : decode b_Mod_next 144 = .ok (.ireturn, 1) := by decide +kernel
abbrev y_Mod_work : MethodName := ⟨"FusedEngineModel", "work", "(III)V"⟩
abbrev b_Mod_work : ByteArray := prog_6_method_27_code
theorem d_Mod_work_0 : decode b_Mod_work 0 = .ok (.aload_n 0, 1) := by decide +kernel
theorem d_Mod_work_1 : decode b_Mod_work 1 = .ok (.iload_n 2, 1) := by decide +kernel
theorem d_Mod_work_2 : decode b_Mod_work 2 = .ok (.invokevirtual 106, 3) := by decide +kernel
theorem d_Mod_work_5 : decode b_Mod_work 5 = .ok (.ifCond .le 17, 3) := by decide +kernel
theorem d_Mod_work_8 : decode b_Mod_work 8 = .ok (.iload_n 2, 1) := by decide +kernel
theorem d_Mod_work_9 : decode b_Mod_work 9 = .ok (.bipush 90, 2) := by decide +kernel
theorem d_Mod_work_11 : decode b_Mod_work 11 = .ok (.if_icmp .eq 11, 3) := by decide +kernel
theorem d_Mod_work_14 : decode b_Mod_work 14 = .ok (.aload_n 0, 1) := by decide +kernel
theorem d_Mod_work_15 : decode b_Mod_work 15 = .ok (.iload_n 1, 1) := by decide +kernel
theorem d_Mod_work_16 : decode b_Mod_work 16 = .ok (.invokevirtual 109, 3) := by decide +kernel
theorem d_Mod_work_19 : decode b_Mod_work 19 = .ok (.goto 4, 3) := by decide +kernel
theorem d_Mod_work_22 : decode b_Mod_work 22 = .ok (.iconst 0, 1) := by decide +kernel
theorem d_Mod_work_23 : decode b_Mod_work 23 = .ok (.istore 4, 2) := by decide +kernel
theorem d_Mod_work_25 : decode b_Mod_work 25 = .ok (.aload_n 0, 1) := by decide +kernel
theorem d_Mod_work_26 : decode b_Mod_work 26 = .ok (.iload_n 2, 1) := by decide +kernel
theorem d_Mod_work_27 : decode b_Mod_work 27 = .ok (.invokevirtual 106, 3) := by decide +kernel
theorem d_Mod_work_30 : decode b_Mod_work 30 = .ok (.iconst 2, 1) := by decide +kernel
theorem d_Mod_work_31 : decode b_Mod_work 31 = .ok (.if_icmp .ne 11, 3) := by decide +kernel
theorem d_Mod_work_34 : decode b_Mod_work 34 = .ok (.aload_n 0, 1) := by decide +kernel
theorem d_Mod_work_35 : decode b_Mod_work 35 = .ok (.iload_n 1, 1) := by decide +kernel
theorem d_Mod_work_36 : decode b_Mod_work 36 = .ok (.invokevirtual 109, 3) := by decide +kernel
theorem d_Mod_work_39 : decode b_Mod_work 39 = .ok (.goto 4, 3) := by decide +kernel
theorem d_Mod_work_42 : decode b_Mod_work 42 = .ok (.iconst 0, 1) := by decide +kernel
theorem d_Mod_work_43 : decode b_Mod_work 43 = .ok (.istore 5, 2) := by decide +kernel
theorem d_Mod_work_45 : decode b_Mod_work 45 = .ok (.iload_n 2, 1) := by decide +kernel
theorem d_Mod_work_46 : decode b_Mod_work 46 = .ok (.invokestatic 57, 3) := by decide +kernel
theorem d_Mod_work_49 : decode b_Mod_work 49 = .ok (.ifCond .eq 16, 3) := by decide +kernel
theorem d_Mod_work_52 : decode b_Mod_work 52 = .ok (.aload_n 0, 1) := by decide +kernel
theorem d_Mod_work_53 : decode b_Mod_work 53 = .ok (.iload_n 1, 1) := by decide +kernel
theorem d_Mod_work_54 : decode b_Mod_work 54 = .ok (.iload_n 2, 1) := by decide +kernel
theorem d_Mod_work_55 : decode b_Mod_work 55 = .ok (.iload 5, 2) := by decide +kernel
theorem d_Mod_work_57 : decode b_Mod_work 57 = .ok (.iload 4, 2) := by decide +kernel
theorem d_Mod_work_59 : decode b_Mod_work 59 = .ok (.invokestatic 112, 3) := by decide +kernel
theorem d_Mod_work_62 : decode b_Mod_work 62 = .ok (.invokevirtual 116, 3) := by decide +kernel
theorem d_Mod_work_65 : decode b_Mod_work 65 = .ok (.iload_n 2, 1) := by decide +kernel
theorem d_Mod_work_66 : decode b_Mod_work 66 = .ok (.bipush 80, 2) := by decide +kernel
theorem d_Mod_work_68 : decode b_Mod_work 68 = .ok (.if_icmp .ne 9, 3) := by decide +kernel
theorem d_Mod_work_71 : decode b_Mod_work 71 = .ok (.aload_n 0, 1) := by decide +kernel
theorem d_Mod_work_72 : decode b_Mod_work 72 = .ok (.iload_n 1, 1) := by decide +kernel
theorem d_Mod_work_73 : decode b_Mod_work 73 = .ok (.iload_n 3, 1) := by decide +kernel
theorem d_Mod_work_74 : decode b_Mod_work 74 = .ok (.invokevirtual 116, 3) := by decide +kernel
theorem d_Mod_work_77 : decode b_Mod_work 77 = .ok (.iload_n 2, 1) := by decide +kernel
theorem d_Mod_work_78 : decode b_Mod_work 78 = .ok (.bipush 76, 2) := by decide +kernel
theorem d_Mod_work_80 : decode b_Mod_work 80 = .ok (.if_icmp .ne 19, 3) := by decide +kernel
theorem d_Mod_work_83 : decode b_Mod_work 83 = .ok (.aload_n 0, 1) := by decide +kernel
theorem d_Mod_work_84 : decode b_Mod_work 84 = .ok (.iload_n 1, 1) := by decide +kernel
theorem d_Mod_work_85 : decode b_Mod_work 85 = .ok (.aload_n 0, 1) := by decide +kernel
theorem d_Mod_work_86 : decode b_Mod_work 86 = .ok (.getfield 44, 3) := by decide +kernel
theorem d_Mod_work_89 : decode b_Mod_work 89 = .ok (.bipush 8, 2) := by decide +kernel
theorem d_Mod_work_91 : decode b_Mod_work 91 = .ok (.iload_n 1, 1) := by decide +kernel
theorem d_Mod_work_92 : decode b_Mod_work 92 = .ok (.imul, 1) := by decide +kernel
theorem d_Mod_work_93 : decode b_Mod_work 93 = .ok (.iload_n 3, 1) := by decide +kernel
theorem d_Mod_work_94 : decode b_Mod_work 94 = .ok (.iadd, 1) := by decide +kernel
theorem d_Mod_work_95 : decode b_Mod_work 95 = .ok (.iaload, 1) := by decide +kernel
theorem d_Mod_work_96 : decode b_Mod_work 96 = .ok (.invokevirtual 116, 3) := by decide +kernel
theorem d_Mod_work_99 : decode b_Mod_work 99 = .ok (.iload_n 2, 1) := by decide +kernel
theorem d_Mod_work_100 : decode b_Mod_work 100 = .ok (.bipush 83, 2) := by decide +kernel
theorem d_Mod_work_102 : decode b_Mod_work 102 = .ok (.if_icmp .ne 16, 3) := by decide +kernel
theorem d_Mod_work_105 : decode b_Mod_work 105 = .ok (.aload_n 0, 1) := by decide +kernel
theorem d_Mod_work_106 : decode b_Mod_work 106 = .ok (.getfield 44, 3) := by decide +kernel
theorem d_Mod_work_109 : decode b_Mod_work 109 = .ok (.bipush 8, 2) := by decide +kernel
theorem d_Mod_work_111 : decode b_Mod_work 111 = .ok (.iload_n 1, 1) := by decide +kernel
theorem d_Mod_work_112 : decode b_Mod_work 112 = .ok (.imul, 1) := by decide +kernel
theorem d_Mod_work_113 : decode b_Mod_work 113 = .ok (.iload_n 3, 1) := by decide +kernel
theorem d_Mod_work_114 : decode b_Mod_work 114 = .ok (.iadd, 1) := by decide +kernel
theorem d_Mod_work_115 : decode b_Mod_work 115 = .ok (.iload 4, 2) := by decide +kernel
theorem d_Mod_work_117 : decode b_Mod_work 117 = .ok (.iastore, 1) := by decide +kernel
theorem d_Mod_work_118 : decode b_Mod_work 118 = .ok (.iload_n 2, 1) := by decide +kernel
theorem d_Mod_work_119 : decode b_Mod_work 119 = .ok (.bipush 79, 2) := by decide +kernel
theorem d_Mod_work_121 : decode b_Mod_work 121 = .ok (.if_icmp .ne 10, 3) := by decide +kernel
theorem d_Mod_work_124 : decode b_Mod_work 124 = .ok (.aload_n 0, 1) := by decide +kernel
theorem d_Mod_work_125 : decode b_Mod_work 125 = .ok (.iload_n 1, 1) := by decide +kernel
theorem d_Mod_work_126 : decode b_Mod_work 126 = .ok (.iload 4, 2) := by decide +kernel
theorem d_Mod_work_128 : decode b_Mod_work 128 = .ok (.invokevirtual 120, 3) := by decide +kernel
theorem d_Mod_work_131 : decode b_Mod_work 131 = .ok (.iload_n 2, 1) := by decide +kernel
theorem d_Mod_work_132 : decode b_Mod_work 132 = .ok (.bipush 68, 2) := by decide +kernel
theorem d_Mod_work_134 : decode b_Mod_work 134 = .ok (.if_icmp .eq 9, 3) := by decide +kernel
theorem d_Mod_work_137 : decode b_Mod_work 137 = .ok (.iload_n 2, 1) := by decide +kernel
theorem d_Mod_work_138 : decode b_Mod_work 138 = .ok (.bipush 88, 2) := by decide +kernel
theorem d_Mod_work_140 : decode b_Mod_work 140 = .ok (.if_icmp .ne 10, 3) := by decide +kernel
theorem d_Mod_work_143 : decode b_Mod_work 143 = .ok (.aload_n 0, 1) := by decide +kernel
theorem d_Mod_work_144 : decode b_Mod_work 144 = .ok (.iload_n 1, 1) := by decide +kernel
theorem d_Mod_work_145 : decode b_Mod_work 145 = .ok (.iload 4, 2) := by decide +kernel
theorem d_Mod_work_147 : decode b_Mod_work 147 = .ok (.invokevirtual 116, 3) := by decide +kernel
theorem d_Mod_work_150 : decode b_Mod_work 150 = .ok (.iload_n 2, 1) := by decide +kernel
theorem d_Mod_work_151 : decode b_Mod_work 151 = .ok (.bipush 68, 2) := by decide +kernel
theorem d_Mod_work_153 : decode b_Mod_work 153 = .ok (.if_icmp .ne 10, 3) := by decide +kernel
theorem d_Mod_work_156 : decode b_Mod_work 156 = .ok (.aload_n 0, 1) := by decide +kernel
theorem d_Mod_work_157 : decode b_Mod_work 157 = .ok (.iload_n 1, 1) := by decide +kernel
theorem d_Mod_work_158 : decode b_Mod_work 158 = .ok (.iload 4, 2) := by decide +kernel
theorem d_Mod_work_160 : decode b_Mod_work 160 = .ok (.invokevirtual 116, 3) := by decide +kernel
theorem d_Mod_work_163 : decode b_Mod_work 163 = .ok (.iload_n 2, 1) := by decide +kernel
theorem d_Mod_work_164 : decode b_Mod_work 164 = .ok (.bipush 88, 2) := by decide +kernel
theorem d_Mod_work_166 : decode b_Mod_work 166 = .ok (.if_icmp .ne 10, 3) := by decide +kernel
theorem d_Mod_work_169 : decode b_Mod_work 169 = .ok (.aload_n 0, 1) := by decide +kernel
theorem d_Mod_work_170 : decode b_Mod_work 170 = .ok (.iload_n 1, 1) := by decide +kernel
theorem d_Mod_work_171 : decode b_Mod_work 171 = .ok (.iload 5, 2) := by decide +kernel
theorem d_Mod_work_173 : decode b_Mod_work 173 = .ok (.invokevirtual 116, 3) := by decide +kernel
theorem d_Mod_work_176 : decode b_Mod_work 176 = .ok (.return_, 1) := by decide +kernel
abbrev y_Mod_act : MethodName := ⟨"FusedEngineModel", "act", "(I)Z"⟩
abbrev b_Mod_act : ByteArray := prog_6_method_28_code
theorem d_Mod_act_0 : decode b_Mod_act 0 = .ok (.aload_n 0, 1) := by decide +kernel
theorem d_Mod_act_1 : decode b_Mod_act 1 = .ok (.getfield 7, 3) := by decide +kernel
theorem d_Mod_act_4 : decode b_Mod_act 4 = .ok (.aload_n 0, 1) := by decide +kernel
theorem d_Mod_act_5 : decode b_Mod_act 5 = .ok (.getfield 23, 3) := by decide +kernel
theorem d_Mod_act_8 : decode b_Mod_act 8 = .ok (.iload_n 1, 1) := by decide +kernel
theorem d_Mod_act_9 : decode b_Mod_act 9 = .ok (.iaload, 1) := by decide +kernel
theorem d_Mod_act_10 : decode b_Mod_act 10 = .ok (.caload, 1) := by decide +kernel
theorem d_Mod_act_11 : decode b_Mod_act 11 = .ok (.istore_n 2, 1) := by decide +kernel
theorem d_Mod_act_12 : decode b_Mod_act 12 = .ok (.aload_n 0, 1) := by decide +kernel
theorem d_Mod_act_13 : decode b_Mod_act 13 = .ok (.getfield 13, 3) := by decide +kernel
theorem d_Mod_act_16 : decode b_Mod_act 16 = .ok (.aload_n 0, 1) := by decide +kernel
theorem d_Mod_act_17 : decode b_Mod_act 17 = .ok (.getfield 23, 3) := by decide +kernel
theorem d_Mod_act_20 : decode b_Mod_act 20 = .ok (.iload_n 1, 1) := by decide +kernel
theorem d_Mod_act_21 : decode b_Mod_act 21 = .ok (.iaload, 1) := by decide +kernel
theorem d_Mod_act_22 : decode b_Mod_act 22 = .ok (.iaload, 1) := by decide +kernel
theorem d_Mod_act_23 : decode b_Mod_act 23 = .ok (.istore_n 3, 1) := by decide +kernel
theorem d_Mod_act_24 : decode b_Mod_act 24 = .ok (.aload_n 0, 1) := by decide +kernel
theorem d_Mod_act_25 : decode b_Mod_act 25 = .ok (.iload_n 1, 1) := by decide +kernel
theorem d_Mod_act_26 : decode b_Mod_act 26 = .ok (.iload_n 2, 1) := by decide +kernel
theorem d_Mod_act_27 : decode b_Mod_act 27 = .ok (.invokevirtual 123, 3) := by decide +kernel
theorem d_Mod_act_30 : decode b_Mod_act 30 = .ok (.istore 4, 2) := by decide +kernel
theorem d_Mod_act_32 : decode b_Mod_act 32 = .ok (.iload 4, 2) := by decide +kernel
theorem d_Mod_act_34 : decode b_Mod_act 34 = .ok (.ifCond .le 13, 3) := by decide +kernel
theorem d_Mod_act_37 : decode b_Mod_act 37 = .ok (.aload_n 0, 1) := by decide +kernel
theorem d_Mod_act_38 : decode b_Mod_act 38 = .ok (.getfield 35, 3) := by decide +kernel
theorem d_Mod_act_41 : decode b_Mod_act 41 = .ok (.iload_n 1, 1) := by decide +kernel
theorem d_Mod_act_42 : decode b_Mod_act 42 = .ok (.iload 4, 2) := by decide +kernel
theorem d_Mod_act_44 : decode b_Mod_act 44 = .ok (.iastore, 1) := by decide +kernel
theorem d_Mod_act_45 : decode b_Mod_act 45 = .ok (.iconst 0, 1) := by decide +kernel
theorem d_Mod_act_46 : decode b_Mod_act 46 = .ok (.ireturn, 1) := by decide +kernel
theorem d_Mod_act_47 : decode b_Mod_act 47 = .ok (.aload_n 0, 1) := by decide +kernel
theorem d_Mod_act_48 : decode b_Mod_act 48 = .ok (.iload_n 1, 1) := by decide +kernel
theorem d_Mod_act_49 : decode b_Mod_act 49 = .ok (.iload_n 2, 1) := by decide +kernel
theorem d_Mod_act_50 : decode b_Mod_act 50 = .ok (.iload_n 3, 1) := by decide +kernel
theorem d_Mod_act_51 : decode b_Mod_act 51 = .ok (.invokevirtual 126, 3) := by decide +kernel
theorem d_Mod_act_54 : decode b_Mod_act 54 = .ok (.aload_n 0, 1) := by decide +kernel
theorem d_Mod_act_55 : decode b_Mod_act 55 = .ok (.getfield 23, 3) := by decide +kernel
theorem d_Mod_act_58 : decode b_Mod_act 58 = .ok (.iload_n 1, 1) := by decide +kernel
theorem d_Mod_act_59 : decode b_Mod_act 59 = .ok (.aload_n 0, 1) := by decide +kernel
theorem d_Mod_act_60 : decode b_Mod_act 60 = .ok (.iload_n 1, 1) := by decide +kernel
theorem d_Mod_act_61 : decode b_Mod_act 61 = .ok (.iload_n 2, 1) := by decide +kernel
theorem d_Mod_act_62 : decode b_Mod_act 62 = .ok (.iload_n 3, 1) := by decide +kernel
theorem d_Mod_act_63 : decode b_Mod_act 63 = .ok (.invokevirtual 129, 3) := by decide +kernel
theorem d_Mod_act_66 : decode b_Mod_act 66 = .ok (.iastore, 1) := by decide +kernel
theorem d_Mod_act_67 : decode b_Mod_act 67 = .ok (.aload_n 0, 1) := by decide +kernel
theorem d_Mod_act_68 : decode b_Mod_act 68 = .ok (.getfield 38, 3) := by decide +kernel
theorem d_Mod_act_71 : decode b_Mod_act 71 = .ok (.iload_n 1, 1) := by decide +kernel
theorem d_Mod_act_72 : decode b_Mod_act 72 = .ok (.dup2, 1) := by decide +kernel
theorem d_Mod_act_73 : decode b_Mod_act 73 = .ok (.iaload, 1) := by decide +kernel
theorem d_Mod_act_74 : decode b_Mod_act 74 = .ok (.iconst 1, 1) := by decide +kernel
theorem d_Mod_act_75 : decode b_Mod_act 75 = .ok (.iadd, 1) := by decide +kernel
theorem d_Mod_act_76 : decode b_Mod_act 76 = .ok (.iastore, 1) := by decide +kernel
theorem d_Mod_act_77 : decode b_Mod_act 77 = .ok (.iconst 1, 1) := by decide +kernel
theorem d_Mod_act_78 : decode b_Mod_act 78 = .ok (.ireturn, 1) := by decide +kernel
abbrev y_Mod_run : MethodName := ⟨"FusedEngineModel", "run", "(ZI)I"⟩
abbrev b_Mod_run : ByteArray := prog_6_method_29_code
theorem d_Mod_run_0 : decode b_Mod_run 0 = .ok (.aload_n 0, 1) := by decide +kernel
theorem d_Mod_run_1 : decode b_Mod_run 1 = .ok (.iload_n 1, 1) := by decide +kernel
theorem d_Mod_run_2 : decode b_Mod_run 2 = .ok (.ifCond .eq 14, 3) := by decide +kernel
theorem d_Mod_run_5 : decode b_Mod_run 5 = .ok (.aload_n 0, 1) := by decide +kernel
theorem d_Mod_run_6 : decode b_Mod_run 6 = .ok (.getfield 68, 3) := by decide +kernel
theorem d_Mod_run_9 : decode b_Mod_run 9 = .ok (.ifCond .ne 7, 3) := by decide +kernel
theorem d_Mod_run_12 : decode b_Mod_run 12 = .ok (.iconst 1, 1) := by decide +kernel
theorem d_Mod_run_13 : decode b_Mod_run 13 = .ok (.goto 4, 3) := by decide +kernel
theorem d_Mod_run_16 : decode b_Mod_run 16 = .ok (.iconst 0, 1) := by decide +kernel
theorem d_Mod_run_17 : decode b_Mod_run 17 = .ok (.putfield 53, 3) := by decide +kernel
theorem d_Mod_run_20 : decode b_Mod_run 20 = .ok (.aload_n 0, 1) := by decide +kernel
theorem d_Mod_run_21 : decode b_Mod_run 21 = .ok (.getfield 53, 3) := by decide +kernel
theorem d_Mod_run_24 : decode b_Mod_run 24 = .ok (.ifCond .le 5, 3) := by decide +kernel
theorem d_Mod_run_27 : decode b_Mod_run 27 = .ok (.iconst 0, 1) := by decide +kernel
theorem d_Mod_run_28 : decode b_Mod_run 28 = .ok (.ireturn, 1) := by decide +kernel
theorem d_Mod_run_29 : decode b_Mod_run 29 = .ok (.iload_n 1, 1) := by decide +kernel
theorem d_Mod_run_30 : decode b_Mod_run 30 = .ok (.ifCond .eq 7, 3) := by decide +kernel
theorem d_Mod_run_33 : decode b_Mod_run 33 = .ok (.iconst 1, 1) := by decide +kernel
theorem d_Mod_run_34 : decode b_Mod_run 34 = .ok (.goto 4, 3) := by decide +kernel
theorem d_Mod_run_37 : decode b_Mod_run 37 = .ok (.iconst 0, 1) := by decide +kernel
theorem d_Mod_run_38 : decode b_Mod_run 38 = .ok (.istore_n 3, 1) := by decide +kernel
theorem d_Mod_run_39 : decode b_Mod_run 39 = .ok (.iconst 0, 1) := by decide +kernel
theorem d_Mod_run_40 : decode b_Mod_run 40 = .ok (.istore 4, 2) := by decide +kernel
theorem d_Mod_run_42 : decode b_Mod_run 42 = .ok (.iload 4, 2) := by decide +kernel
theorem d_Mod_run_44 : decode b_Mod_run 44 = .ok (.iload_n 2, 1) := by decide +kernel
theorem d_Mod_run_45 : decode b_Mod_run 45 = .ok (.if_icmp .ge 112, 3) := by decide +kernel
theorem d_Mod_run_48 : decode b_Mod_run 48 = .ok (.iload 4, 2) := by decide +kernel
theorem d_Mod_run_50 : decode b_Mod_run 50 = .ok (.sipush 3000, 3) := by decide +kernel
theorem d_Mod_run_53 : decode b_Mod_run 53 = .ok (.if_icmp .ge 104, 3) := by decide +kernel
theorem d_Mod_run_56 : decode b_Mod_run 56 = .ok (.aload_n 0, 1) := by decide +kernel
theorem d_Mod_run_57 : decode b_Mod_run 57 = .ok (.getfield 35, 3) := by decide +kernel
theorem d_Mod_run_60 : decode b_Mod_run 60 = .ok (.iload_n 3, 1) := by decide +kernel
theorem d_Mod_run_61 : decode b_Mod_run 61 = .ok (.iaload, 1) := by decide +kernel
theorem d_Mod_run_62 : decode b_Mod_run 62 = .ok (.ifCond .ne 95, 3) := by decide +kernel
theorem d_Mod_run_65 : decode b_Mod_run 65 = .ok (.aload_n 0, 1) := by decide +kernel
theorem d_Mod_run_66 : decode b_Mod_run 66 = .ok (.getfield 23, 3) := by decide +kernel
theorem d_Mod_run_69 : decode b_Mod_run 69 = .ok (.iload_n 3, 1) := by decide +kernel
theorem d_Mod_run_70 : decode b_Mod_run 70 = .ok (.iaload, 1) := by decide +kernel
theorem d_Mod_run_71 : decode b_Mod_run 71 = .ok (.iconst 0, 1) := by decide +kernel
theorem d_Mod_run_72 : decode b_Mod_run 72 = .ok (.aload_n 0, 1) := by decide +kernel
theorem d_Mod_run_73 : decode b_Mod_run 73 = .ok (.getfield 79, 3) := by decide +kernel
theorem d_Mod_run_76 : decode b_Mod_run 76 = .ok (.iconst 1, 1) := by decide +kernel
theorem d_Mod_run_77 : decode b_Mod_run 77 = .ok (.isub, 1) := by decide +kernel
theorem d_Mod_run_78 : decode b_Mod_run 78 = .ok (.invokestatic 64, 3) := by decide +kernel
theorem d_Mod_run_81 : decode b_Mod_run 81 = .ok (.ifCond .eq 13, 3) := by decide +kernel
theorem d_Mod_run_84 : decode b_Mod_run 84 = .ok (.aload_n 0, 1) := by decide +kernel
theorem d_Mod_run_85 : decode b_Mod_run 85 = .ok (.getfield 35, 3) := by decide +kernel
theorem d_Mod_run_88 : decode b_Mod_run 88 = .ok (.iload_n 3, 1) := by decide +kernel
theorem d_Mod_run_89 : decode b_Mod_run 89 = .ok (.iconst 4, 1) := by decide +kernel
theorem d_Mod_run_90 : decode b_Mod_run 90 = .ok (.iastore, 1) := by decide +kernel
theorem d_Mod_run_91 : decode b_Mod_run 91 = .ok (.goto (-49), 3) := by decide +kernel
theorem d_Mod_run_94 : decode b_Mod_run 94 = .ok (.iload_n 1, 1) := by decide +kernel
theorem d_Mod_run_95 : decode b_Mod_run 95 = .ok (.ifCond .eq 17, 3) := by decide +kernel
theorem d_Mod_run_98 : decode b_Mod_run 98 = .ok (.aload_n 0, 1) := by decide +kernel
theorem d_Mod_run_99 : decode b_Mod_run 99 = .ok (.getfield 17, 3) := by decide +kernel
theorem d_Mod_run_102 : decode b_Mod_run 102 = .ok (.aload_n 0, 1) := by decide +kernel
theorem d_Mod_run_103 : decode b_Mod_run 103 = .ok (.getfield 23, 3) := by decide +kernel
theorem d_Mod_run_106 : decode b_Mod_run 106 = .ok (.iload_n 3, 1) := by decide +kernel
theorem d_Mod_run_107 : decode b_Mod_run 107 = .ok (.iaload, 1) := by decide +kernel
theorem d_Mod_run_108 : decode b_Mod_run 108 = .ok (.iaload, 1) := by decide +kernel
theorem d_Mod_run_109 : decode b_Mod_run 109 = .ok (.goto 4, 3) := by decide +kernel
theorem d_Mod_run_112 : decode b_Mod_run 112 = .ok (.iconst (-1), 1) := by decide +kernel
theorem d_Mod_run_113 : decode b_Mod_run 113 = .ok (.istore 5, 2) := by decide +kernel
theorem d_Mod_run_115 : decode b_Mod_run 115 = .ok (.iload 5, 2) := by decide +kernel
theorem d_Mod_run_117 : decode b_Mod_run 117 = .ok (.ifCond .ge 7, 3) := by decide +kernel
theorem d_Mod_run_120 : decode b_Mod_run 120 = .ok (.iconst 1, 1) := by decide +kernel
theorem d_Mod_run_121 : decode b_Mod_run 121 = .ok (.goto 9, 3) := by decide +kernel
theorem d_Mod_run_124 : decode b_Mod_run 124 = .ok (.aload_n 0, 1) := by decide +kernel
theorem d_Mod_run_125 : decode b_Mod_run 125 = .ok (.iload 5, 2) := by decide +kernel
theorem d_Mod_run_127 : decode b_Mod_run 127 = .ok (.invokevirtual 96, 3) := by decide +kernel
theorem d_Mod_run_130 : decode b_Mod_run 130 = .ok (.istore 6, 2) := by decide +kernel
theorem d_Mod_run_132 : decode b_Mod_run 132 = .ok (.iload 6, 2) := by decide +kernel
theorem d_Mod_run_134 : decode b_Mod_run 134 = .ok (.ifCond .le 17, 3) := by decide +kernel
theorem d_Mod_run_137 : decode b_Mod_run 137 = .ok (.aload_n 0, 1) := by decide +kernel
theorem d_Mod_run_138 : decode b_Mod_run 138 = .ok (.iload_n 3, 1) := by decide +kernel
theorem d_Mod_run_139 : decode b_Mod_run 139 = .ok (.invokevirtual 132, 3) := by decide +kernel
theorem d_Mod_run_142 : decode b_Mod_run 142 = .ok (.ifCond .eq 9, 3) := by decide +kernel
theorem d_Mod_run_145 : decode b_Mod_run 145 = .ok (.iinc 6 (-1), 3) := by decide +kernel
theorem d_Mod_run_148 : decode b_Mod_run 148 = .ok (.goto (-16), 3) := by decide +kernel
theorem d_Mod_run_151 : decode b_Mod_run 151 = .ok (.iinc 4 1, 3) := by decide +kernel
theorem d_Mod_run_154 : decode b_Mod_run 154 = .ok (.goto (-112), 3) := by decide +kernel
theorem d_Mod_run_157 : decode b_Mod_run 157 = .ok (.iload 4, 2) := by decide +kernel
theorem d_Mod_run_159 : decode b_Mod_run 159 = .ok (.ireturn, 1) := by decide +kernel
abbrev y_Mod_restart : MethodName := ⟨"FusedEngineModel", "restart", "()V"⟩
abbrev b_Mod_restart : ByteArray := prog_6_method_30_code
theorem d_Mod_restart_0 : decode b_Mod_restart 0 = .ok (.aload_n 0, 1) := by decide +kernel
theorem d_Mod_restart_1 : decode b_Mod_restart 1 = .ok (.iconst 0, 1) := by decide +kernel
theorem d_Mod_restart_2 : decode b_Mod_restart 2 = .ok (.putfield 53, 3) := by decide +kernel
theorem d_Mod_restart_5 : decode b_Mod_restart 5 = .ok (.aload_n 0, 1) := by decide +kernel
theorem d_Mod_restart_6 : decode b_Mod_restart 6 = .ok (.invokevirtual 72, 3) := by decide +kernel
theorem d_Mod_restart_9 : decode b_Mod_restart 9 = .ok (.return_, 1) := by decide +kernel
abbrev y_Mod_about : MethodName := ⟨"FusedEngineModel", "about", "(ZI)I"⟩
abbrev b_Mod_about : ByteArray := prog_6_method_31_code
theorem d_Mod_about_0 : decode b_Mod_about 0 = .ok (.aload_n 0, 1) := by decide +kernel
theorem d_Mod_about_1 : decode b_Mod_about 1 = .ok (.iconst 0, 1) := by decide +kernel
theorem d_Mod_about_2 : decode b_Mod_about 2 = .ok (.putfield 53, 3) := by decide +kernel
theorem d_Mod_about_5 : decode b_Mod_about 5 = .ok (.iload_n 1, 1) := by decide +kernel
theorem d_Mod_about_6 : decode b_Mod_about 6 = .ok (.ifCond .eq 7, 3) := by decide +kernel
theorem d_Mod_about_9 : decode b_Mod_about 9 = .ok (.iconst 1, 1) := by decide +kernel
theorem d_Mod_about_10 : decode b_Mod_about 10 = .ok (.goto 4, 3) := by decide +kernel
theorem d_Mod_about_13 : decode b_Mod_about 13 = .ok (.iconst 0, 1) := by decide +kernel
theorem d_Mod_about_14 : decode b_Mod_about 14 = .ok (.istore_n 3, 1) := by decide +kernel
theorem d_Mod_about_15 : decode b_Mod_about 15 = .ok (.iload_n 2, 1) := by decide +kernel
theorem d_Mod_about_16 : decode b_Mod_about 16 = .ok (.tableswitch 82 0 5 #[40, 47, 54, 61, 68, 75], 40) := by decide +kernel
theorem d_Mod_about_56 : decode b_Mod_about 56 = .ok (.aload_n 0, 1) := by decide +kernel
theorem d_Mod_about_57 : decode b_Mod_about 57 = .ok (.getfield 23, 3) := by decide +kernel
theorem d_Mod_about_60 : decode b_Mod_about 60 = .ok (.iload_n 3, 1) := by decide +kernel
theorem d_Mod_about_61 : decode b_Mod_about 61 = .ok (.iaload, 1) := by decide +kernel
theorem d_Mod_about_62 : decode b_Mod_about 62 = .ok (.ireturn, 1) := by decide +kernel
theorem d_Mod_about_63 : decode b_Mod_about 63 = .ok (.aload_n 0, 1) := by decide +kernel
theorem d_Mod_about_64 : decode b_Mod_about 64 = .ok (.getfield 26, 3) := by decide +kernel
theorem d_Mod_about_67 : decode b_Mod_about 67 = .ok (.iload_n 3, 1) := by decide +kernel
theorem d_Mod_about_68 : decode b_Mod_about 68 = .ok (.iaload, 1) := by decide +kernel
theorem d_Mod_about_69 : decode b_Mod_about 69 = .ok (.ireturn, 1) := by decide +kernel
theorem d_Mod_about_70 : decode b_Mod_about 70 = .ok (.aload_n 0, 1) := by decide +kernel
theorem d_Mod_about_71 : decode b_Mod_about 71 = .ok (.getfield 29, 3) := by decide +kernel
theorem d_Mod_about_74 : decode b_Mod_about 74 = .ok (.iload_n 3, 1) := by decide +kernel
theorem d_Mod_about_75 : decode b_Mod_about 75 = .ok (.iaload, 1) := by decide +kernel
theorem d_Mod_about_76 : decode b_Mod_about 76 = .ok (.ireturn, 1) := by decide +kernel
theorem d_Mod_about_77 : decode b_Mod_about 77 = .ok (.aload_n 0, 1) := by decide +kernel
theorem d_Mod_about_78 : decode b_Mod_about 78 = .ok (.getfield 32, 3) := by decide +kernel
theorem d_Mod_about_81 : decode b_Mod_about 81 = .ok (.iload_n 3, 1) := by decide +kernel
theorem d_Mod_about_82 : decode b_Mod_about 82 = .ok (.iaload, 1) := by decide +kernel
theorem d_Mod_about_83 : decode b_Mod_about 83 = .ok (.ireturn, 1) := by decide +kernel
theorem d_Mod_about_84 : decode b_Mod_about 84 = .ok (.aload_n 0, 1) := by decide +kernel
theorem d_Mod_about_85 : decode b_Mod_about 85 = .ok (.getfield 35, 3) := by decide +kernel
theorem d_Mod_about_88 : decode b_Mod_about 88 = .ok (.iload_n 3, 1) := by decide +kernel
theorem d_Mod_about_89 : decode b_Mod_about 89 = .ok (.iaload, 1) := by decide +kernel
theorem d_Mod_about_90 : decode b_Mod_about 90 = .ok (.ireturn, 1) := by decide +kernel
theorem d_Mod_about_91 : decode b_Mod_about 91 = .ok (.aload_n 0, 1) := by decide +kernel
theorem d_Mod_about_92 : decode b_Mod_about 92 = .ok (.getfield 38, 3) := by decide +kernel
theorem d_Mod_about_95 : decode b_Mod_about 95 = .ok (.iload_n 3, 1) := by decide +kernel
theorem d_Mod_about_96 : decode b_Mod_about 96 = .ok (.iaload, 1) := by decide +kernel
theorem d_Mod_about_97 : decode b_Mod_about 97 = .ok (.ireturn, 1) := by decide +kernel
theorem d_Mod_about_98 : decode b_Mod_about 98 = .ok (.iconst (-1), 1) := by decide +kernel
theorem d_Mod_about_99 : decode b_Mod_about 99 = .ok (.ireturn, 1) := by decide +kernel
abbrev y_Mod_stack : MethodName := ⟨"FusedEngineModel", "stack", "(ZI)I"⟩
abbrev b_Mod_stack : ByteArray := prog_6_method_32_code
theorem d_Mod_stack_0 : decode b_Mod_stack 0 = .ok (.iload_n 1, 1) := by decide +kernel
theorem d_Mod_stack_1 : decode b_Mod_stack 1 = .ok (.ifCond .eq 7, 3) := by decide +kernel
theorem d_Mod_stack_4 : decode b_Mod_stack 4 = .ok (.iconst 1, 1) := by decide +kernel
theorem d_Mod_stack_5 : decode b_Mod_stack 5 = .ok (.goto 4, 3) := by decide +kernel
theorem d_Mod_stack_8 : decode b_Mod_stack 8 = .ok (.iconst 0, 1) := by decide +kernel
theorem d_Mod_stack_9 : decode b_Mod_stack 9 = .ok (.istore_n 3, 1) := by decide +kernel
theorem d_Mod_stack_10 : decode b_Mod_stack 10 = .ok (.iload_n 2, 1) := by decide +kernel
theorem d_Mod_stack_11 : decode b_Mod_stack 11 = .ok (.iconst 0, 1) := by decide +kernel
theorem d_Mod_stack_12 : decode b_Mod_stack 12 = .ok (.aload_n 0, 1) := by decide +kernel
theorem d_Mod_stack_13 : decode b_Mod_stack 13 = .ok (.getfield 26, 3) := by decide +kernel
theorem d_Mod_stack_16 : decode b_Mod_stack 16 = .ok (.iload_n 3, 1) := by decide +kernel
theorem d_Mod_stack_17 : decode b_Mod_stack 17 = .ok (.iaload, 1) := by decide +kernel
theorem d_Mod_stack_18 : decode b_Mod_stack 18 = .ok (.iconst 1, 1) := by decide +kernel
theorem d_Mod_stack_19 : decode b_Mod_stack 19 = .ok (.isub, 1) := by decide +kernel
theorem d_Mod_stack_20 : decode b_Mod_stack 20 = .ok (.invokestatic 64, 3) := by decide +kernel
theorem d_Mod_stack_23 : decode b_Mod_stack 23 = .ok (.ifCond .eq 9, 3) := by decide +kernel
theorem d_Mod_stack_26 : decode b_Mod_stack 26 = .ok (.aload_n 0, 1) := by decide +kernel
theorem d_Mod_stack_27 : decode b_Mod_stack 27 = .ok (.iconst 1, 1) := by decide +kernel
theorem d_Mod_stack_28 : decode b_Mod_stack 28 = .ok (.invokevirtual 103, 3) := by decide +kernel
theorem d_Mod_stack_31 : decode b_Mod_stack 31 = .ok (.ireturn, 1) := by decide +kernel
theorem d_Mod_stack_32 : decode b_Mod_stack 32 = .ok (.aload_n 0, 1) := by decide +kernel
theorem d_Mod_stack_33 : decode b_Mod_stack 33 = .ok (.iconst 0, 1) := by decide +kernel
theorem d_Mod_stack_34 : decode b_Mod_stack 34 = .ok (.putfield 53, 3) := by decide +kernel
theorem d_Mod_stack_37 : decode b_Mod_stack 37 = .ok (.aload_n 0, 1) := by decide +kernel
theorem d_Mod_stack_38 : decode b_Mod_stack 38 = .ok (.getfield 41, 3) := by decide +kernel
theorem d_Mod_stack_41 : decode b_Mod_stack 41 = .ok (.bipush 40, 2) := by decide +kernel
theorem d_Mod_stack_43 : decode b_Mod_stack 43 = .ok (.iload_n 3, 1) := by decide +kernel
theorem d_Mod_stack_44 : decode b_Mod_stack 44 = .ok (.imul, 1) := by decide +kernel
theorem d_Mod_stack_45 : decode b_Mod_stack 45 = .ok (.iload_n 2, 1) := by decide +kernel
theorem d_Mod_stack_46 : decode b_Mod_stack 46 = .ok (.iadd, 1) := by decide +kernel
theorem d_Mod_stack_47 : decode b_Mod_stack 47 = .ok (.iaload, 1) := by decide +kernel
theorem d_Mod_stack_48 : decode b_Mod_stack 48 = .ok (.ireturn, 1) := by decide +kernel
abbrev y_Mod_local : MethodName := ⟨"FusedEngineModel", "local", "(ZI)I"⟩
abbrev b_Mod_local : ByteArray := prog_6_method_33_code
theorem d_Mod_local_0 : decode b_Mod_local 0 = .ok (.iload_n 2, 1) := by decide +kernel
theorem d_Mod_local_1 : decode b_Mod_local 1 = .ok (.iconst 0, 1) := by decide +kernel
theorem d_Mod_local_2 : decode b_Mod_local 2 = .ok (.bipush 7, 2) := by decide +kernel
theorem d_Mod_local_4 : decode b_Mod_local 4 = .ok (.invokestatic 64, 3) := by decide +kernel
theorem d_Mod_local_7 : decode b_Mod_local 7 = .ok (.ifCond .eq 9, 3) := by decide +kernel
theorem d_Mod_local_10 : decode b_Mod_local 10 = .ok (.aload_n 0, 1) := by decide +kernel
theorem d_Mod_local_11 : decode b_Mod_local 11 = .ok (.iconst 1, 1) := by decide +kernel
theorem d_Mod_local_12 : decode b_Mod_local 12 = .ok (.invokevirtual 103, 3) := by decide +kernel
theorem d_Mod_local_15 : decode b_Mod_local 15 = .ok (.ireturn, 1) := by decide +kernel
theorem d_Mod_local_16 : decode b_Mod_local 16 = .ok (.aload_n 0, 1) := by decide +kernel
theorem d_Mod_local_17 : decode b_Mod_local 17 = .ok (.iconst 0, 1) := by decide +kernel
theorem d_Mod_local_18 : decode b_Mod_local 18 = .ok (.putfield 53, 3) := by decide +kernel
theorem d_Mod_local_21 : decode b_Mod_local 21 = .ok (.aload_n 0, 1) := by decide +kernel
theorem d_Mod_local_22 : decode b_Mod_local 22 = .ok (.getfield 44, 3) := by decide +kernel
theorem d_Mod_local_25 : decode b_Mod_local 25 = .ok (.bipush 8, 2) := by decide +kernel
theorem d_Mod_local_27 : decode b_Mod_local 27 = .ok (.iload_n 1, 1) := by decide +kernel
theorem d_Mod_local_28 : decode b_Mod_local 28 = .ok (.ifCond .eq 7, 3) := by decide +kernel
theorem d_Mod_local_31 : decode b_Mod_local 31 = .ok (.iconst 1, 1) := by decide +kernel
theorem d_Mod_local_32 : decode b_Mod_local 32 = .ok (.goto 4, 3) := by decide +kernel
theorem d_Mod_local_35 : decode b_Mod_local 35 = .ok (.iconst 0, 1) := by decide +kernel
theorem d_Mod_local_36 : decode b_Mod_local 36 = .ok (.imul, 1) := by decide +kernel
theorem d_Mod_local_37 : decode b_Mod_local 37 = .ok (.iload_n 2, 1) := by decide +kernel
theorem d_Mod_local_38 : decode b_Mod_local 38 = .ok (.iadd, 1) := by decide +kernel
theorem d_Mod_local_39 : decode b_Mod_local 39 = .ok (.iaload, 1) := by decide +kernel
theorem d_Mod_local_40 : decode b_Mod_local 40 = .ok (.ireturn, 1) := by decide +kernel
abbrev y_Mod_out : MethodName := ⟨"FusedEngineModel", "out", "(ZI)I"⟩
abbrev b_Mod_out : ByteArray := prog_6_method_34_code
theorem d_Mod_out_0 : decode b_Mod_out 0 = .ok (.iload_n 1, 1) := by decide +kernel
theorem d_Mod_out_1 : decode b_Mod_out 1 = .ok (.ifCond .eq 7, 3) := by decide +kernel
theorem d_Mod_out_4 : decode b_Mod_out 4 = .ok (.iconst 1, 1) := by decide +kernel
theorem d_Mod_out_5 : decode b_Mod_out 5 = .ok (.goto 4, 3) := by decide +kernel
theorem d_Mod_out_8 : decode b_Mod_out 8 = .ok (.iconst 0, 1) := by decide +kernel
theorem d_Mod_out_9 : decode b_Mod_out 9 = .ok (.istore_n 3, 1) := by decide +kernel
theorem d_Mod_out_10 : decode b_Mod_out 10 = .ok (.iload_n 2, 1) := by decide +kernel
theorem d_Mod_out_11 : decode b_Mod_out 11 = .ok (.iconst 0, 1) := by decide +kernel
theorem d_Mod_out_12 : decode b_Mod_out 12 = .ok (.aload_n 0, 1) := by decide +kernel
theorem d_Mod_out_13 : decode b_Mod_out 13 = .ok (.getfield 32, 3) := by decide +kernel
theorem d_Mod_out_16 : decode b_Mod_out 16 = .ok (.iload_n 3, 1) := by decide +kernel
theorem d_Mod_out_17 : decode b_Mod_out 17 = .ok (.iaload, 1) := by decide +kernel
theorem d_Mod_out_18 : decode b_Mod_out 18 = .ok (.iconst 1, 1) := by decide +kernel
theorem d_Mod_out_19 : decode b_Mod_out 19 = .ok (.isub, 1) := by decide +kernel
theorem d_Mod_out_20 : decode b_Mod_out 20 = .ok (.invokestatic 64, 3) := by decide +kernel
theorem d_Mod_out_23 : decode b_Mod_out 23 = .ok (.ifCond .ne 9, 3) := by decide +kernel
theorem d_Mod_out_26 : decode b_Mod_out 26 = .ok (.iload_n 2, 1) := by decide +kernel
theorem d_Mod_out_27 : decode b_Mod_out 27 = .ok (.bipush 59, 2) := by decide +kernel
theorem d_Mod_out_29 : decode b_Mod_out 29 = .ok (.if_icmp .le 9, 3) := by decide +kernel
theorem d_Mod_out_32 : decode b_Mod_out 32 = .ok (.aload_n 0, 1) := by decide +kernel
theorem d_Mod_out_33 : decode b_Mod_out 33 = .ok (.iconst 1, 1) := by decide +kernel
theorem d_Mod_out_34 : decode b_Mod_out 34 = .ok (.invokevirtual 103, 3) := by decide +kernel
theorem d_Mod_out_37 : decode b_Mod_out 37 = .ok (.ireturn, 1) := by decide +kernel
theorem d_Mod_out_38 : decode b_Mod_out 38 = .ok (.aload_n 0, 1) := by decide +kernel
theorem d_Mod_out_39 : decode b_Mod_out 39 = .ok (.iconst 0, 1) := by decide +kernel
theorem d_Mod_out_40 : decode b_Mod_out 40 = .ok (.putfield 53, 3) := by decide +kernel
theorem d_Mod_out_43 : decode b_Mod_out 43 = .ok (.aload_n 0, 1) := by decide +kernel
theorem d_Mod_out_44 : decode b_Mod_out 44 = .ok (.getfield 50, 3) := by decide +kernel
theorem d_Mod_out_47 : decode b_Mod_out 47 = .ok (.bipush 60, 2) := by decide +kernel
theorem d_Mod_out_49 : decode b_Mod_out 49 = .ok (.iload_n 3, 1) := by decide +kernel
theorem d_Mod_out_50 : decode b_Mod_out 50 = .ok (.imul, 1) := by decide +kernel
theorem d_Mod_out_51 : decode b_Mod_out 51 = .ok (.iload_n 2, 1) := by decide +kernel
theorem d_Mod_out_52 : decode b_Mod_out 52 = .ok (.iadd, 1) := by decide +kernel
theorem d_Mod_out_53 : decode b_Mod_out 53 = .ok (.iaload, 1) := by decide +kernel
theorem d_Mod_out_54 : decode b_Mod_out 54 = .ok (.ireturn, 1) := by decide +kernel
