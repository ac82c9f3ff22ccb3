/-! DECODE: Machine, Rows, Program, FusedEngine, Arrays.fill, Math.min -/
abbrev y_Mac_init : MethodName := ⟨"FusedEngine$Machine", "<init>", "()V"⟩
abbrev b_Mac_init : ByteArray := prog_2_method_1_code
theorem d_Mac_init_0 : decode b_Mac_init 0 = .ok (.aload_n 0, 1) := by decide +kernel
theorem d_Mac_init_1 : decode b_Mac_init 1 = .ok (.invokespecial 3, 3) := by decide +kernel
theorem d_Mac_init_4 : decode b_Mac_init 4 = .ok (.aload_n 0, 1) := by decide +kernel
theorem d_Mac_init_5 : decode b_Mac_init 5 = .ok (.bipush 40, 2) := by decide +kernel
theorem d_Mac_init_7 : decode b_Mac_init 7 = .ok (.newarray .int, 2) := by decide +kernel
theorem d_Mac_init_9 : decode b_Mac_init 9 = .ok (.putfield 11, 3) := by decide +kernel
theorem d_Mac_init_12 : decode b_Mac_init 12 = .ok (.aload_n 0, 1) := by decide +kernel
theorem d_Mac_init_13 : decode b_Mac_init 13 = .ok (.bipush 8, 2) := by decide +kernel
theorem d_Mac_init_15 : decode b_Mac_init 15 = .ok (.newarray .int, 2) := by decide +kernel
theorem d_Mac_init_17 : decode b_Mac_init 17 = .ok (.putfield 15, 3) := by decide +kernel
theorem d_Mac_init_20 : decode b_Mac_init 20 = .ok (.aload_n 0, 1) := by decide +kernel
theorem d_Mac_init_21 : decode b_Mac_init 21 = .ok (.bipush 60, 2) := by decide +kernel
theorem d_Mac_init_23 : decode b_Mac_init 23 = .ok (.newarray .int, 2) := by decide +kernel
theorem d_Mac_init_25 : decode b_Mac_init 25 = .ok (.putfield 18, 3) := by decide +kernel
theorem d_Mac_init_28 : decode b_Mac_init 28 = .ok (.aload_n 0, 1) := by decide +kernel
theorem d_Mac_init_29 : decode b_Mac_init 29 = .ok (.bipush 10, 2) := by decide +kernel
theorem d_Mac_init_31 : decode b_Mac_init 31 = .ok (.newarray .int, 2) := by decide +kernel
theorem d_Mac_init_33 : decode b_Mac_init 33 = .ok (.putfield 21, 3) := by decide +kernel
theorem d_Mac_init_36 : decode b_Mac_init 36 = .ok (.return_, 1) := by decide +kernel
abbrev y_Mac_begin : MethodName := ⟨"FusedEngine$Machine", "begin", "()V"⟩
abbrev b_Mac_begin : ByteArray := prog_2_method_2_code
theorem d_Mac_begin_0 : decode b_Mac_begin 0 = .ok (.aload_n 0, 1) := by decide +kernel
theorem d_Mac_begin_1 : decode b_Mac_begin 1 = .ok (.getfield 15, 3) := by decide +kernel
theorem d_Mac_begin_4 : decode b_Mac_begin 4 = .ok (.iconst 0, 1) := by decide +kernel
theorem d_Mac_begin_5 : decode b_Mac_begin 5 = .ok (.invokestatic 24, 3) := by decide +kernel
theorem d_Mac_begin_8 : decode b_Mac_begin 8 = .ok (.aload_n 0, 1) := by decide +kernel
theorem d_Mac_begin_9 : decode b_Mac_begin 9 = .ok (.iconst 0, 1) := by decide +kernel
theorem d_Mac_begin_10 : decode b_Mac_begin 10 = .ok (.putfield 30, 3) := by decide +kernel
theorem d_Mac_begin_13 : decode b_Mac_begin 13 = .ok (.aload_n 0, 1) := by decide +kernel
theorem d_Mac_begin_14 : decode b_Mac_begin 14 = .ok (.iconst 0, 1) := by decide +kernel
theorem d_Mac_begin_15 : decode b_Mac_begin 15 = .ok (.putfield 34, 3) := by decide +kernel
theorem d_Mac_begin_18 : decode b_Mac_begin 18 = .ok (.aload_n 0, 1) := by decide +kernel
theorem d_Mac_begin_19 : decode b_Mac_begin 19 = .ok (.iconst 0, 1) := by decide +kernel
theorem d_Mac_begin_20 : decode b_Mac_begin 20 = .ok (.putfield 37, 3) := by decide +kernel
theorem d_Mac_begin_23 : decode b_Mac_begin 23 = .ok (.aload_n 0, 1) := by decide +kernel
theorem d_Mac_begin_24 : decode b_Mac_begin 24 = .ok (.iconst 0, 1) := by decide +kernel
theorem d_Mac_begin_25 : decode b_Mac_begin 25 = .ok (.putfield 40, 3) := by decide +kernel
theorem d_Mac_begin_28 : decode b_Mac_begin 28 = .ok (.aload_n 0, 1) := by decide +kernel
theorem d_Mac_begin_29 : decode b_Mac_begin 29 = .ok (.iconst 0, 1) := by decide +kernel
theorem d_Mac_begin_30 : decode b_Mac_begin 30 = .ok (.putfield 43, 3) := by decide +kernel
theorem d_Mac_begin_33 : decode b_Mac_begin 33 = .ok (.aload_n 0, 1) := by decide +kernel
theorem d_Mac_begin_34 : decode b_Mac_begin 34 = .ok (.iconst 0, 1) := by decide +kernel
theorem d_Mac_begin_35 : decode b_Mac_begin 35 = .ok (.putfield 46, 3) := by decide +kernel
theorem d_Mac_begin_38 : decode b_Mac_begin 38 = .ok (.return_, 1) := by decide +kernel
abbrev y_Mac_keptOutputs : MethodName := ⟨"FusedEngine$Machine", "keptOutputs", "()I"⟩
abbrev b_Mac_keptOutputs : ByteArray := prog_2_method_3_code
theorem d_Mac_keptOutputs_0 : decode b_Mac_keptOutputs 0 = .ok (.aload_n 0, 1) := by decide +kernel
theorem d_Mac_keptOutputs_1 : decode b_Mac_keptOutputs 1 = .ok (.getfield 37, 3) := by decide +kernel
theorem d_Mac_keptOutputs_4 : decode b_Mac_keptOutputs 4 = .ok (.bipush 60, 2) := by decide +kernel
theorem d_Mac_keptOutputs_6 : decode b_Mac_keptOutputs 6 = .ok (.invokestatic 49, 3) := by decide +kernel
theorem d_Mac_keptOutputs_9 : decode b_Mac_keptOutputs 9 = .ok (.ireturn, 1) := by decide +kernel
abbrev y_Mac_factOf : MethodName := ⟨"FusedEngine$Machine", "factOf", "(I)I"⟩
abbrev b_Mac_factOf : ByteArray := prog_2_method_4_code
theorem d_Mac_factOf_0 : decode b_Mac_factOf 0 = .ok (.iload_n 1, 1) := by decide +kernel
theorem d_Mac_factOf_1 : decode b_Mac_factOf 1 = .ok (.tableswitch 69 0 5 #[39, 44, 49, 54, 59, 64], 39) := by decide +kernel
theorem d_Mac_factOf_40 : decode b_Mac_factOf 40 = .ok (.aload_n 0, 1) := by decide +kernel
theorem d_Mac_factOf_41 : decode b_Mac_factOf 41 = .ok (.getfield 40, 3) := by decide +kernel
theorem d_Mac_factOf_44 : decode b_Mac_factOf 44 = .ok (.ireturn, 1) := by decide +kernel
theorem d_Mac_factOf_45 : decode b_Mac_factOf 45 = .ok (.aload_n 0, 1) := by decide +kernel
theorem d_Mac_factOf_46 : decode b_Mac_factOf 46 = .ok (.getfield 30, 3) := by decide +kernel
theorem d_Mac_factOf_49 : decode b_Mac_factOf 49 = .ok (.ireturn, 1) := by decide +kernel
theorem d_Mac_factOf_50 : decode b_Mac_factOf 50 = .ok (.aload_n 0, 1) := by decide +kernel
theorem d_Mac_factOf_51 : decode b_Mac_factOf 51 = .ok (.getfield 34, 3) := by decide +kernel
theorem d_Mac_factOf_54 : decode b_Mac_factOf 54 = .ok (.ireturn, 1) := by decide +kernel
theorem d_Mac_factOf_55 : decode b_Mac_factOf 55 = .ok (.aload_n 0, 1) := by decide +kernel
theorem d_Mac_factOf_56 : decode b_Mac_factOf 56 = .ok (.getfield 37, 3) := by decide +kernel
theorem d_Mac_factOf_59 : decode b_Mac_factOf 59 = .ok (.ireturn, 1) := by decide +kernel
theorem d_Mac_factOf_60 : decode b_Mac_factOf 60 = .ok (.aload_n 0, 1) := by decide +kernel
theorem d_Mac_factOf_61 : decode b_Mac_factOf 61 = .ok (.getfield 43, 3) := by decide +kernel
theorem d_Mac_factOf_64 : decode b_Mac_factOf 64 = .ok (.ireturn, 1) := by decide +kernel
theorem d_Mac_factOf_65 : decode b_Mac_factOf 65 = .ok (.aload_n 0, 1) := by decide +kernel
theorem d_Mac_factOf_66 : decode b_Mac_factOf 66 = .ok (.getfield 46, 3) := by decide +kernel
theorem d_Mac_factOf_69 : decode b_Mac_factOf 69 = .ok (.ireturn, 1) := by decide +kernel
theorem d_Mac_factOf_70 : decode b_Mac_factOf 70 = .ok (.iconst (-1), 1) := by decide +kernel
theorem d_Mac_factOf_71 : decode b_Mac_factOf 71 = .ok (.ireturn, 1) := by decide +kernel
abbrev y_Mac_goOn : MethodName := ⟨"FusedEngine$Machine", "goOn", "(LFusedEngine$Program;ZI)I"⟩
abbrev b_Mac_goOn : ByteArray := prog_2_method_5_code
theorem d_Mac_goOn_0 : decode b_Mac_goOn 0 = .ok (.iload_n 3, 1) := by decide +kernel
theorem d_Mac_goOn_1 : decode b_Mac_goOn 1 = .ok (.sipush 3000, 3) := by decide +kernel
theorem d_Mac_goOn_4 : decode b_Mac_goOn 4 = .ok (.invokestatic 49, 3) := by decide +kernel
theorem d_Mac_goOn_7 : decode b_Mac_goOn 7 = .ok (.istore 4, 2) := by decide +kernel
theorem d_Mac_goOn_9 : decode b_Mac_goOn 9 = .ok (.iconst 0, 1) := by decide +kernel
theorem d_Mac_goOn_10 : decode b_Mac_goOn 10 = .ok (.istore 5, 2) := by decide +kernel
theorem d_Mac_goOn_12 : decode b_Mac_goOn 12 = .ok (.iload 5, 2) := by decide +kernel
theorem d_Mac_goOn_14 : decode b_Mac_goOn 14 = .ok (.iload 4, 2) := by decide +kernel
theorem d_Mac_goOn_16 : decode b_Mac_goOn 16 = .ok (.if_icmp .ge 49, 3) := by decide +kernel
theorem d_Mac_goOn_19 : decode b_Mac_goOn 19 = .ok (.aload_n 0, 1) := by decide +kernel
theorem d_Mac_goOn_20 : decode b_Mac_goOn 20 = .ok (.getfield 43, 3) := by decide +kernel
theorem d_Mac_goOn_23 : decode b_Mac_goOn 23 = .ok (.ifCond .ne 42, 3) := by decide +kernel
theorem d_Mac_goOn_26 : decode b_Mac_goOn 26 = .ok (.aload_n 1, 1) := by decide +kernel
theorem d_Mac_goOn_27 : decode b_Mac_goOn 27 = .ok (.aload_n 0, 1) := by decide +kernel
theorem d_Mac_goOn_28 : decode b_Mac_goOn 28 = .ok (.getfield 40, 3) := by decide +kernel
theorem d_Mac_goOn_31 : decode b_Mac_goOn 31 = .ok (.invokevirtual 55, 3) := by decide +kernel
theorem d_Mac_goOn_34 : decode b_Mac_goOn 34 = .ok (.ifCond .eq 31, 3) := by decide +kernel
theorem d_Mac_goOn_37 : decode b_Mac_goOn 37 = .ok (.aload_n 0, 1) := by decide +kernel
theorem d_Mac_goOn_38 : decode b_Mac_goOn 38 = .ok (.aload_n 1, 1) := by decide +kernel
theorem d_Mac_goOn_39 : decode b_Mac_goOn 39 = .ok (.iload_n 2, 1) := by decide +kernel
theorem d_Mac_goOn_40 : decode b_Mac_goOn 40 = .ok (.ifCond .eq 15, 3) := by decide +kernel
theorem d_Mac_goOn_43 : decode b_Mac_goOn 43 = .ok (.aload_n 1, 1) := by decide +kernel
theorem d_Mac_goOn_44 : decode b_Mac_goOn 44 = .ok (.getfield 61, 3) := by decide +kernel
theorem d_Mac_goOn_47 : decode b_Mac_goOn 47 = .ok (.aload_n 0, 1) := by decide +kernel
theorem d_Mac_goOn_48 : decode b_Mac_goOn 48 = .ok (.getfield 40, 3) := by decide +kernel
theorem d_Mac_goOn_51 : decode b_Mac_goOn 51 = .ok (.iaload, 1) := by decide +kernel
theorem d_Mac_goOn_52 : decode b_Mac_goOn 52 = .ok (.goto 4, 3) := by decide +kernel
theorem d_Mac_goOn_55 : decode b_Mac_goOn 55 = .ok (.iconst 1, 1) := by decide +kernel
theorem d_Mac_goOn_56 : decode b_Mac_goOn 56 = .ok (.invokevirtual 64, 3) := by decide +kernel
theorem d_Mac_goOn_59 : decode b_Mac_goOn 59 = .ok (.iinc 5 1, 3) := by decide +kernel
theorem d_Mac_goOn_62 : decode b_Mac_goOn 62 = .ok (.goto (-50), 3) := by decide +kernel
theorem d_Mac_goOn_65 : decode b_Mac_goOn 65 = .ok (.iload 5, 2) := by decide +kernel
theorem d_Mac_goOn_67 : decode b_Mac_goOn 67 = .ok (.iload 4, 2) := by decide +kernel
theorem d_Mac_goOn_69 : decode b_Mac_goOn 69 = .ok (.if_icmp .ge 15, 3) := by decide +kernel
theorem d_Mac_goOn_72 : decode b_Mac_goOn 72 = .ok (.aload_n 0, 1) := by decide +kernel
theorem d_Mac_goOn_73 : decode b_Mac_goOn 73 = .ok (.getfield 43, 3) := by decide +kernel
theorem d_Mac_goOn_76 : decode b_Mac_goOn 76 = .ok (.ifCond .ne 8, 3) := by decide +kernel
theorem d_Mac_goOn_79 : decode b_Mac_goOn 79 = .ok (.aload_n 0, 1) := by decide +kernel
theorem d_Mac_goOn_80 : decode b_Mac_goOn 80 = .ok (.iconst 4, 1) := by decide +kernel
theorem d_Mac_goOn_81 : decode b_Mac_goOn 81 = .ok (.putfield 43, 3) := by decide +kernel
theorem d_Mac_goOn_84 : decode b_Mac_goOn 84 = .ok (.iload 5, 2) := by decide +kernel
theorem d_Mac_goOn_86 : decode b_Mac_goOn 86 = .ok (.ireturn, 1) := by decide +kernel
abbrev y_Mac_doRow : MethodName := ⟨"FusedEngine$Machine", "doRow", "(LFusedEngine$Program;I)V"⟩
abbrev b_Mac_doRow : ByteArray := prog_2_method_6_code
theorem d_Mac_doRow_0 : decode b_Mac_doRow 0 = .ok (.iconst 0, 1) := by decide +kernel
theorem d_Mac_doRow_1 : decode b_Mac_doRow 1 = .ok (.istore_n 3, 1) := by decide +kernel
theorem d_Mac_doRow_2 : decode b_Mac_doRow 2 = .ok (.iload_n 3, 1) := by decide +kernel
theorem d_Mac_doRow_3 : decode b_Mac_doRow 3 = .ok (.iload_n 2, 1) := by decide +kernel
theorem d_Mac_doRow_4 : decode b_Mac_doRow 4 = .ok (.if_icmp .ge 74, 3) := by decide +kernel
theorem d_Mac_doRow_7 : decode b_Mac_doRow 7 = .ok (.aload_n 0, 1) := by decide +kernel
theorem d_Mac_doRow_8 : decode b_Mac_doRow 8 = .ok (.getfield 43, 3) := by decide +kernel
theorem d_Mac_doRow_11 : decode b_Mac_doRow 11 = .ok (.ifCond .ne 67, 3) := by decide +kernel
theorem d_Mac_doRow_14 : decode b_Mac_doRow 14 = .ok (.aload_n 1, 1) := by decide +kernel
theorem d_Mac_doRow_15 : decode b_Mac_doRow 15 = .ok (.getfield 68, 3) := by decide +kernel
theorem d_Mac_doRow_18 : decode b_Mac_doRow 18 = .ok (.aload_n 0, 1) := by decide +kernel
theorem d_Mac_doRow_19 : decode b_Mac_doRow 19 = .ok (.getfield 40, 3) := by decide +kernel
theorem d_Mac_doRow_22 : decode b_Mac_doRow 22 = .ok (.iaload, 1) := by decide +kernel
theorem d_Mac_doRow_23 : decode b_Mac_doRow 23 = .ok (.istore 4, 2) := by decide +kernel
theorem d_Mac_doRow_25 : decode b_Mac_doRow 25 = .ok (.aload_n 0, 1) := by decide +kernel
theorem d_Mac_doRow_26 : decode b_Mac_doRow 26 = .ok (.iload 4, 2) := by decide +kernel
theorem d_Mac_doRow_28 : decode b_Mac_doRow 28 = .ok (.invokevirtual 71, 3) := by decide +kernel
theorem d_Mac_doRow_31 : decode b_Mac_doRow 31 = .ok (.istore 5, 2) := by decide +kernel
theorem d_Mac_doRow_33 : decode b_Mac_doRow 33 = .ok (.iload 5, 2) := by decide +kernel
theorem d_Mac_doRow_35 : decode b_Mac_doRow 35 = .ok (.ifCond .ne 31, 3) := by decide +kernel
theorem d_Mac_doRow_38 : decode b_Mac_doRow 38 = .ok (.aload_n 0, 1) := by decide +kernel
theorem d_Mac_doRow_39 : decode b_Mac_doRow 39 = .ok (.dup, 1) := by decide +kernel
theorem d_Mac_doRow_40 : decode b_Mac_doRow 40 = .ok (.getfield 46, 3) := by decide +kernel
theorem d_Mac_doRow_43 : decode b_Mac_doRow 43 = .ok (.iconst 1, 1) := by decide +kernel
theorem d_Mac_doRow_44 : decode b_Mac_doRow 44 = .ok (.iadd, 1) := by decide +kernel
theorem d_Mac_doRow_45 : decode b_Mac_doRow 45 = .ok (.putfield 46, 3) := by decide +kernel
theorem d_Mac_doRow_48 : decode b_Mac_doRow 48 = .ok (.aload_n 0, 1) := by decide +kernel
theorem d_Mac_doRow_49 : decode b_Mac_doRow 49 = .ok (.iload 4, 2) := by decide +kernel
theorem d_Mac_doRow_51 : decode b_Mac_doRow 51 = .ok (.aload_n 1, 1) := by decide +kernel
theorem d_Mac_doRow_52 : decode b_Mac_doRow 52 = .ok (.getfield 75, 3) := by decide +kernel
theorem d_Mac_doRow_55 : decode b_Mac_doRow 55 = .ok (.aload_n 0, 1) := by decide +kernel
theorem d_Mac_doRow_56 : decode b_Mac_doRow 56 = .ok (.getfield 40, 3) := by decide +kernel
theorem d_Mac_doRow_59 : decode b_Mac_doRow 59 = .ok (.iaload, 1) := by decide +kernel
theorem d_Mac_doRow_60 : decode b_Mac_doRow 60 = .ok (.invokevirtual 78, 3) := by decide +kernel
theorem d_Mac_doRow_63 : decode b_Mac_doRow 63 = .ok (.goto 9, 3) := by decide +kernel
theorem d_Mac_doRow_66 : decode b_Mac_doRow 66 = .ok (.aload_n 0, 1) := by decide +kernel
theorem d_Mac_doRow_67 : decode b_Mac_doRow 67 = .ok (.iload 5, 2) := by decide +kernel
theorem d_Mac_doRow_69 : decode b_Mac_doRow 69 = .ok (.putfield 43, 3) := by decide +kernel
theorem d_Mac_doRow_72 : decode b_Mac_doRow 72 = .ok (.iinc 3 1, 3) := by decide +kernel
theorem d_Mac_doRow_75 : decode b_Mac_doRow 75 = .ok (.goto (-73), 3) := by decide +kernel
theorem d_Mac_doRow_78 : decode b_Mac_doRow 78 = .ok (.return_, 1) := by decide +kernel
abbrev y_Mac_trapOf : MethodName := ⟨"FusedEngine$Machine", "trapOf", "(I)I"⟩
abbrev b_Mac_trapOf : ByteArray := prog_2_method_7_code
theorem d_Mac_trapOf_0 : decode b_Mac_trapOf 0 = .ok (.aload_n 0, 1) := by decide +kernel
theorem d_Mac_trapOf_1 : decode b_Mac_trapOf 1 = .ok (.getfield 30, 3) := by decide +kernel
theorem d_Mac_trapOf_4 : decode b_Mac_trapOf 4 = .ok (.iload_n 1, 1) := by decide +kernel
theorem d_Mac_trapOf_5 : decode b_Mac_trapOf 5 = .ok (.invokestatic 82, 3) := by decide +kernel
theorem d_Mac_trapOf_8 : decode b_Mac_trapOf 8 = .ok (.if_icmp .lt 16, 3) := by decide +kernel
theorem d_Mac_trapOf_11 : decode b_Mac_trapOf 11 = .ok (.iload_n 1, 1) := by decide +kernel
theorem d_Mac_trapOf_12 : decode b_Mac_trapOf 12 = .ok (.bipush 82, 2) := by decide +kernel
theorem d_Mac_trapOf_14 : decode b_Mac_trapOf 14 = .ok (.if_icmp .ne 12, 3) := by decide +kernel
theorem d_Mac_trapOf_17 : decode b_Mac_trapOf 17 = .ok (.aload_n 0, 1) := by decide +kernel
theorem d_Mac_trapOf_18 : decode b_Mac_trapOf 18 = .ok (.getfield 34, 3) := by decide +kernel
theorem d_Mac_trapOf_21 : decode b_Mac_trapOf 21 = .ok (.ifCond .ne 5, 3) := by decide +kernel
theorem d_Mac_trapOf_24 : decode b_Mac_trapOf 24 = .ok (.iconst 1, 1) := by decide +kernel
theorem d_Mac_trapOf_25 : decode b_Mac_trapOf 25 = .ok (.ireturn, 1) := by decide +kernel
theorem d_Mac_trapOf_26 : decode b_Mac_trapOf 26 = .ok (.iload_n 1, 1) := by decide +kernel
theorem d_Mac_trapOf_27 : decode b_Mac_trapOf 27 = .ok (.invokestatic 85, 3) := by decide +kernel
theorem d_Mac_trapOf_30 : decode b_Mac_trapOf 30 = .ok (.ifCond .eq 12, 3) := by decide +kernel
theorem d_Mac_trapOf_33 : decode b_Mac_trapOf 33 = .ok (.aload_n 0, 1) := by decide +kernel
theorem d_Mac_trapOf_34 : decode b_Mac_trapOf 34 = .ok (.getfield 30, 3) := by decide +kernel
theorem d_Mac_trapOf_37 : decode b_Mac_trapOf 37 = .ok (.bipush 40, 2) := by decide +kernel
theorem d_Mac_trapOf_39 : decode b_Mac_trapOf 39 = .ok (.if_icmp .eq 18, 3) := by decide +kernel
theorem d_Mac_trapOf_42 : decode b_Mac_trapOf 42 = .ok (.iload_n 1, 1) := by decide +kernel
theorem d_Mac_trapOf_43 : decode b_Mac_trapOf 43 = .ok (.bipush 67, 2) := by decide +kernel
theorem d_Mac_trapOf_45 : decode b_Mac_trapOf 45 = .ok (.if_icmp .ne 14, 3) := by decide +kernel
theorem d_Mac_trapOf_48 : decode b_Mac_trapOf 48 = .ok (.aload_n 0, 1) := by decide +kernel
theorem d_Mac_trapOf_49 : decode b_Mac_trapOf 49 = .ok (.getfield 34, 3) := by decide +kernel
theorem d_Mac_trapOf_52 : decode b_Mac_trapOf 52 = .ok (.bipush 10, 2) := by decide +kernel
theorem d_Mac_trapOf_54 : decode b_Mac_trapOf 54 = .ok (.if_icmp .ne 5, 3) := by decide +kernel
theorem d_Mac_trapOf_57 : decode b_Mac_trapOf 57 = .ok (.iconst 2, 1) := by decide +kernel
theorem d_Mac_trapOf_58 : decode b_Mac_trapOf 58 = .ok (.ireturn, 1) := by decide +kernel
theorem d_Mac_trapOf_59 : decode b_Mac_trapOf 59 = .ok (.iload_n 1, 1) := by decide +kernel
theorem d_Mac_trapOf_60 : decode b_Mac_trapOf 60 = .ok (.bipush 47, 2) := by decide +kernel
theorem d_Mac_trapOf_62 : decode b_Mac_trapOf 62 = .ok (.if_icmp .ne 19, 3) := by decide +kernel
theorem d_Mac_trapOf_65 : decode b_Mac_trapOf 65 = .ok (.aload_n 0, 1) := by decide +kernel
theorem d_Mac_trapOf_66 : decode b_Mac_trapOf 66 = .ok (.getfield 11, 3) := by decide +kernel
theorem d_Mac_trapOf_69 : decode b_Mac_trapOf 69 = .ok (.aload_n 0, 1) := by decide +kernel
theorem d_Mac_trapOf_70 : decode b_Mac_trapOf 70 = .ok (.getfield 30, 3) := by decide +kernel
theorem d_Mac_trapOf_73 : decode b_Mac_trapOf 73 = .ok (.iconst 1, 1) := by decide +kernel
theorem d_Mac_trapOf_74 : decode b_Mac_trapOf 74 = .ok (.isub, 1) := by decide +kernel
theorem d_Mac_trapOf_75 : decode b_Mac_trapOf 75 = .ok (.iaload, 1) := by decide +kernel
theorem d_Mac_trapOf_76 : decode b_Mac_trapOf 76 = .ok (.ifCond .ne 5, 3) := by decide +kernel
theorem d_Mac_trapOf_79 : decode b_Mac_trapOf 79 = .ok (.iconst 3, 1) := by decide +kernel
theorem d_Mac_trapOf_80 : decode b_Mac_trapOf 80 = .ok (.ireturn, 1) := by decide +kernel
theorem d_Mac_trapOf_81 : decode b_Mac_trapOf 81 = .ok (.iconst 0, 1) := by decide +kernel
theorem d_Mac_trapOf_82 : decode b_Mac_trapOf 82 = .ok (.ireturn, 1) := by decide +kernel
abbrev y_Mac_neededValues : MethodName := ⟨"FusedEngine$Machine", "neededValues", "(I)I"⟩
abbrev b_Mac_neededValues : ByteArray := prog_2_method_8_code
theorem d_Mac_neededValues_0 : decode b_Mac_neededValues 0 = .ok (.iload_n 0, 1) := by decide +kernel
theorem d_Mac_neededValues_1 : decode b_Mac_neededValues 1 = .ok (.tableswitch 215 42 90 #[211, 211, 215, 211, 215, 211, 215, 215, 215, 215, 215, 215, 215, 215, 215, 215, 215, 215, 211, 211, 215, 215, 215, 215, 215, 215, 213, 215, 215, 215, 215, 215, 215, 215, 215, 215, 215, 213, 215, 215, 215, 213, 215, 215, 213, 215, 211, 215, 213], 211) := by decide +kernel
theorem d_Mac_neededValues_212 : decode b_Mac_neededValues 212 = .ok (.iconst 2, 1) := by decide +kernel
theorem d_Mac_neededValues_213 : decode b_Mac_neededValues 213 = .ok (.ireturn, 1) := by decide +kernel
theorem d_Mac_neededValues_214 : decode b_Mac_neededValues 214 = .ok (.iconst 1, 1) := by decide +kernel
theorem d_Mac_neededValues_215 : decode b_Mac_neededValues 215 = .ok (.ireturn, 1) := by decide +kernel
theorem d_Mac_neededValues_216 : decode b_Mac_neededValues 216 = .ok (.iconst 0, 1) := by decide +kernel
theorem d_Mac_neededValues_217 : decode b_Mac_neededValues 217 = .ok (.ireturn, 1) := by decide +kernel
abbrev y_Mac_putsOneMore : MethodName := ⟨"FusedEngine$Machine", "putsOneMore", "(I)Z"⟩
abbrev b_Mac_putsOneMore : ByteArray := prog_2_method_9_code
theorem d_Mac_putsOneMore_0 : decode b_Mac_putsOneMore 0 = .ok (.iload_n 0, 1) := by decide +kernel
theorem d_Mac_putsOneMore_1 : decode b_Mac_putsOneMore 1 = .ok (.bipush 80, 2) := by decide +kernel
theorem d_Mac_putsOneMore_3 : decode b_Mac_putsOneMore 3 = .ok (.if_icmp .eq 15, 3) := by decide +kernel
theorem d_Mac_putsOneMore_6 : decode b_Mac_putsOneMore 6 = .ok (.iload_n 0, 1) := by decide +kernel
theorem d_Mac_putsOneMore_7 : decode b_Mac_putsOneMore 7 = .ok (.bipush 76, 2) := by decide +kernel
theorem d_Mac_putsOneMore_9 : decode b_Mac_putsOneMore 9 = .ok (.if_icmp .eq 9, 3) := by decide +kernel
theorem d_Mac_putsOneMore_12 : decode b_Mac_putsOneMore 12 = .ok (.iload_n 0, 1) := by decide +kernel
theorem d_Mac_putsOneMore_13 : decode b_Mac_putsOneMore 13 = .ok (.bipush 68, 2) := by decide +kernel
theorem d_Mac_putsOneMore_15 : decode b_Mac_putsOneMore 15 = .ok (.if_icmp .ne 7, 3) := by decide +kernel
theorem d_Mac_putsOneMore_18 : decode b_Mac_putsOneMore 18 = .ok (.iconst 1, 1) := by decide +kernel
theorem d_Mac_putsOneMore_19 : decode b_Mac_putsOneMore 19 = .ok (.goto 4, 3) := by decide +kernel
theorem d_Mac_putsOneMore_22 : decode b_Mac_putsOneMore 22 = .ok (.iconst 0, 1) := by decide +kernel
theorem d_Mac_putsOneMore_23 : decode b_Mac_putsOneMore 23 = .ok (.ireturn, 1) := by decide +kernel
abbrev y_Mac_act : MethodName := ⟨"FusedEngine$Machine", "act", "(II)V"⟩
abbrev b_Mac_act : ByteArray := prog_2_method_10_code
theorem d_Mac_act_0 : decode b_Mac_act 0 = .ok (.aload_n 0, 1) := by decide +kernel
theorem d_Mac_act_1 : decode b_Mac_act 1 = .ok (.getfield 40, 3) := by decide +kernel
theorem d_Mac_act_4 : decode b_Mac_act 4 = .ok (.iconst 1, 1) := by decide +kernel
theorem d_Mac_act_5 : decode b_Mac_act 5 = .ok (.iadd, 1) := by decide +kernel
theorem d_Mac_act_6 : decode b_Mac_act 6 = .ok (.istore_n 3, 1) := by decide +kernel
theorem d_Mac_act_7 : decode b_Mac_act 7 = .ok (.iload_n 1, 1) := by decide +kernel
theorem d_Mac_act_8 : decode b_Mac_act 8 = .ok (.tableswitch 272 67 90 #[211, 146, 272, 272, 272, 259, 272, 190, 272, 120, 272, 272, 171, 112, 272, 236, 133, 272, 272, 182, 272, 164, 272, 195], 112) := by decide +kernel
theorem d_Mac_act_120 : decode b_Mac_act 120 = .ok (.aload_n 0, 1) := by decide +kernel
theorem d_Mac_act_121 : decode b_Mac_act 121 = .ok (.iload_n 2, 1) := by decide +kernel
theorem d_Mac_act_122 : decode b_Mac_act 122 = .ok (.invokevirtual 88, 3) := by decide +kernel
theorem d_Mac_act_125 : decode b_Mac_act 125 = .ok (.goto 160, 3) := by decide +kernel
theorem d_Mac_act_128 : decode b_Mac_act 128 = .ok (.aload_n 0, 1) := by decide +kernel
theorem d_Mac_act_129 : decode b_Mac_act 129 = .ok (.aload_n 0, 1) := by decide +kernel
theorem d_Mac_act_130 : decode b_Mac_act 130 = .ok (.getfield 15, 3) := by decide +kernel
theorem d_Mac_act_133 : decode b_Mac_act 133 = .ok (.iload_n 2, 1) := by decide +kernel
theorem d_Mac_act_134 : decode b_Mac_act 134 = .ok (.iaload, 1) := by decide +kernel
theorem d_Mac_act_135 : decode b_Mac_act 135 = .ok (.invokevirtual 88, 3) := by decide +kernel
theorem d_Mac_act_138 : decode b_Mac_act 138 = .ok (.goto 147, 3) := by decide +kernel
theorem d_Mac_act_141 : decode b_Mac_act 141 = .ok (.aload_n 0, 1) := by decide +kernel
theorem d_Mac_act_142 : decode b_Mac_act 142 = .ok (.getfield 15, 3) := by decide +kernel
theorem d_Mac_act_145 : decode b_Mac_act 145 = .ok (.iload_n 2, 1) := by decide +kernel
theorem d_Mac_act_146 : decode b_Mac_act 146 = .ok (.aload_n 0, 1) := by decide +kernel
theorem d_Mac_act_147 : decode b_Mac_act 147 = .ok (.invokevirtual 92, 3) := by decide +kernel
theorem d_Mac_act_150 : decode b_Mac_act 150 = .ok (.iastore, 1) := by decide +kernel
theorem d_Mac_act_151 : decode b_Mac_act 151 = .ok (.goto 134, 3) := by decide +kernel
theorem d_Mac_act_154 : decode b_Mac_act 154 = .ok (.aload_n 0, 1) := by decide +kernel
theorem d_Mac_act_155 : decode b_Mac_act 155 = .ok (.aload_n 0, 1) := by decide +kernel
theorem d_Mac_act_156 : decode b_Mac_act 156 = .ok (.getfield 11, 3) := by decide +kernel
theorem d_Mac_act_159 : decode b_Mac_act 159 = .ok (.aload_n 0, 1) := by decide +kernel
theorem d_Mac_act_160 : decode b_Mac_act 160 = .ok (.getfield 30, 3) := by decide +kernel
theorem d_Mac_act_163 : decode b_Mac_act 163 = .ok (.iconst 1, 1) := by decide +kernel
theorem d_Mac_act_164 : decode b_Mac_act 164 = .ok (.isub, 1) := by decide +kernel
theorem d_Mac_act_165 : decode b_Mac_act 165 = .ok (.iaload, 1) := by decide +kernel
theorem d_Mac_act_166 : decode b_Mac_act 166 = .ok (.invokevirtual 88, 3) := by decide +kernel
theorem d_Mac_act_169 : decode b_Mac_act 169 = .ok (.goto 116, 3) := by decide +kernel
theorem d_Mac_act_172 : decode b_Mac_act 172 = .ok (.aload_n 0, 1) := by decide +kernel
theorem d_Mac_act_173 : decode b_Mac_act 173 = .ok (.invokevirtual 96, 3) := by decide +kernel
theorem d_Mac_act_176 : decode b_Mac_act 176 = .ok (.goto 109, 3) := by decide +kernel
theorem d_Mac_act_179 : decode b_Mac_act 179 = .ok (.aload_n 0, 1) := by decide +kernel
theorem d_Mac_act_180 : decode b_Mac_act 180 = .ok (.aload_n 0, 1) := by decide +kernel
theorem d_Mac_act_181 : decode b_Mac_act 181 = .ok (.invokevirtual 92, 3) := by decide +kernel
theorem d_Mac_act_184 : decode b_Mac_act 184 = .ok (.invokevirtual 99, 3) := by decide +kernel
theorem d_Mac_act_187 : decode b_Mac_act 187 = .ok (.goto 98, 3) := by decide +kernel
theorem d_Mac_act_190 : decode b_Mac_act 190 = .ok (.aload_n 0, 1) := by decide +kernel
theorem d_Mac_act_191 : decode b_Mac_act 191 = .ok (.invokevirtual 92, 3) := by decide +kernel
theorem d_Mac_act_194 : decode b_Mac_act 194 = .ok (.pop, 1) := by decide +kernel
theorem d_Mac_act_195 : decode b_Mac_act 195 = .ok (.goto 90, 3) := by decide +kernel
theorem d_Mac_act_198 : decode b_Mac_act 198 = .ok (.iload_n 2, 1) := by decide +kernel
theorem d_Mac_act_199 : decode b_Mac_act 199 = .ok (.istore_n 3, 1) := by decide +kernel
theorem d_Mac_act_200 : decode b_Mac_act 200 = .ok (.goto 85, 3) := by decide +kernel
theorem d_Mac_act_203 : decode b_Mac_act 203 = .ok (.aload_n 0, 1) := by decide +kernel
theorem d_Mac_act_204 : decode b_Mac_act 204 = .ok (.invokevirtual 92, 3) := by decide +kernel
theorem d_Mac_act_207 : decode b_Mac_act 207 = .ok (.ifCond .ne 7, 3) := by decide +kernel
theorem d_Mac_act_210 : decode b_Mac_act 210 = .ok (.iload_n 2, 1) := by decide +kernel
theorem d_Mac_act_211 : decode b_Mac_act 211 = .ok (.goto 4, 3) := by decide +kernel
theorem d_Mac_act_214 : decode b_Mac_act 214 = .ok (.iload_n 3, 1) := by decide +kernel
theorem d_Mac_act_215 : decode b_Mac_act 215 = .ok (.istore_n 3, 1) := by decide +kernel
theorem d_Mac_act_216 : decode b_Mac_act 216 = .ok (.goto 69, 3) := by decide +kernel
theorem d_Mac_act_219 : decode b_Mac_act 219 = .ok (.aload_n 0, 1) := by decide +kernel
theorem d_Mac_act_220 : decode b_Mac_act 220 = .ok (.getfield 21, 3) := by decide +kernel
theorem d_Mac_act_223 : decode b_Mac_act 223 = .ok (.aload_n 0, 1) := by decide +kernel
theorem d_Mac_act_224 : decode b_Mac_act 224 = .ok (.getfield 34, 3) := by decide +kernel
theorem d_Mac_act_227 : decode b_Mac_act 227 = .ok (.iload_n 3, 1) := by decide +kernel
theorem d_Mac_act_228 : decode b_Mac_act 228 = .ok (.iastore, 1) := by decide +kernel
theorem d_Mac_act_229 : decode b_Mac_act 229 = .ok (.aload_n 0, 1) := by decide +kernel
theorem d_Mac_act_230 : decode b_Mac_act 230 = .ok (.dup, 1) := by decide +kernel
theorem d_Mac_act_231 : decode b_Mac_act 231 = .ok (.getfield 34, 3) := by decide +kernel
theorem d_Mac_act_234 : decode b_Mac_act 234 = .ok (.iconst 1, 1) := by decide +kernel
theorem d_Mac_act_235 : decode b_Mac_act 235 = .ok (.iadd, 1) := by decide +kernel
theorem d_Mac_act_236 : decode b_Mac_act 236 = .ok (.putfield 34, 3) := by decide +kernel
theorem d_Mac_act_239 : decode b_Mac_act 239 = .ok (.iload_n 2, 1) := by decide +kernel
theorem d_Mac_act_240 : decode b_Mac_act 240 = .ok (.istore_n 3, 1) := by decide +kernel
theorem d_Mac_act_241 : decode b_Mac_act 241 = .ok (.goto 44, 3) := by decide +kernel
theorem d_Mac_act_244 : decode b_Mac_act 244 = .ok (.aload_n 0, 1) := by decide +kernel
theorem d_Mac_act_245 : decode b_Mac_act 245 = .ok (.dup, 1) := by decide +kernel
theorem d_Mac_act_246 : decode b_Mac_act 246 = .ok (.getfield 34, 3) := by decide +kernel
theorem d_Mac_act_249 : decode b_Mac_act 249 = .ok (.iconst 1, 1) := by decide +kernel
theorem d_Mac_act_250 : decode b_Mac_act 250 = .ok (.isub, 1) := by decide +kernel
theorem d_Mac_act_251 : decode b_Mac_act 251 = .ok (.putfield 34, 3) := by decide +kernel
theorem d_Mac_act_254 : decode b_Mac_act 254 = .ok (.aload_n 0, 1) := by decide +kernel
theorem d_Mac_act_255 : decode b_Mac_act 255 = .ok (.getfield 21, 3) := by decide +kernel
theorem d_Mac_act_258 : decode b_Mac_act 258 = .ok (.aload_n 0, 1) := by decide +kernel
theorem d_Mac_act_259 : decode b_Mac_act 259 = .ok (.getfield 34, 3) := by decide +kernel
theorem d_Mac_act_262 : decode b_Mac_act 262 = .ok (.iaload, 1) := by decide +kernel
theorem d_Mac_act_263 : decode b_Mac_act 263 = .ok (.istore_n 3, 1) := by decide +kernel
theorem d_Mac_act_264 : decode b_Mac_act 264 = .ok (.goto 21, 3) := by decide +kernel
theorem d_Mac_act_267 : decode b_Mac_act 267 = .ok (.aload_n 0, 1) := by decide +kernel
theorem d_Mac_act_268 : decode b_Mac_act 268 = .ok (.iconst 5, 1) := by decide +kernel
theorem d_Mac_act_269 : decode b_Mac_act 269 = .ok (.putfield 43, 3) := by decide +kernel
theorem d_Mac_act_272 : decode b_Mac_act 272 = .ok (.aload_n 0, 1) := by decide +kernel
theorem d_Mac_act_273 : decode b_Mac_act 273 = .ok (.getfield 40, 3) := by decide +kernel
theorem d_Mac_act_276 : decode b_Mac_act 276 = .ok (.istore_n 3, 1) := by decide +kernel
theorem d_Mac_act_277 : decode b_Mac_act 277 = .ok (.goto 8, 3) := by decide +kernel
theorem d_Mac_act_280 : decode b_Mac_act 280 = .ok (.aload_n 0, 1) := by decide +kernel
theorem d_Mac_act_281 : decode b_Mac_act 281 = .ok (.iload_n 1, 1) := by decide +kernel
theorem d_Mac_act_282 : decode b_Mac_act 282 = .ok (.invokevirtual 102, 3) := by decide +kernel
theorem d_Mac_act_285 : decode b_Mac_act 285 = .ok (.aload_n 0, 1) := by decide +kernel
theorem d_Mac_act_286 : decode b_Mac_act 286 = .ok (.iload_n 3, 1) := by decide +kernel
theorem d_Mac_act_287 : decode b_Mac_act 287 = .ok (.putfield 40, 3) := by decide +kernel
theorem d_Mac_act_290 : decode b_Mac_act 290 = .ok (.return_, 1) := by decide +kernel
abbrev y_Mac_push : MethodName := ⟨"FusedEngine$Machine", "push", "(I)V"⟩
abbrev b_Mac_push : ByteArray := prog_2_method_11_code
theorem d_Mac_push_0 : decode b_Mac_push 0 = .ok (.aload_n 0, 1) := by decide +kernel
theorem d_Mac_push_1 : decode b_Mac_push 1 = .ok (.getfield 11, 3) := by decide +kernel
theorem d_Mac_push_4 : decode b_Mac_push 4 = .ok (.aload_n 0, 1) := by decide +kernel
theorem d_Mac_push_5 : decode b_Mac_push 5 = .ok (.getfield 30, 3) := by decide +kernel
theorem d_Mac_push_8 : decode b_Mac_push 8 = .ok (.iload_n 1, 1) := by decide +kernel
theorem d_Mac_push_9 : decode b_Mac_push 9 = .ok (.iastore, 1) := by decide +kernel
theorem d_Mac_push_10 : decode b_Mac_push 10 = .ok (.aload_n 0, 1) := by decide +kernel
theorem d_Mac_push_11 : decode b_Mac_push 11 = .ok (.dup, 1) := by decide +kernel
theorem d_Mac_push_12 : decode b_Mac_push 12 = .ok (.getfield 30, 3) := by decide +kernel
theorem d_Mac_push_15 : decode b_Mac_push 15 = .ok (.iconst 1, 1) := by decide +kernel
theorem d_Mac_push_16 : decode b_Mac_push 16 = .ok (.iadd, 1) := by decide +kernel
theorem d_Mac_push_17 : decode b_Mac_push 17 = .ok (.putfield 30, 3) := by decide +kernel
theorem d_Mac_push_20 : decode b_Mac_push 20 = .ok (.return_, 1) := by decide +kernel
abbrev y_Mac_pop : MethodName := ⟨"FusedEngine$Machine", "pop", "()I"⟩
abbrev b_Mac_pop : ByteArray := prog_2_method_12_code
theorem d_Mac_pop_0 : decode b_Mac_pop 0 = .ok (.aload_n 0, 1) := by decide +kernel
theorem d_Mac_pop_1 : decode b_Mac_pop 1 = .ok (.dup, 1) := by decide +kernel
theorem d_Mac_pop_2 : decode b_Mac_pop 2 = .ok (.getfield 30, 3) := by decide +kernel
theorem d_Mac_pop_5 : decode b_Mac_pop 5 = .ok (.iconst 1, 1) := by decide +kernel
theorem d_Mac_pop_6 : decode b_Mac_pop 6 = .ok (.isub, 1) := by decide +kernel
theorem d_Mac_pop_7 : decode b_Mac_pop 7 = .ok (.putfield 30, 3) := by decide +kernel
theorem d_Mac_pop_10 : decode b_Mac_pop 10 = .ok (.aload_n 0, 1) := by decide +kernel
theorem d_Mac_pop_11 : decode b_Mac_pop 11 = .ok (.getfield 11, 3) := by decide +kernel
theorem d_Mac_pop_14 : decode b_Mac_pop 14 = .ok (.aload_n 0, 1) := by decide +kernel
theorem d_Mac_pop_15 : decode b_Mac_pop 15 = .ok (.getfield 30, 3) := by decide +kernel
theorem d_Mac_pop_18 : decode b_Mac_pop 18 = .ok (.iaload, 1) := by decide +kernel
theorem d_Mac_pop_19 : decode b_Mac_pop 19 = .ok (.ireturn, 1) := by decide +kernel
abbrev y_Mac_exchange : MethodName := ⟨"FusedEngine$Machine", "exchange", "()V"⟩
abbrev b_Mac_exchange : ByteArray := prog_2_method_13_code
theorem d_Mac_exchange_0 : decode b_Mac_exchange 0 = .ok (.aload_n 0, 1) := by decide +kernel
theorem d_Mac_exchange_1 : decode b_Mac_exchange 1 = .ok (.getfield 11, 3) := by decide +kernel
theorem d_Mac_exchange_4 : decode b_Mac_exchange 4 = .ok (.aload_n 0, 1) := by decide +kernel
theorem d_Mac_exchange_5 : decode b_Mac_exchange 5 = .ok (.getfield 30, 3) := by decide +kernel
theorem d_Mac_exchange_8 : decode b_Mac_exchange 8 = .ok (.iconst 1, 1) := by decide +kernel
theorem d_Mac_exchange_9 : decode b_Mac_exchange 9 = .ok (.isub, 1) := by decide +kernel
theorem d_Mac_exchange_10 : decode b_Mac_exchange 10 = .ok (.iaload, 1) := by decide +kernel
theorem d_Mac_exchange_11 : decode b_Mac_exchange 11 = .ok (.istore_n 1, 1) := by decide +kernel
theorem d_Mac_exchange_12 : decode b_Mac_exchange 12 = .ok (.aload_n 0, 1) := by decide +kernel
theorem d_Mac_exchange_13 : decode b_Mac_exchange 13 = .ok (.getfield 11, 3) := by decide +kernel
theorem d_Mac_exchange_16 : decode b_Mac_exchange 16 = .ok (.aload_n 0, 1) := by decide +kernel
theorem d_Mac_exchange_17 : decode b_Mac_exchange 17 = .ok (.getfield 30, 3) := by decide +kernel
theorem d_Mac_exchange_20 : decode b_Mac_exchange 20 = .ok (.iconst 1, 1) := by decide +kernel
theorem d_Mac_exchange_21 : decode b_Mac_exchange 21 = .ok (.isub, 1) := by decide +kernel
theorem d_Mac_exchange_22 : decode b_Mac_exchange 22 = .ok (.aload_n 0, 1) := by decide +kernel
theorem d_Mac_exchange_23 : decode b_Mac_exchange 23 = .ok (.getfield 11, 3) := by decide +kernel
theorem d_Mac_exchange_26 : decode b_Mac_exchange 26 = .ok (.aload_n 0, 1) := by decide +kernel
theorem d_Mac_exchange_27 : decode b_Mac_exchange 27 = .ok (.getfield 30, 3) := by decide +kernel
theorem d_Mac_exchange_30 : decode b_Mac_exchange 30 = .ok (.iconst 2, 1) := by decide +kernel
theorem d_Mac_exchange_31 : decode b_Mac_exchange 31 = .ok (.isub, 1) := by decide +kernel
theorem d_Mac_exchange_32 : decode b_Mac_exchange 32 = .ok (.iaload, 1) := by decide +kernel
theorem d_Mac_exchange_33 : decode b_Mac_exchange 33 = .ok (.iastore, 1) := by decide +kernel
theorem d_Mac_exchange_34 : decode b_Mac_exchange 34 = .ok (.aload_n 0, 1) := by decide +kernel
theorem d_Mac_exchange_35 : decode b_Mac_exchange 35 = .ok (.getfield 11, 3) := by decide +kernel
theorem d_Mac_exchange_38 : decode b_Mac_exchange 38 = .ok (.aload_n 0, 1) := by decide +kernel
theorem d_Mac_exchange_39 : decode b_Mac_exchange 39 = .ok (.getfield 30, 3) := by decide +kernel
theorem d_Mac_exchange_42 : decode b_Mac_exchange 42 = .ok (.iconst 2, 1) := by decide +kernel
theorem d_Mac_exchange_43 : decode b_Mac_exchange 43 = .ok (.isub, 1) := by decide +kernel
theorem d_Mac_exchange_44 : decode b_Mac_exchange 44 = .ok (.iload_n 1, 1) := by decide +kernel
theorem d_Mac_exchange_45 : decode b_Mac_exchange 45 = .ok (.iastore, 1) := by decide +kernel
theorem d_Mac_exchange_46 : decode b_Mac_exchange 46 = .ok (.return_, 1) := by decide +kernel
abbrev y_Mac_putOut : MethodName := ⟨"FusedEngine$Machine", "putOut", "(I)V"⟩
abbrev b_Mac_putOut : ByteArray := prog_2_method_14_code
theorem d_Mac_putOut_0 : decode b_Mac_putOut 0 = .ok (.aload_n 0, 1) := by decide +kernel
theorem d_Mac_putOut_1 : decode b_Mac_putOut 1 = .ok (.getfield 37, 3) := by decide +kernel
theorem d_Mac_putOut_4 : decode b_Mac_putOut 4 = .ok (.bipush 60, 2) := by decide +kernel
theorem d_Mac_putOut_6 : decode b_Mac_putOut 6 = .ok (.if_icmp .ge 13, 3) := by decide +kernel
theorem d_Mac_putOut_9 : decode b_Mac_putOut 9 = .ok (.aload_n 0, 1) := by decide +kernel
theorem d_Mac_putOut_10 : decode b_Mac_putOut 10 = .ok (.getfield 18, 3) := by decide +kernel
theorem d_Mac_putOut_13 : decode b_Mac_putOut 13 = .ok (.aload_n 0, 1) := by decide +kernel
theorem d_Mac_putOut_14 : decode b_Mac_putOut 14 = .ok (.getfield 37, 3) := by decide +kernel
theorem d_Mac_putOut_17 : decode b_Mac_putOut 17 = .ok (.iload_n 1, 1) := by decide +kernel
theorem d_Mac_putOut_18 : decode b_Mac_putOut 18 = .ok (.iastore, 1) := by decide +kernel
theorem d_Mac_putOut_19 : decode b_Mac_putOut 19 = .ok (.aload_n 0, 1) := by decide +kernel
theorem d_Mac_putOut_20 : decode b_Mac_putOut 20 = .ok (.dup, 1) := by decide +kernel
theorem d_Mac_putOut_21 : decode b_Mac_putOut 21 = .ok (.getfield 37, 3) := by decide +kernel
theorem d_Mac_putOut_24 : decode b_Mac_putOut 24 = .ok (.iconst 1, 1) := by decide +kernel
theorem d_Mac_putOut_25 : decode b_Mac_putOut 25 = .ok (.iadd, 1) := by decide +kernel
theorem d_Mac_putOut_26 : decode b_Mac_putOut 26 = .ok (.putfield 37, 3) := by decide +kernel
theorem d_Mac_putOut_29 : decode b_Mac_putOut 29 = .ok (.return_, 1) := by decide +kernel
abbrev y_Mac_combine : MethodName := ⟨"FusedEngine$Machine", "combine", "(I)V"⟩
abbrev b_Mac_combine : ByteArray := prog_2_method_15_code
theorem d_Mac_combine_0 : decode b_Mac_combine 0 = .ok (.aload_n 0, 1) := by decide +kernel
theorem d_Mac_combine_1 : decode b_Mac_combine 1 = .ok (.invokevirtual 92, 3) := by decide +kernel
theorem d_Mac_combine_4 : decode b_Mac_combine 4 = .ok (.istore_n 2, 1) := by decide +kernel
theorem d_Mac_combine_5 : decode b_Mac_combine 5 = .ok (.aload_n 0, 1) := by decide +kernel
theorem d_Mac_combine_6 : decode b_Mac_combine 6 = .ok (.invokevirtual 92, 3) := by decide +kernel
theorem d_Mac_combine_9 : decode b_Mac_combine 9 = .ok (.istore_n 3, 1) := by decide +kernel
theorem d_Mac_combine_10 : decode b_Mac_combine 10 = .ok (.aload_n 0, 1) := by decide +kernel
theorem d_Mac_combine_11 : decode b_Mac_combine 11 = .ok (.iload_n 1, 1) := by decide +kernel
theorem d_Mac_combine_12 : decode b_Mac_combine 12 = .ok (.iload_n 3, 1) := by decide +kernel
theorem d_Mac_combine_13 : decode b_Mac_combine 13 = .ok (.iload_n 2, 1) := by decide +kernel
theorem d_Mac_combine_14 : decode b_Mac_combine 14 = .ok (.invokestatic 105, 3) := by decide +kernel
theorem d_Mac_combine_17 : decode b_Mac_combine 17 = .ok (.invokevirtual 88, 3) := by decide +kernel
theorem d_Mac_combine_20 : decode b_Mac_combine 20 = .ok (.return_, 1) := by decide +kernel
abbrev y_Mac_resultOf : MethodName := ⟨"FusedEngine$Machine", "resultOf", "(III)I"⟩
abbrev b_Mac_resultOf : ByteArray := prog_2_method_16_code
theorem d_Mac_resultOf_0 : decode b_Mac_resultOf 0 = .ok (.iload_n 0, 1) := by decide +kernel
theorem d_Mac_resultOf_1 : decode b_Mac_resultOf 1 = .ok (.lookupswitch 78 #[(42, 59), (43, 51), (45, 55), (47, 63), (60, 67)], 51) := by decide +kernel
theorem d_Mac_resultOf_52 : decode b_Mac_resultOf 52 = .ok (.iload_n 1, 1) := by decide +kernel
theorem d_Mac_resultOf_53 : decode b_Mac_resultOf 53 = .ok (.iload_n 2, 1) := by decide +kernel
theorem d_Mac_resultOf_54 : decode b_Mac_resultOf 54 = .ok (.iadd, 1) := by decide +kernel
theorem d_Mac_resultOf_55 : decode b_Mac_resultOf 55 = .ok (.ireturn, 1) := by decide +kernel
theorem d_Mac_resultOf_56 : decode b_Mac_resultOf 56 = .ok (.iload_n 1, 1) := by decide +kernel
theorem d_Mac_resultOf_57 : decode b_Mac_resultOf 57 = .ok (.iload_n 2, 1) := by decide +kernel
theorem d_Mac_resultOf_58 : decode b_Mac_resultOf 58 = .ok (.isub, 1) := by decide +kernel
theorem d_Mac_resultOf_59 : decode b_Mac_resultOf 59 = .ok (.ireturn, 1) := by decide +kernel
theorem d_Mac_resultOf_60 : decode b_Mac_resultOf 60 = .ok (.iload_n 1, 1) := by decide +kernel
theorem d_Mac_resultOf_61 : decode b_Mac_resultOf 61 = .ok (.iload_n 2, 1) := by decide +kernel
theorem d_Mac_resultOf_62 : decode b_Mac_resultOf 62 = .ok (.imul, 1) := by decide +kernel
theorem d_Mac_resultOf_63 : decode b_Mac_resultOf 63 = .ok (.ireturn, 1) := by decide +kernel
theorem d_Mac_resultOf_64 : decode b_Mac_resultOf 64 = .ok (.iload_n 1, 1) := by decide +kernel
theorem d_Mac_resultOf_65 : decode b_Mac_resultOf 65 = .ok (.iload_n 2, 1) := by decide +kernel
theorem d_Mac_resultOf_66 : decode b_Mac_resultOf 66 = .ok (.idiv, 1) := by decide +kernel
theorem d_Mac_resultOf_67 : decode b_Mac_resultOf 67 = .ok (.ireturn, 1) := by decide +kernel
theorem d_Mac_resultOf_68 : decode b_Mac_resultOf 68 = .ok (.iload_n 1, 1) := by decide +kernel
theorem d_Mac_resultOf_69 : decode b_Mac_resultOf 69 = .ok (.iload_n 2, 1) := by decide +kernel
theorem d_Mac_resultOf_70 : decode b_Mac_resultOf 70 = .ok (.if_icmp .ge 7, 3) := by decide +kernel
theorem d_Mac_resultOf_73 : decode b_Mac_resultOf 73 = .ok (.iconst 1, 1) := by decide +kernel
theorem d_Mac_resultOf_74 : decode b_Mac_resultOf 74 = .ok (.goto 4, 3) := by decide +kernel
theorem d_Mac_resultOf_77 : decode b_Mac_resultOf 77 = .ok (.iconst 0, 1) := by decide +kernel
theorem d_Mac_resultOf_78 : decode b_Mac_resultOf 78 = .ok (.ireturn, 1) := by decide +kernel
theorem d_Mac_resultOf_79 : decode b_Mac_resultOf 79 = .ok (.iload_n 1, 1) := by decide +kernel
theorem d_Mac_resultOf_80 : decode b_Mac_resultOf 80 = .ok (.iload_n 2, 1) := by decide +kernel
theorem d_Mac_resultOf_81 : decode b_Mac_resultOf 81 = .ok (.if_icmp .ne 7, 3) := by decide +kernel
theorem d_Mac_resultOf_84 : decode b_Mac_resultOf 84 = .ok (.iconst 1, 1) := by decide +kernel
theorem d_Mac_resultOf_85 : decode b_Mac_resultOf 85 = .ok (.goto 4, 3) := by decide +kernel
theorem d_Mac_resultOf_88 : decode b_Mac_resultOf 88 = .ok (.iconst 0, 1) := by decide +kernel
theorem d_Mac_resultOf_89 : decode b_Mac_resultOf 89 = .ok (.ireturn, 1) := by decide +kernel
abbrev y_Row_letterOf : MethodName := ⟨"FusedEngine$Rows", "letterOf", "(II)I"⟩
abbrev b_Row_letterOf : ByteArray := prog_4_method_2_code
theorem d_Row_letterOf_0 : decode b_Row_letterOf 0 = .ok (.getstatic 7, 3) := by decide +kernel
theorem d_Row_letterOf_3 : decode b_Row_letterOf 3 = .ok (.iload_n 0, 1) := by decide +kernel
theorem d_Row_letterOf_4 : decode b_Row_letterOf 4 = .ok (.iconst 4, 1) := by decide +kernel
theorem d_Row_letterOf_5 : decode b_Row_letterOf 5 = .ok (.imul, 1) := by decide +kernel
theorem d_Row_letterOf_6 : decode b_Row_letterOf 6 = .ok (.iload_n 1, 1) := by decide +kernel
theorem d_Row_letterOf_7 : decode b_Row_letterOf 7 = .ok (.iadd, 1) := by decide +kernel
theorem d_Row_letterOf_8 : decode b_Row_letterOf 8 = .ok (.caload, 1) := by decide +kernel
theorem d_Row_letterOf_9 : decode b_Row_letterOf 9 = .ok (.ireturn, 1) := by decide +kernel
abbrev y_Row_lengthOf : MethodName := ⟨"FusedEngine$Rows", "lengthOf", "(I)I"⟩
abbrev b_Row_lengthOf : ByteArray := prog_4_method_3_code
theorem d_Row_lengthOf_0 : decode b_Row_lengthOf 0 = .ok (.iconst 0, 1) := by decide +kernel
theorem d_Row_lengthOf_1 : decode b_Row_lengthOf 1 = .ok (.istore_n 1, 1) := by decide +kernel
theorem d_Row_lengthOf_2 : decode b_Row_lengthOf 2 = .ok (.iload_n 1, 1) := by decide +kernel
theorem d_Row_lengthOf_3 : decode b_Row_lengthOf 3 = .ok (.iconst 4, 1) := by decide +kernel
theorem d_Row_lengthOf_4 : decode b_Row_lengthOf 4 = .ok (.if_icmp .ge 19, 3) := by decide +kernel
theorem d_Row_lengthOf_7 : decode b_Row_lengthOf 7 = .ok (.iload_n 0, 1) := by decide +kernel
theorem d_Row_lengthOf_8 : decode b_Row_lengthOf 8 = .ok (.iload_n 1, 1) := by decide +kernel
theorem d_Row_lengthOf_9 : decode b_Row_lengthOf 9 = .ok (.invokestatic 13, 3) := by decide +kernel
theorem d_Row_lengthOf_12 : decode b_Row_lengthOf 12 = .ok (.bipush 32, 2) := by decide +kernel
theorem d_Row_lengthOf_14 : decode b_Row_lengthOf 14 = .ok (.if_icmp .eq 9, 3) := by decide +kernel
theorem d_Row_lengthOf_17 : decode b_Row_lengthOf 17 = .ok (.iinc 1 1, 3) := by decide +kernel
theorem d_Row_lengthOf_20 : decode b_Row_lengthOf 20 = .ok (.goto (-18), 3) := by decide +kernel
theorem d_Row_lengthOf_23 : decode b_Row_lengthOf 23 = .ok (.iload_n 1, 1) := by decide +kernel
theorem d_Row_lengthOf_24 : decode b_Row_lengthOf 24 = .ok (.ireturn, 1) := by decide +kernel
abbrev y_Prg_init : MethodName := ⟨"FusedEngine$Program", "<init>", "()V"⟩
abbrev b_Prg_init : ByteArray := prog_3_method_1_code
theorem d_Prg_init_0 : decode b_Prg_init 0 = .ok (.aload_n 0, 1) := by decide +kernel
theorem d_Prg_init_1 : decode b_Prg_init 1 = .ok (.invokespecial 3, 3) := by decide +kernel
theorem d_Prg_init_4 : decode b_Prg_init 4 = .ok (.aload_n 0, 1) := by decide +kernel
theorem d_Prg_init_5 : decode b_Prg_init 5 = .ok (.bipush 80, 2) := by decide +kernel
theorem d_Prg_init_7 : decode b_Prg_init 7 = .ok (.newarray .int, 2) := by decide +kernel
theorem d_Prg_init_9 : decode b_Prg_init 9 = .ok (.putfield 11, 3) := by decide +kernel
theorem d_Prg_init_12 : decode b_Prg_init 12 = .ok (.aload_n 0, 1) := by decide +kernel
theorem d_Prg_init_13 : decode b_Prg_init 13 = .ok (.bipush 80, 2) := by decide +kernel
theorem d_Prg_init_15 : decode b_Prg_init 15 = .ok (.newarray .int, 2) := by decide +kernel
theorem d_Prg_init_17 : decode b_Prg_init 17 = .ok (.putfield 15, 3) := by decide +kernel
theorem d_Prg_init_20 : decode b_Prg_init 20 = .ok (.aload_n 0, 1) := by decide +kernel
theorem d_Prg_init_21 : decode b_Prg_init 21 = .ok (.bipush 80, 2) := by decide +kernel
theorem d_Prg_init_23 : decode b_Prg_init 23 = .ok (.newarray .boolean, 2) := by decide +kernel
theorem d_Prg_init_25 : decode b_Prg_init 25 = .ok (.putfield 18, 3) := by decide +kernel
theorem d_Prg_init_28 : decode b_Prg_init 28 = .ok (.aload_n 0, 1) := by decide +kernel
theorem d_Prg_init_29 : decode b_Prg_init 29 = .ok (.bipush 80, 2) := by decide +kernel
theorem d_Prg_init_31 : decode b_Prg_init 31 = .ok (.newarray .int, 2) := by decide +kernel
theorem d_Prg_init_33 : decode b_Prg_init 33 = .ok (.putfield 22, 3) := by decide +kernel
theorem d_Prg_init_36 : decode b_Prg_init 36 = .ok (.aload_n 0, 1) := by decide +kernel
theorem d_Prg_init_37 : decode b_Prg_init 37 = .ok (.bipush 80, 2) := by decide +kernel
theorem d_Prg_init_39 : decode b_Prg_init 39 = .ok (.newarray .int, 2) := by decide +kernel
theorem d_Prg_init_41 : decode b_Prg_init 41 = .ok (.putfield 25, 3) := by decide +kernel
theorem d_Prg_init_44 : decode b_Prg_init 44 = .ok (.return_, 1) := by decide +kernel
abbrev y_Prg_allows : MethodName := ⟨"FusedEngine$Program", "allows", "(II)Z"⟩
abbrev b_Prg_allows : ByteArray := prog_3_method_2_code
theorem d_Prg_allows_0 : decode b_Prg_allows 0 = .ok (.iload_n 0, 1) := by decide +kernel
theorem d_Prg_allows_1 : decode b_Prg_allows 1 = .ok (.bipush 76, 2) := by decide +kernel
theorem d_Prg_allows_3 : decode b_Prg_allows 3 = .ok (.if_icmp .eq 9, 3) := by decide +kernel
theorem d_Prg_allows_6 : decode b_Prg_allows 6 = .ok (.iload_n 0, 1) := by decide +kernel
theorem d_Prg_allows_7 : decode b_Prg_allows 7 = .ok (.bipush 83, 2) := by decide +kernel
theorem d_Prg_allows_9 : decode b_Prg_allows 9 = .ok (.if_icmp .ne 19, 3) := by decide +kernel
theorem d_Prg_allows_12 : decode b_Prg_allows 12 = .ok (.iload_n 1, 1) := by decide +kernel
theorem d_Prg_allows_13 : decode b_Prg_allows 13 = .ok (.ifCond .lt 13, 3) := by decide +kernel
theorem d_Prg_allows_16 : decode b_Prg_allows 16 = .ok (.iload_n 1, 1) := by decide +kernel
theorem d_Prg_allows_17 : decode b_Prg_allows 17 = .ok (.bipush 8, 2) := by decide +kernel
theorem d_Prg_allows_19 : decode b_Prg_allows 19 = .ok (.if_icmp .ge 7, 3) := by decide +kernel
theorem d_Prg_allows_22 : decode b_Prg_allows 22 = .ok (.iconst 1, 1) := by decide +kernel
theorem d_Prg_allows_23 : decode b_Prg_allows 23 = .ok (.goto 4, 3) := by decide +kernel
theorem d_Prg_allows_26 : decode b_Prg_allows 26 = .ok (.iconst 0, 1) := by decide +kernel
theorem d_Prg_allows_27 : decode b_Prg_allows 27 = .ok (.ireturn, 1) := by decide +kernel
theorem d_Prg_allows_28 : decode b_Prg_allows 28 = .ok (.iconst 0, 1) := by decide +kernel
theorem d_Prg_allows_29 : decode b_Prg_allows 29 = .ok (.istore_n 2, 1) := by decide +kernel
theorem d_Prg_allows_30 : decode b_Prg_allows 30 = .ok (.iload_n 2, 1) := by decide +kernel
theorem d_Prg_allows_31 : decode b_Prg_allows 31 = .ok (.ldc 30, 2) := by decide +kernel
theorem d_Prg_allows_33 : decode b_Prg_allows 33 = .ok (.invokevirtual 32, 3) := by decide +kernel
theorem d_Prg_allows_36 : decode b_Prg_allows 36 = .ok (.if_icmp .ge 21, 3) := by decide +kernel
theorem d_Prg_allows_39 : decode b_Prg_allows 39 = .ok (.ldc 30, 2) := by decide +kernel
theorem d_Prg_allows_41 : decode b_Prg_allows 41 = .ok (.iload_n 2, 1) := by decide +kernel
theorem d_Prg_allows_42 : decode b_Prg_allows 42 = .ok (.invokevirtual 38, 3) := by decide +kernel
theorem d_Prg_allows_45 : decode b_Prg_allows 45 = .ok (.iload_n 0, 1) := by decide +kernel
theorem d_Prg_allows_46 : decode b_Prg_allows 46 = .ok (.if_icmp .ne 5, 3) := by decide +kernel
theorem d_Prg_allows_49 : decode b_Prg_allows 49 = .ok (.iconst 1, 1) := by decide +kernel
theorem d_Prg_allows_50 : decode b_Prg_allows 50 = .ok (.ireturn, 1) := by decide +kernel
theorem d_Prg_allows_51 : decode b_Prg_allows 51 = .ok (.iinc 2 1, 3) := by decide +kernel
theorem d_Prg_allows_54 : decode b_Prg_allows 54 = .ok (.goto (-24), 3) := by decide +kernel
theorem d_Prg_allows_57 : decode b_Prg_allows 57 = .ok (.iconst 0, 1) := by decide +kernel
theorem d_Prg_allows_58 : decode b_Prg_allows 58 = .ok (.ireturn, 1) := by decide +kernel
abbrev y_Prg_has : MethodName := ⟨"FusedEngine$Program", "has", "(I)Z"⟩
abbrev b_Prg_has : ByteArray := prog_3_method_3_code
theorem d_Prg_has_0 : decode b_Prg_has 0 = .ok (.iload_n 1, 1) := by decide +kernel
theorem d_Prg_has_1 : decode b_Prg_has 1 = .ok (.ifCond .lt 15, 3) := by decide +kernel
theorem d_Prg_has_4 : decode b_Prg_has 4 = .ok (.iload_n 1, 1) := by decide +kernel
theorem d_Prg_has_5 : decode b_Prg_has 5 = .ok (.aload_n 0, 1) := by decide +kernel
theorem d_Prg_has_6 : decode b_Prg_has 6 = .ok (.getfield 42, 3) := by decide +kernel
theorem d_Prg_has_9 : decode b_Prg_has 9 = .ok (.if_icmp .ge 7, 3) := by decide +kernel
theorem d_Prg_has_12 : decode b_Prg_has 12 = .ok (.iconst 1, 1) := by decide +kernel
theorem d_Prg_has_13 : decode b_Prg_has 13 = .ok (.goto 4, 3) := by decide +kernel
theorem d_Prg_has_16 : decode b_Prg_has 16 = .ok (.iconst 0, 1) := by decide +kernel
theorem d_Prg_has_17 : decode b_Prg_has 17 = .ok (.ireturn, 1) := by decide +kernel
abbrev y_Prg_append : MethodName := ⟨"FusedEngine$Program", "append", "(II)I"⟩
abbrev b_Prg_append : ByteArray := prog_3_method_4_code
theorem d_Prg_append_0 : decode b_Prg_append 0 = .ok (.aload_n 0, 1) := by decide +kernel
theorem d_Prg_append_1 : decode b_Prg_append 1 = .ok (.getfield 42, 3) := by decide +kernel
theorem d_Prg_append_4 : decode b_Prg_append 4 = .ok (.istore_n 3, 1) := by decide +kernel
theorem d_Prg_append_5 : decode b_Prg_append 5 = .ok (.aload_n 0, 1) := by decide +kernel
theorem d_Prg_append_6 : decode b_Prg_append 6 = .ok (.dup, 1) := by decide +kernel
theorem d_Prg_append_7 : decode b_Prg_append 7 = .ok (.getfield 42, 3) := by decide +kernel
theorem d_Prg_append_10 : decode b_Prg_append 10 = .ok (.iconst 1, 1) := by decide +kernel
theorem d_Prg_append_11 : decode b_Prg_append 11 = .ok (.iadd, 1) := by decide +kernel
theorem d_Prg_append_12 : decode b_Prg_append 12 = .ok (.putfield 42, 3) := by decide +kernel
theorem d_Prg_append_15 : decode b_Prg_append 15 = .ok (.aload_n 0, 1) := by decide +kernel
theorem d_Prg_append_16 : decode b_Prg_append 16 = .ok (.iload_n 3, 1) := by decide +kernel
theorem d_Prg_append_17 : decode b_Prg_append 17 = .ok (.iload_n 1, 1) := by decide +kernel
theorem d_Prg_append_18 : decode b_Prg_append 18 = .ok (.iload_n 2, 1) := by decide +kernel
theorem d_Prg_append_19 : decode b_Prg_append 19 = .ok (.invokevirtual 46, 3) := by decide +kernel
theorem d_Prg_append_22 : decode b_Prg_append 22 = .ok (.iload_n 3, 1) := by decide +kernel
theorem d_Prg_append_23 : decode b_Prg_append 23 = .ok (.ireturn, 1) := by decide +kernel
abbrev y_Prg_replace : MethodName := ⟨"FusedEngine$Program", "replace", "(III)V"⟩
abbrev b_Prg_replace : ByteArray := prog_3_method_5_code
theorem d_Prg_replace_0 : decode b_Prg_replace 0 = .ok (.aload_n 0, 1) := by decide +kernel
theorem d_Prg_replace_1 : decode b_Prg_replace 1 = .ok (.getfield 11, 3) := by decide +kernel
theorem d_Prg_replace_4 : decode b_Prg_replace 4 = .ok (.iload_n 1, 1) := by decide +kernel
theorem d_Prg_replace_5 : decode b_Prg_replace 5 = .ok (.iload_n 2, 1) := by decide +kernel
theorem d_Prg_replace_6 : decode b_Prg_replace 6 = .ok (.iastore, 1) := by decide +kernel
theorem d_Prg_replace_7 : decode b_Prg_replace 7 = .ok (.aload_n 0, 1) := by decide +kernel
theorem d_Prg_replace_8 : decode b_Prg_replace 8 = .ok (.getfield 15, 3) := by decide +kernel
theorem d_Prg_replace_11 : decode b_Prg_replace 11 = .ok (.iload_n 1, 1) := by decide +kernel
theorem d_Prg_replace_12 : decode b_Prg_replace 12 = .ok (.iload_n 3, 1) := by decide +kernel
theorem d_Prg_replace_13 : decode b_Prg_replace 13 = .ok (.iastore, 1) := by decide +kernel
theorem d_Prg_replace_14 : decode b_Prg_replace 14 = .ok (.aload_n 0, 1) := by decide +kernel
theorem d_Prg_replace_15 : decode b_Prg_replace 15 = .ok (.iconst 0, 1) := by decide +kernel
theorem d_Prg_replace_16 : decode b_Prg_replace 16 = .ok (.putfield 50, 3) := by decide +kernel
theorem d_Prg_replace_19 : decode b_Prg_replace 19 = .ok (.aload_n 0, 1) := by decide +kernel
theorem d_Prg_replace_20 : decode b_Prg_replace 20 = .ok (.invokevirtual 54, 3) := by decide +kernel
theorem d_Prg_replace_23 : decode b_Prg_replace 23 = .ok (.return_, 1) := by decide +kernel
abbrev y_Prg_removeAll : MethodName := ⟨"FusedEngine$Program", "removeAll", "()V"⟩
abbrev b_Prg_removeAll : ByteArray := prog_3_method_6_code
theorem d_Prg_removeAll_0 : decode b_Prg_removeAll 0 = .ok (.aload_n 0, 1) := by decide +kernel
theorem d_Prg_removeAll_1 : decode b_Prg_removeAll 1 = .ok (.iconst 0, 1) := by decide +kernel
theorem d_Prg_removeAll_2 : decode b_Prg_removeAll 2 = .ok (.putfield 42, 3) := by decide +kernel
theorem d_Prg_removeAll_5 : decode b_Prg_removeAll 5 = .ok (.aload_n 0, 1) := by decide +kernel
theorem d_Prg_removeAll_6 : decode b_Prg_removeAll 6 = .ok (.iconst 0, 1) := by decide +kernel
theorem d_Prg_removeAll_7 : decode b_Prg_removeAll 7 = .ok (.putfield 50, 3) := by decide +kernel
theorem d_Prg_removeAll_10 : decode b_Prg_removeAll 10 = .ok (.return_, 1) := by decide +kernel
abbrev y_Prg_factOf : MethodName := ⟨"FusedEngine$Program", "factOf", "(II)I"⟩
abbrev b_Prg_factOf : ByteArray := prog_3_method_7_code
theorem d_Prg_factOf_0 : decode b_Prg_factOf 0 = .ok (.iload_n 2, 1) := by decide +kernel
theorem d_Prg_factOf_1 : decode b_Prg_factOf 1 = .ok (.tableswitch 48 0 2 #[27, 34, 41], 27) := by decide +kernel
theorem d_Prg_factOf_28 : decode b_Prg_factOf 28 = .ok (.aload_n 0, 1) := by decide +kernel
theorem d_Prg_factOf_29 : decode b_Prg_factOf 29 = .ok (.getfield 11, 3) := by decide +kernel
theorem d_Prg_factOf_32 : decode b_Prg_factOf 32 = .ok (.iload_n 1, 1) := by decide +kernel
theorem d_Prg_factOf_33 : decode b_Prg_factOf 33 = .ok (.iaload, 1) := by decide +kernel
theorem d_Prg_factOf_34 : decode b_Prg_factOf 34 = .ok (.ireturn, 1) := by decide +kernel
theorem d_Prg_factOf_35 : decode b_Prg_factOf 35 = .ok (.aload_n 0, 1) := by decide +kernel
theorem d_Prg_factOf_36 : decode b_Prg_factOf 36 = .ok (.getfield 15, 3) := by decide +kernel
theorem d_Prg_factOf_39 : decode b_Prg_factOf 39 = .ok (.iload_n 1, 1) := by decide +kernel
theorem d_Prg_factOf_40 : decode b_Prg_factOf 40 = .ok (.iaload, 1) := by decide +kernel
theorem d_Prg_factOf_41 : decode b_Prg_factOf 41 = .ok (.ireturn, 1) := by decide +kernel
theorem d_Prg_factOf_42 : decode b_Prg_factOf 42 = .ok (.aload_n 0, 1) := by decide +kernel
theorem d_Prg_factOf_43 : decode b_Prg_factOf 43 = .ok (.getfield 22, 3) := by decide +kernel
theorem d_Prg_factOf_46 : decode b_Prg_factOf 46 = .ok (.iload_n 1, 1) := by decide +kernel
theorem d_Prg_factOf_47 : decode b_Prg_factOf 47 = .ok (.iaload, 1) := by decide +kernel
theorem d_Prg_factOf_48 : decode b_Prg_factOf 48 = .ok (.ireturn, 1) := by decide +kernel
theorem d_Prg_factOf_49 : decode b_Prg_factOf 49 = .ok (.aload_n 0, 1) := by decide +kernel
theorem d_Prg_factOf_50 : decode b_Prg_factOf 50 = .ok (.getfield 18, 3) := by decide +kernel
theorem d_Prg_factOf_53 : decode b_Prg_factOf 53 = .ok (.iload_n 1, 1) := by decide +kernel
theorem d_Prg_factOf_54 : decode b_Prg_factOf 54 = .ok (.baload, 1) := by decide +kernel
theorem d_Prg_factOf_55 : decode b_Prg_factOf 55 = .ok (.ifCond .eq 7, 3) := by decide +kernel
theorem d_Prg_factOf_58 : decode b_Prg_factOf 58 = .ok (.iconst 1, 1) := by decide +kernel
theorem d_Prg_factOf_59 : decode b_Prg_factOf 59 = .ok (.goto 4, 3) := by decide +kernel
theorem d_Prg_factOf_62 : decode b_Prg_factOf 62 = .ok (.iconst 0, 1) := by decide +kernel
theorem d_Prg_factOf_63 : decode b_Prg_factOf 63 = .ok (.ireturn, 1) := by decide +kernel
abbrev y_Prg_findTargets : MethodName := ⟨"FusedEngine$Program", "findTargets", "()V"⟩
abbrev b_Prg_findTargets : ByteArray := prog_3_method_8_code
theorem d_Prg_findTargets_0 : decode b_Prg_findTargets 0 = .ok (.iconst 0, 1) := by decide +kernel
theorem d_Prg_findTargets_1 : decode b_Prg_findTargets 1 = .ok (.istore_n 1, 1) := by decide +kernel
theorem d_Prg_findTargets_2 : decode b_Prg_findTargets 2 = .ok (.iload_n 1, 1) := by decide +kernel
theorem d_Prg_findTargets_3 : decode b_Prg_findTargets 3 = .ok (.aload_n 0, 1) := by decide +kernel
theorem d_Prg_findTargets_4 : decode b_Prg_findTargets 4 = .ok (.getfield 42, 3) := by decide +kernel
theorem d_Prg_findTargets_7 : decode b_Prg_findTargets 7 = .ok (.if_icmp .ge 16, 3) := by decide +kernel
theorem d_Prg_findTargets_10 : decode b_Prg_findTargets 10 = .ok (.aload_n 0, 1) := by decide +kernel
theorem d_Prg_findTargets_11 : decode b_Prg_findTargets 11 = .ok (.getfield 18, 3) := by decide +kernel
theorem d_Prg_findTargets_14 : decode b_Prg_findTargets 14 = .ok (.iload_n 1, 1) := by decide +kernel
theorem d_Prg_findTargets_15 : decode b_Prg_findTargets 15 = .ok (.iconst 0, 1) := by decide +kernel
theorem d_Prg_findTargets_16 : decode b_Prg_findTargets 16 = .ok (.bastore, 1) := by decide +kernel
theorem d_Prg_findTargets_17 : decode b_Prg_findTargets 17 = .ok (.iinc 1 1, 3) := by decide +kernel
theorem d_Prg_findTargets_20 : decode b_Prg_findTargets 20 = .ok (.goto (-18), 3) := by decide +kernel
theorem d_Prg_findTargets_23 : decode b_Prg_findTargets 23 = .ok (.iconst 0, 1) := by decide +kernel
theorem d_Prg_findTargets_24 : decode b_Prg_findTargets 24 = .ok (.istore_n 1, 1) := by decide +kernel
theorem d_Prg_findTargets_25 : decode b_Prg_findTargets 25 = .ok (.iload_n 1, 1) := by decide +kernel
theorem d_Prg_findTargets_26 : decode b_Prg_findTargets 26 = .ok (.aload_n 0, 1) := by decide +kernel
theorem d_Prg_findTargets_27 : decode b_Prg_findTargets 27 = .ok (.getfield 42, 3) := by decide +kernel
theorem d_Prg_findTargets_30 : decode b_Prg_findTargets 30 = .ok (.if_icmp .ge 57, 3) := by decide +kernel
theorem d_Prg_findTargets_33 : decode b_Prg_findTargets 33 = .ok (.aload_n 0, 1) := by decide +kernel
theorem d_Prg_findTargets_34 : decode b_Prg_findTargets 34 = .ok (.getfield 11, 3) := by decide +kernel
theorem d_Prg_findTargets_37 : decode b_Prg_findTargets 37 = .ok (.iload_n 1, 1) := by decide +kernel
theorem d_Prg_findTargets_38 : decode b_Prg_findTargets 38 = .ok (.iaload, 1) := by decide +kernel
theorem d_Prg_findTargets_39 : decode b_Prg_findTargets 39 = .ok (.istore_n 2, 1) := by decide +kernel
theorem d_Prg_findTargets_40 : decode b_Prg_findTargets 40 = .ok (.iload_n 2, 1) := by decide +kernel
theorem d_Prg_findTargets_41 : decode b_Prg_findTargets 41 = .ok (.bipush 74, 2) := by decide +kernel
theorem d_Prg_findTargets_43 : decode b_Prg_findTargets 43 = .ok (.if_icmp .eq 15, 3) := by decide +kernel
theorem d_Prg_findTargets_46 : decode b_Prg_findTargets 46 = .ok (.iload_n 2, 1) := by decide +kernel
theorem d_Prg_findTargets_47 : decode b_Prg_findTargets 47 = .ok (.bipush 90, 2) := by decide +kernel
theorem d_Prg_findTargets_49 : decode b_Prg_findTargets 49 = .ok (.if_icmp .eq 9, 3) := by decide +kernel
theorem d_Prg_findTargets_52 : decode b_Prg_findTargets 52 = .ok (.iload_n 2, 1) := by decide +kernel
theorem d_Prg_findTargets_53 : decode b_Prg_findTargets 53 = .ok (.bipush 67, 2) := by decide +kernel
theorem d_Prg_findTargets_55 : decode b_Prg_findTargets 55 = .ok (.if_icmp .ne 13, 3) := by decide +kernel
theorem d_Prg_findTargets_58 : decode b_Prg_findTargets 58 = .ok (.aload_n 0, 1) := by decide +kernel
theorem d_Prg_findTargets_59 : decode b_Prg_findTargets 59 = .ok (.aload_n 0, 1) := by decide +kernel
theorem d_Prg_findTargets_60 : decode b_Prg_findTargets 60 = .ok (.getfield 15, 3) := by decide +kernel
theorem d_Prg_findTargets_63 : decode b_Prg_findTargets 63 = .ok (.iload_n 1, 1) := by decide +kernel
theorem d_Prg_findTargets_64 : decode b_Prg_findTargets 64 = .ok (.iaload, 1) := by decide +kernel
theorem d_Prg_findTargets_65 : decode b_Prg_findTargets 65 = .ok (.invokevirtual 57, 3) := by decide +kernel
theorem d_Prg_findTargets_68 : decode b_Prg_findTargets 68 = .ok (.iload_n 2, 1) := by decide +kernel
theorem d_Prg_findTargets_69 : decode b_Prg_findTargets 69 = .ok (.bipush 67, 2) := by decide +kernel
theorem d_Prg_findTargets_71 : decode b_Prg_findTargets 71 = .ok (.if_icmp .ne 10, 3) := by decide +kernel
theorem d_Prg_findTargets_74 : decode b_Prg_findTargets 74 = .ok (.aload_n 0, 1) := by decide +kernel
theorem d_Prg_findTargets_75 : decode b_Prg_findTargets 75 = .ok (.iload_n 1, 1) := by decide +kernel
theorem d_Prg_findTargets_76 : decode b_Prg_findTargets 76 = .ok (.iconst 1, 1) := by decide +kernel
theorem d_Prg_findTargets_77 : decode b_Prg_findTargets 77 = .ok (.iadd, 1) := by decide +kernel
theorem d_Prg_findTargets_78 : decode b_Prg_findTargets 78 = .ok (.invokevirtual 57, 3) := by decide +kernel
theorem d_Prg_findTargets_81 : decode b_Prg_findTargets 81 = .ok (.iinc 1 1, 3) := by decide +kernel
theorem d_Prg_findTargets_84 : decode b_Prg_findTargets 84 = .ok (.goto (-59), 3) := by decide +kernel
theorem d_Prg_findTargets_87 : decode b_Prg_findTargets 87 = .ok (.return_, 1) := by decide +kernel
abbrev y_Prg_markTarget : MethodName := ⟨"FusedEngine$Program", "markTarget", "(I)V"⟩
abbrev b_Prg_markTarget : ByteArray := prog_3_method_9_code
theorem d_Prg_markTarget_0 : decode b_Prg_markTarget 0 = .ok (.aload_n 0, 1) := by decide +kernel
theorem d_Prg_markTarget_1 : decode b_Prg_markTarget 1 = .ok (.iload_n 1, 1) := by decide +kernel
theorem d_Prg_markTarget_2 : decode b_Prg_markTarget 2 = .ok (.invokevirtual 61, 3) := by decide +kernel
theorem d_Prg_markTarget_5 : decode b_Prg_markTarget 5 = .ok (.ifCond .eq 10, 3) := by decide +kernel
theorem d_Prg_markTarget_8 : decode b_Prg_markTarget 8 = .ok (.aload_n 0, 1) := by decide +kernel
theorem d_Prg_markTarget_9 : decode b_Prg_markTarget 9 = .ok (.getfield 18, 3) := by decide +kernel
theorem d_Prg_markTarget_12 : decode b_Prg_markTarget 12 = .ok (.iload_n 1, 1) := by decide +kernel
theorem d_Prg_markTarget_13 : decode b_Prg_markTarget 13 = .ok (.iconst 1, 1) := by decide +kernel
theorem d_Prg_markTarget_14 : decode b_Prg_markTarget 14 = .ok (.bastore, 1) := by decide +kernel
theorem d_Prg_markTarget_15 : decode b_Prg_markTarget 15 = .ok (.return_, 1) := by decide +kernel
abbrev y_Prg_fuseRows : MethodName := ⟨"FusedEngine$Program", "fuseRows", "()I"⟩
abbrev b_Prg_fuseRows : ByteArray := prog_3_method_10_code
theorem d_Prg_fuseRows_0 : decode b_Prg_fuseRows 0 = .ok (.iconst 0, 1) := by decide +kernel
theorem d_Prg_fuseRows_1 : decode b_Prg_fuseRows 1 = .ok (.istore_n 1, 1) := by decide +kernel
theorem d_Prg_fuseRows_2 : decode b_Prg_fuseRows 2 = .ok (.iconst 0, 1) := by decide +kernel
theorem d_Prg_fuseRows_3 : decode b_Prg_fuseRows 3 = .ok (.istore_n 2, 1) := by decide +kernel
theorem d_Prg_fuseRows_4 : decode b_Prg_fuseRows 4 = .ok (.iconst 0, 1) := by decide +kernel
theorem d_Prg_fuseRows_5 : decode b_Prg_fuseRows 5 = .ok (.istore_n 3, 1) := by decide +kernel
theorem d_Prg_fuseRows_6 : decode b_Prg_fuseRows 6 = .ok (.iload_n 3, 1) := by decide +kernel
theorem d_Prg_fuseRows_7 : decode b_Prg_fuseRows 7 = .ok (.aload_n 0, 1) := by decide +kernel
theorem d_Prg_fuseRows_8 : decode b_Prg_fuseRows 8 = .ok (.getfield 42, 3) := by decide +kernel
theorem d_Prg_fuseRows_11 : decode b_Prg_fuseRows 11 = .ok (.if_icmp .ge 82, 3) := by decide +kernel
theorem d_Prg_fuseRows_14 : decode b_Prg_fuseRows 14 = .ok (.iload_n 2, 1) := by decide +kernel
theorem d_Prg_fuseRows_15 : decode b_Prg_fuseRows 15 = .ok (.ifCond .le 24, 3) := by decide +kernel
theorem d_Prg_fuseRows_18 : decode b_Prg_fuseRows 18 = .ok (.aload_n 0, 1) := by decide +kernel
theorem d_Prg_fuseRows_19 : decode b_Prg_fuseRows 19 = .ok (.getfield 22, 3) := by decide +kernel
theorem d_Prg_fuseRows_22 : decode b_Prg_fuseRows 22 = .ok (.iload_n 3, 1) := by decide +kernel
theorem d_Prg_fuseRows_23 : decode b_Prg_fuseRows 23 = .ok (.bipush (-2), 2) := by decide +kernel
theorem d_Prg_fuseRows_25 : decode b_Prg_fuseRows 25 = .ok (.iastore, 1) := by decide +kernel
theorem d_Prg_fuseRows_26 : decode b_Prg_fuseRows 26 = .ok (.aload_n 0, 1) := by decide +kernel
theorem d_Prg_fuseRows_27 : decode b_Prg_fuseRows 27 = .ok (.getfield 25, 3) := by decide +kernel
theorem d_Prg_fuseRows_30 : decode b_Prg_fuseRows 30 = .ok (.iload_n 3, 1) := by decide +kernel
theorem d_Prg_fuseRows_31 : decode b_Prg_fuseRows 31 = .ok (.iconst 1, 1) := by decide +kernel
theorem d_Prg_fuseRows_32 : decode b_Prg_fuseRows 32 = .ok (.iastore, 1) := by decide +kernel
theorem d_Prg_fuseRows_33 : decode b_Prg_fuseRows 33 = .ok (.iinc 2 (-1), 3) := by decide +kernel
theorem d_Prg_fuseRows_36 : decode b_Prg_fuseRows 36 = .ok (.goto 51, 3) := by decide +kernel
theorem d_Prg_fuseRows_39 : decode b_Prg_fuseRows 39 = .ok (.aload_n 0, 1) := by decide +kernel
theorem d_Prg_fuseRows_40 : decode b_Prg_fuseRows 40 = .ok (.iload_n 3, 1) := by decide +kernel
theorem d_Prg_fuseRows_41 : decode b_Prg_fuseRows 41 = .ok (.invokevirtual 65, 3) := by decide +kernel
theorem d_Prg_fuseRows_44 : decode b_Prg_fuseRows 44 = .ok (.istore 4, 2) := by decide +kernel
theorem d_Prg_fuseRows_46 : decode b_Prg_fuseRows 46 = .ok (.aload_n 0, 1) := by decide +kernel
theorem d_Prg_fuseRows_47 : decode b_Prg_fuseRows 47 = .ok (.getfield 22, 3) := by decide +kernel
theorem d_Prg_fuseRows_50 : decode b_Prg_fuseRows 50 = .ok (.iload_n 3, 1) := by decide +kernel
theorem d_Prg_fuseRows_51 : decode b_Prg_fuseRows 51 = .ok (.iload 4, 2) := by decide +kernel
theorem d_Prg_fuseRows_53 : decode b_Prg_fuseRows 53 = .ok (.iastore, 1) := by decide +kernel
theorem d_Prg_fuseRows_54 : decode b_Prg_fuseRows 54 = .ok (.aload_n 0, 1) := by decide +kernel
theorem d_Prg_fuseRows_55 : decode b_Prg_fuseRows 55 = .ok (.getfield 25, 3) := by decide +kernel
theorem d_Prg_fuseRows_58 : decode b_Prg_fuseRows 58 = .ok (.iload_n 3, 1) := by decide +kernel
theorem d_Prg_fuseRows_59 : decode b_Prg_fuseRows 59 = .ok (.iload 4, 2) := by decide +kernel
theorem d_Prg_fuseRows_61 : decode b_Prg_fuseRows 61 = .ok (.iconst (-1), 1) := by decide +kernel
theorem d_Prg_fuseRows_62 : decode b_Prg_fuseRows 62 = .ok (.if_icmp .ne 7, 3) := by decide +kernel
theorem d_Prg_fuseRows_65 : decode b_Prg_fuseRows 65 = .ok (.iconst 1, 1) := by decide +kernel
theorem d_Prg_fuseRows_66 : decode b_Prg_fuseRows 66 = .ok (.goto 8, 3) := by decide +kernel
theorem d_Prg_fuseRows_69 : decode b_Prg_fuseRows 69 = .ok (.iload 4, 2) := by decide +kernel
theorem d_Prg_fuseRows_71 : decode b_Prg_fuseRows 71 = .ok (.invokestatic 69, 3) := by decide +kernel
theorem d_Prg_fuseRows_74 : decode b_Prg_fuseRows 74 = .ok (.iastore, 1) := by decide +kernel
theorem d_Prg_fuseRows_75 : decode b_Prg_fuseRows 75 = .ok (.aload_n 0, 1) := by decide +kernel
theorem d_Prg_fuseRows_76 : decode b_Prg_fuseRows 76 = .ok (.getfield 25, 3) := by decide +kernel
theorem d_Prg_fuseRows_79 : decode b_Prg_fuseRows 79 = .ok (.iload_n 3, 1) := by decide +kernel
theorem d_Prg_fuseRows_80 : decode b_Prg_fuseRows 80 = .ok (.iaload, 1) := by decide +kernel
theorem d_Prg_fuseRows_81 : decode b_Prg_fuseRows 81 = .ok (.iconst 1, 1) := by decide +kernel
theorem d_Prg_fuseRows_82 : decode b_Prg_fuseRows 82 = .ok (.isub, 1) := by decide +kernel
theorem d_Prg_fuseRows_83 : decode b_Prg_fuseRows 83 = .ok (.istore_n 2, 1) := by decide +kernel
theorem d_Prg_fuseRows_84 : decode b_Prg_fuseRows 84 = .ok (.iinc 1 1, 3) := by decide +kernel
theorem d_Prg_fuseRows_87 : decode b_Prg_fuseRows 87 = .ok (.iinc 3 1, 3) := by decide +kernel
theorem d_Prg_fuseRows_90 : decode b_Prg_fuseRows 90 = .ok (.goto (-84), 3) := by decide +kernel
theorem d_Prg_fuseRows_93 : decode b_Prg_fuseRows 93 = .ok (.aload_n 0, 1) := by decide +kernel
theorem d_Prg_fuseRows_94 : decode b_Prg_fuseRows 94 = .ok (.iconst 1, 1) := by decide +kernel
theorem d_Prg_fuseRows_95 : decode b_Prg_fuseRows 95 = .ok (.putfield 50, 3) := by decide +kernel
theorem d_Prg_fuseRows_98 : decode b_Prg_fuseRows 98 = .ok (.iload_n 1, 1) := by decide +kernel
theorem d_Prg_fuseRows_99 : decode b_Prg_fuseRows 99 = .ok (.ireturn, 1) := by decide +kernel
abbrev y_Prg_longestRowAt : MethodName := ⟨"FusedEngine$Program", "longestRowAt", "(I)I"⟩
abbrev b_Prg_longestRowAt : ByteArray := prog_3_method_11_code
theorem d_Prg_longestRowAt_0 : decode b_Prg_longestRowAt 0 = .ok (.iconst (-1), 1) := by decide +kernel
theorem d_Prg_longestRowAt_1 : decode b_Prg_longestRowAt 1 = .ok (.istore_n 2, 1) := by decide +kernel
theorem d_Prg_longestRowAt_2 : decode b_Prg_longestRowAt 2 = .ok (.iconst 0, 1) := by decide +kernel
theorem d_Prg_longestRowAt_3 : decode b_Prg_longestRowAt 3 = .ok (.istore_n 3, 1) := by decide +kernel
theorem d_Prg_longestRowAt_4 : decode b_Prg_longestRowAt 4 = .ok (.iconst 0, 1) := by decide +kernel
theorem d_Prg_longestRowAt_5 : decode b_Prg_longestRowAt 5 = .ok (.istore 4, 2) := by decide +kernel
theorem d_Prg_longestRowAt_7 : decode b_Prg_longestRowAt 7 = .ok (.iload 4, 2) := by decide +kernel
theorem d_Prg_longestRowAt_9 : decode b_Prg_longestRowAt 9 = .ok (.bipush 20, 2) := by decide +kernel
theorem d_Prg_longestRowAt_11 : decode b_Prg_longestRowAt 11 = .ok (.if_icmp .ge 55, 3) := by decide +kernel
theorem d_Prg_longestRowAt_14 : decode b_Prg_longestRowAt 14 = .ok (.iload 4, 2) := by decide +kernel
theorem d_Prg_longestRowAt_16 : decode b_Prg_longestRowAt 16 = .ok (.iconst 0, 1) := by decide +kernel
theorem d_Prg_longestRowAt_17 : decode b_Prg_longestRowAt 17 = .ok (.invokestatic 74, 3) := by decide +kernel
theorem d_Prg_longestRowAt_20 : decode b_Prg_longestRowAt 20 = .ok (.aload_n 0, 1) := by decide +kernel
theorem d_Prg_longestRowAt_21 : decode b_Prg_longestRowAt 21 = .ok (.getfield 11, 3) := by decide +kernel
theorem d_Prg_longestRowAt_24 : decode b_Prg_longestRowAt 24 = .ok (.iload_n 1, 1) := by decide +kernel
theorem d_Prg_longestRowAt_25 : decode b_Prg_longestRowAt 25 = .ok (.iaload, 1) := by decide +kernel
theorem d_Prg_longestRowAt_26 : decode b_Prg_longestRowAt 26 = .ok (.if_icmp .ne 34, 3) := by decide +kernel
theorem d_Prg_longestRowAt_29 : decode b_Prg_longestRowAt 29 = .ok (.iload 4, 2) := by decide +kernel
theorem d_Prg_longestRowAt_31 : decode b_Prg_longestRowAt 31 = .ok (.invokestatic 69, 3) := by decide +kernel
theorem d_Prg_longestRowAt_34 : decode b_Prg_longestRowAt 34 = .ok (.istore 5, 2) := by decide +kernel
theorem d_Prg_longestRowAt_36 : decode b_Prg_longestRowAt 36 = .ok (.iload 5, 2) := by decide +kernel
theorem d_Prg_longestRowAt_38 : decode b_Prg_longestRowAt 38 = .ok (.iload_n 3, 1) := by decide +kernel
theorem d_Prg_longestRowAt_39 : decode b_Prg_longestRowAt 39 = .ok (.if_icmp .le 21, 3) := by decide +kernel
theorem d_Prg_longestRowAt_42 : decode b_Prg_longestRowAt 42 = .ok (.aload_n 0, 1) := by decide +kernel
theorem d_Prg_longestRowAt_43 : decode b_Prg_longestRowAt 43 = .ok (.iload_n 1, 1) := by decide +kernel
theorem d_Prg_longestRowAt_44 : decode b_Prg_longestRowAt 44 = .ok (.iload 4, 2) := by decide +kernel
theorem d_Prg_longestRowAt_46 : decode b_Prg_longestRowAt 46 = .ok (.iload 5, 2) := by decide +kernel
theorem d_Prg_longestRowAt_48 : decode b_Prg_longestRowAt 48 = .ok (.invokevirtual 78, 3) := by decide +kernel
theorem d_Prg_longestRowAt_51 : decode b_Prg_longestRowAt 51 = .ok (.ifCond .eq 9, 3) := by decide +kernel
theorem d_Prg_longestRowAt_54 : decode b_Prg_longestRowAt 54 = .ok (.iload 4, 2) := by decide +kernel
theorem d_Prg_longestRowAt_56 : decode b_Prg_longestRowAt 56 = .ok (.istore_n 2, 1) := by decide +kernel
theorem d_Prg_longestRowAt_57 : decode b_Prg_longestRowAt 57 = .ok (.iload 5, 2) := by decide +kernel
theorem d_Prg_longestRowAt_59 : decode b_Prg_longestRowAt 59 = .ok (.istore_n 3, 1) := by decide +kernel
theorem d_Prg_longestRowAt_60 : decode b_Prg_longestRowAt 60 = .ok (.iinc 4 1, 3) := by decide +kernel
theorem d_Prg_longestRowAt_63 : decode b_Prg_longestRowAt 63 = .ok (.goto (-56), 3) := by decide +kernel
theorem d_Prg_longestRowAt_66 : decode b_Prg_longestRowAt 66 = .ok (.iload_n 2, 1) := by decide +kernel
theorem d_Prg_longestRowAt_67 : decode b_Prg_longestRowAt 67 = .ok (.ireturn, 1) := by decide +kernel
abbrev y_Prg_isRowAt : MethodName := ⟨"FusedEngine$Program", "isRowAt", "(III)Z"⟩
abbrev b_Prg_isRowAt : ByteArray := prog_3_method_12_code
theorem d_Prg_isRowAt_0 : decode b_Prg_isRowAt 0 = .ok (.iload_n 1, 1) := by decide +kernel
theorem d_Prg_isRowAt_1 : decode b_Prg_isRowAt 1 = .ok (.iload_n 3, 1) := by decide +kernel
theorem d_Prg_isRowAt_2 : decode b_Prg_isRowAt 2 = .ok (.iadd, 1) := by decide +kernel
theorem d_Prg_isRowAt_3 : decode b_Prg_isRowAt 3 = .ok (.aload_n 0, 1) := by decide +kernel
theorem d_Prg_isRowAt_4 : decode b_Prg_isRowAt 4 = .ok (.getfield 42, 3) := by decide +kernel
theorem d_Prg_isRowAt_7 : decode b_Prg_isRowAt 7 = .ok (.if_icmp .le 5, 3) := by decide +kernel
theorem d_Prg_isRowAt_10 : decode b_Prg_isRowAt 10 = .ok (.iconst 0, 1) := by decide +kernel
theorem d_Prg_isRowAt_11 : decode b_Prg_isRowAt 11 = .ok (.ireturn, 1) := by decide +kernel
theorem d_Prg_isRowAt_12 : decode b_Prg_isRowAt 12 = .ok (.iconst 0, 1) := by decide +kernel
theorem d_Prg_isRowAt_13 : decode b_Prg_isRowAt 13 = .ok (.istore 4, 2) := by decide +kernel
theorem d_Prg_isRowAt_15 : decode b_Prg_isRowAt 15 = .ok (.iload 4, 2) := by decide +kernel
theorem d_Prg_isRowAt_17 : decode b_Prg_isRowAt 17 = .ok (.iload_n 3, 1) := by decide +kernel
theorem d_Prg_isRowAt_18 : decode b_Prg_isRowAt 18 = .ok (.if_icmp .ge 48, 3) := by decide +kernel
theorem d_Prg_isRowAt_21 : decode b_Prg_isRowAt 21 = .ok (.aload_n 0, 1) := by decide +kernel
theorem d_Prg_isRowAt_22 : decode b_Prg_isRowAt 22 = .ok (.getfield 11, 3) := by decide +kernel
theorem d_Prg_isRowAt_25 : decode b_Prg_isRowAt 25 = .ok (.iload_n 1, 1) := by decide +kernel
theorem d_Prg_isRowAt_26 : decode b_Prg_isRowAt 26 = .ok (.iload 4, 2) := by decide +kernel
theorem d_Prg_isRowAt_28 : decode b_Prg_isRowAt 28 = .ok (.iadd, 1) := by decide +kernel
theorem d_Prg_isRowAt_29 : decode b_Prg_isRowAt 29 = .ok (.iaload, 1) := by decide +kernel
theorem d_Prg_isRowAt_30 : decode b_Prg_isRowAt 30 = .ok (.iload_n 2, 1) := by decide +kernel
theorem d_Prg_isRowAt_31 : decode b_Prg_isRowAt 31 = .ok (.iload 4, 2) := by decide +kernel
theorem d_Prg_isRowAt_33 : decode b_Prg_isRowAt 33 = .ok (.invokestatic 74, 3) := by decide +kernel
theorem d_Prg_isRowAt_36 : decode b_Prg_isRowAt 36 = .ok (.if_icmp .eq 5, 3) := by decide +kernel
theorem d_Prg_isRowAt_39 : decode b_Prg_isRowAt 39 = .ok (.iconst 0, 1) := by decide +kernel
theorem d_Prg_isRowAt_40 : decode b_Prg_isRowAt 40 = .ok (.ireturn, 1) := by decide +kernel
theorem d_Prg_isRowAt_41 : decode b_Prg_isRowAt 41 = .ok (.iload 4, 2) := by decide +kernel
theorem d_Prg_isRowAt_43 : decode b_Prg_isRowAt 43 = .ok (.ifCond .le 17, 3) := by decide +kernel
theorem d_Prg_isRowAt_46 : decode b_Prg_isRowAt 46 = .ok (.aload_n 0, 1) := by decide +kernel
theorem d_Prg_isRowAt_47 : decode b_Prg_isRowAt 47 = .ok (.getfield 18, 3) := by decide +kernel
theorem d_Prg_isRowAt_50 : decode b_Prg_isRowAt 50 = .ok (.iload_n 1, 1) := by decide +kernel
theorem d_Prg_isRowAt_51 : decode b_Prg_isRowAt 51 = .ok (.iload 4, 2) := by decide +kernel
theorem d_Prg_isRowAt_53 : decode b_Prg_isRowAt 53 = .ok (.iadd, 1) := by decide +kernel
theorem d_Prg_isRowAt_54 : decode b_Prg_isRowAt 54 = .ok (.baload, 1) := by decide +kernel
theorem d_Prg_isRowAt_55 : decode b_Prg_isRowAt 55 = .ok (.ifCond .eq 5, 3) := by decide +kernel
theorem d_Prg_isRowAt_58 : decode b_Prg_isRowAt 58 = .ok (.iconst 0, 1) := by decide +kernel
theorem d_Prg_isRowAt_59 : decode b_Prg_isRowAt 59 = .ok (.ireturn, 1) := by decide +kernel
theorem d_Prg_isRowAt_60 : decode b_Prg_isRowAt 60 = .ok (.iinc 4 1, 3) := by decide +kernel
theorem d_Prg_isRowAt_63 : decode b_Prg_isRowAt 63 = .ok (.goto (-48), 3) := by decide +kernel
theorem d_Prg_isRowAt_66 : decode b_Prg_isRowAt 66 = .ok (.iconst 1, 1) := by decide +kernel
theorem d_Prg_isRowAt_67 : decode b_Prg_isRowAt 67 = .ok (.ireturn, 1) := by decide +kernel
abbrev y_Eng_init : MethodName := ⟨"FusedEngine", "<init>", "()V"⟩
abbrev b_Eng_init : ByteArray := prog_1_method_1_code
theorem d_Eng_init_0 : decode b_Eng_init 0 = .ok (.aload_n 0, 1) := by decide +kernel
theorem d_Eng_init_1 : decode b_Eng_init 1 = .ok (.invokespecial 1, 3) := by decide +kernel
theorem d_Eng_init_4 : decode b_Eng_init 4 = .ok (.aload_n 0, 1) := by decide +kernel
theorem d_Eng_init_5 : decode b_Eng_init 5 = .ok (.new 7, 3) := by decide +kernel
theorem d_Eng_init_8 : decode b_Eng_init 8 = .ok (.dup, 1) := by decide +kernel
theorem d_Eng_init_9 : decode b_Eng_init 9 = .ok (.invokespecial 9, 3) := by decide +kernel
theorem d_Eng_init_12 : decode b_Eng_init 12 = .ok (.putfield 10, 3) := by decide +kernel
theorem d_Eng_init_15 : decode b_Eng_init 15 = .ok (.aload_n 0, 1) := by decide +kernel
theorem d_Eng_init_16 : decode b_Eng_init 16 = .ok (.new 16, 3) := by decide +kernel
theorem d_Eng_init_19 : decode b_Eng_init 19 = .ok (.dup, 1) := by decide +kernel
theorem d_Eng_init_20 : decode b_Eng_init 20 = .ok (.invokespecial 18, 3) := by decide +kernel
theorem d_Eng_init_23 : decode b_Eng_init 23 = .ok (.putfield 19, 3) := by decide +kernel
theorem d_Eng_init_26 : decode b_Eng_init 26 = .ok (.aload_n 0, 1) := by decide +kernel
theorem d_Eng_init_27 : decode b_Eng_init 27 = .ok (.new 16, 3) := by decide +kernel
theorem d_Eng_init_30 : decode b_Eng_init 30 = .ok (.dup, 1) := by decide +kernel
theorem d_Eng_init_31 : decode b_Eng_init 31 = .ok (.invokespecial 18, 3) := by decide +kernel
theorem d_Eng_init_34 : decode b_Eng_init 34 = .ok (.putfield 23, 3) := by decide +kernel
theorem d_Eng_init_37 : decode b_Eng_init 37 = .ok (.return_, 1) := by decide +kernel
abbrev y_Eng_add : MethodName := ⟨"FusedEngine", "add", "(II)I"⟩
abbrev b_Eng_add : ByteArray := prog_1_method_2_code
theorem d_Eng_add_0 : decode b_Eng_add 0 = .ok (.iload_n 1, 1) := by decide +kernel
theorem d_Eng_add_1 : decode b_Eng_add 1 = .ok (.iload_n 2, 1) := by decide +kernel
theorem d_Eng_add_2 : decode b_Eng_add 2 = .ok (.invokestatic 26, 3) := by decide +kernel
theorem d_Eng_add_5 : decode b_Eng_add 5 = .ok (.ifCond .ne 13, 3) := by decide +kernel
theorem d_Eng_add_8 : decode b_Eng_add 8 = .ok (.new 30, 3) := by decide +kernel
theorem d_Eng_add_11 : decode b_Eng_add 11 = .ok (.dup, 1) := by decide +kernel
theorem d_Eng_add_12 : decode b_Eng_add 12 = .ok (.ldc 32, 2) := by decide +kernel
theorem d_Eng_add_14 : decode b_Eng_add 14 = .ok (.invokespecial 34, 3) := by decide +kernel
theorem d_Eng_add_17 : decode b_Eng_add 17 = .ok (.athrow, 1) := by decide +kernel
theorem d_Eng_add_18 : decode b_Eng_add 18 = .ok (.aload_n 0, 1) := by decide +kernel
theorem d_Eng_add_19 : decode b_Eng_add 19 = .ok (.getfield 10, 3) := by decide +kernel
theorem d_Eng_add_22 : decode b_Eng_add 22 = .ok (.getfield 37, 3) := by decide +kernel
theorem d_Eng_add_25 : decode b_Eng_add 25 = .ok (.bipush 80, 2) := by decide +kernel
theorem d_Eng_add_27 : decode b_Eng_add 27 = .ok (.if_icmp .ne 13, 3) := by decide +kernel
theorem d_Eng_add_30 : decode b_Eng_add 30 = .ok (.new 41, 3) := by decide +kernel
theorem d_Eng_add_33 : decode b_Eng_add 33 = .ok (.dup, 1) := by decide +kernel
theorem d_Eng_add_34 : decode b_Eng_add 34 = .ok (.ldc 43, 2) := by decide +kernel
theorem d_Eng_add_36 : decode b_Eng_add 36 = .ok (.invokespecial 45, 3) := by decide +kernel
theorem d_Eng_add_39 : decode b_Eng_add 39 = .ok (.athrow, 1) := by decide +kernel
theorem d_Eng_add_40 : decode b_Eng_add 40 = .ok (.aload_n 0, 1) := by decide +kernel
theorem d_Eng_add_41 : decode b_Eng_add 41 = .ok (.getfield 10, 3) := by decide +kernel
theorem d_Eng_add_44 : decode b_Eng_add 44 = .ok (.iload_n 1, 1) := by decide +kernel
theorem d_Eng_add_45 : decode b_Eng_add 45 = .ok (.iload_n 2, 1) := by decide +kernel
theorem d_Eng_add_46 : decode b_Eng_add 46 = .ok (.invokevirtual 46, 3) := by decide +kernel
theorem d_Eng_add_49 : decode b_Eng_add 49 = .ok (.istore_n 3, 1) := by decide +kernel
theorem d_Eng_add_50 : decode b_Eng_add 50 = .ok (.aload_n 0, 1) := by decide +kernel
theorem d_Eng_add_51 : decode b_Eng_add 51 = .ok (.invokevirtual 50, 3) := by decide +kernel
theorem d_Eng_add_54 : decode b_Eng_add 54 = .ok (.iload_n 3, 1) := by decide +kernel
theorem d_Eng_add_55 : decode b_Eng_add 55 = .ok (.ireturn, 1) := by decide +kernel
abbrev y_Eng_change : MethodName := ⟨"FusedEngine", "change", "(III)V"⟩
abbrev b_Eng_change : ByteArray := prog_1_method_3_code
theorem d_Eng_change_0 : decode b_Eng_change 0 = .ok (.aload_n 0, 1) := by decide +kernel
theorem d_Eng_change_1 : decode b_Eng_change 1 = .ok (.getfield 10, 3) := by decide +kernel
theorem d_Eng_change_4 : decode b_Eng_change 4 = .ok (.iload_n 1, 1) := by decide +kernel
theorem d_Eng_change_5 : decode b_Eng_change 5 = .ok (.invokevirtual 53, 3) := by decide +kernel
theorem d_Eng_change_8 : decode b_Eng_change 8 = .ok (.ifCond .ne 13, 3) := by decide +kernel
theorem d_Eng_change_11 : decode b_Eng_change 11 = .ok (.new 57, 3) := by decide +kernel
theorem d_Eng_change_14 : decode b_Eng_change 14 = .ok (.dup, 1) := by decide +kernel
theorem d_Eng_change_15 : decode b_Eng_change 15 = .ok (.ldc 59, 2) := by decide +kernel
theorem d_Eng_change_17 : decode b_Eng_change 17 = .ok (.invokespecial 61, 3) := by decide +kernel
theorem d_Eng_change_20 : decode b_Eng_change 20 = .ok (.athrow, 1) := by decide +kernel
theorem d_Eng_change_21 : decode b_Eng_change 21 = .ok (.iload_n 2, 1) := by decide +kernel
theorem d_Eng_change_22 : decode b_Eng_change 22 = .ok (.iload_n 3, 1) := by decide +kernel
theorem d_Eng_change_23 : decode b_Eng_change 23 = .ok (.invokestatic 26, 3) := by decide +kernel
theorem d_Eng_change_26 : decode b_Eng_change 26 = .ok (.ifCond .ne 13, 3) := by decide +kernel
theorem d_Eng_change_29 : decode b_Eng_change 29 = .ok (.new 30, 3) := by decide +kernel
theorem d_Eng_change_32 : decode b_Eng_change 32 = .ok (.dup, 1) := by decide +kernel
theorem d_Eng_change_33 : decode b_Eng_change 33 = .ok (.ldc 32, 2) := by decide +kernel
theorem d_Eng_change_35 : decode b_Eng_change 35 = .ok (.invokespecial 34, 3) := by decide +kernel
theorem d_Eng_change_38 : decode b_Eng_change 38 = .ok (.athrow, 1) := by decide +kernel
theorem d_Eng_change_39 : decode b_Eng_change 39 = .ok (.aload_n 0, 1) := by decide +kernel
theorem d_Eng_change_40 : decode b_Eng_change 40 = .ok (.getfield 10, 3) := by decide +kernel
theorem d_Eng_change_43 : decode b_Eng_change 43 = .ok (.iload_n 1, 1) := by decide +kernel
theorem d_Eng_change_44 : decode b_Eng_change 44 = .ok (.iload_n 2, 1) := by decide +kernel
theorem d_Eng_change_45 : decode b_Eng_change 45 = .ok (.iload_n 3, 1) := by decide +kernel
theorem d_Eng_change_46 : decode b_Eng_change 46 = .ok (.invokevirtual 62, 3) := by decide +kernel
theorem d_Eng_change_49 : decode b_Eng_change 49 = .ok (.aload_n 0, 1) := by decide +kernel
theorem d_Eng_change_50 : decode b_Eng_change 50 = .ok (.invokevirtual 50, 3) := by decide +kernel
theorem d_Eng_change_53 : decode b_Eng_change 53 = .ok (.return_, 1) := by decide +kernel
abbrev y_Eng_clear : MethodName := ⟨"FusedEngine", "clear", "()V"⟩
abbrev b_Eng_clear : ByteArray := prog_1_method_4_code
theorem d_Eng_clear_0 : decode b_Eng_clear 0 = .ok (.aload_n 0, 1) := by decide +kernel
theorem d_Eng_clear_1 : decode b_Eng_clear 1 = .ok (.getfield 10, 3) := by decide +kernel
theorem d_Eng_clear_4 : decode b_Eng_clear 4 = .ok (.invokevirtual 66, 3) := by decide +kernel
theorem d_Eng_clear_7 : decode b_Eng_clear 7 = .ok (.aload_n 0, 1) := by decide +kernel
theorem d_Eng_clear_8 : decode b_Eng_clear 8 = .ok (.invokevirtual 50, 3) := by decide +kernel
theorem d_Eng_clear_11 : decode b_Eng_clear 11 = .ok (.return_, 1) := by decide +kernel
abbrev y_Eng_fuse : MethodName := ⟨"FusedEngine", "fuse", "()I"⟩
abbrev b_Eng_fuse : ByteArray := prog_1_method_5_code
theorem d_Eng_fuse_0 : decode b_Eng_fuse 0 = .ok (.aload_n 0, 1) := by decide +kernel
theorem d_Eng_fuse_1 : decode b_Eng_fuse 1 = .ok (.getfield 10, 3) := by decide +kernel
theorem d_Eng_fuse_4 : decode b_Eng_fuse 4 = .ok (.invokevirtual 69, 3) := by decide +kernel
theorem d_Eng_fuse_7 : decode b_Eng_fuse 7 = .ok (.istore_n 1, 1) := by decide +kernel
theorem d_Eng_fuse_8 : decode b_Eng_fuse 8 = .ok (.aload_n 0, 1) := by decide +kernel
theorem d_Eng_fuse_9 : decode b_Eng_fuse 9 = .ok (.invokevirtual 50, 3) := by decide +kernel
theorem d_Eng_fuse_12 : decode b_Eng_fuse 12 = .ok (.iload_n 1, 1) := by decide +kernel
theorem d_Eng_fuse_13 : decode b_Eng_fuse 13 = .ok (.ireturn, 1) := by decide +kernel
abbrev y_Eng_look : MethodName := ⟨"FusedEngine", "look", "(II)I"⟩
abbrev b_Eng_look : ByteArray := prog_1_method_6_code
theorem d_Eng_look_0 : decode b_Eng_look 0 = .ok (.aload_n 0, 1) := by decide +kernel
theorem d_Eng_look_1 : decode b_Eng_look 1 = .ok (.getfield 10, 3) := by decide +kernel
theorem d_Eng_look_4 : decode b_Eng_look 4 = .ok (.iload_n 1, 1) := by decide +kernel
theorem d_Eng_look_5 : decode b_Eng_look 5 = .ok (.invokevirtual 53, 3) := by decide +kernel
theorem d_Eng_look_8 : decode b_Eng_look 8 = .ok (.ifCond .ne 13, 3) := by decide +kernel
theorem d_Eng_look_11 : decode b_Eng_look 11 = .ok (.new 57, 3) := by decide +kernel
theorem d_Eng_look_14 : decode b_Eng_look 14 = .ok (.dup, 1) := by decide +kernel
theorem d_Eng_look_15 : decode b_Eng_look 15 = .ok (.ldc 59, 2) := by decide +kernel
theorem d_Eng_look_17 : decode b_Eng_look 17 = .ok (.invokespecial 61, 3) := by decide +kernel
theorem d_Eng_look_20 : decode b_Eng_look 20 = .ok (.athrow, 1) := by decide +kernel
theorem d_Eng_look_21 : decode b_Eng_look 21 = .ok (.iload_n 2, 1) := by decide +kernel
theorem d_Eng_look_22 : decode b_Eng_look 22 = .ok (.ifCond .lt 8, 3) := by decide +kernel
theorem d_Eng_look_25 : decode b_Eng_look 25 = .ok (.iload_n 2, 1) := by decide +kernel
theorem d_Eng_look_26 : decode b_Eng_look 26 = .ok (.iconst 3, 1) := by decide +kernel
theorem d_Eng_look_27 : decode b_Eng_look 27 = .ok (.if_icmp .le 13, 3) := by decide +kernel
theorem d_Eng_look_30 : decode b_Eng_look 30 = .ok (.new 57, 3) := by decide +kernel
theorem d_Eng_look_33 : decode b_Eng_look 33 = .ok (.dup, 1) := by decide +kernel
theorem d_Eng_look_34 : decode b_Eng_look 34 = .ok (.ldc 73, 2) := by decide +kernel
theorem d_Eng_look_36 : decode b_Eng_look 36 = .ok (.invokespecial 61, 3) := by decide +kernel
theorem d_Eng_look_39 : decode b_Eng_look 39 = .ok (.athrow, 1) := by decide +kernel
theorem d_Eng_look_40 : decode b_Eng_look 40 = .ok (.iload_n 2, 1) := by decide +kernel
theorem d_Eng_look_41 : decode b_Eng_look 41 = .ok (.iconst 2, 1) := by decide +kernel
theorem d_Eng_look_42 : decode b_Eng_look 42 = .ok (.if_icmp .ne 23, 3) := by decide +kernel
theorem d_Eng_look_45 : decode b_Eng_look 45 = .ok (.aload_n 0, 1) := by decide +kernel
theorem d_Eng_look_46 : decode b_Eng_look 46 = .ok (.getfield 10, 3) := by decide +kernel
theorem d_Eng_look_49 : decode b_Eng_look 49 = .ok (.getfield 75, 3) := by decide +kernel
theorem d_Eng_look_52 : decode b_Eng_look 52 = .ok (.ifCond .ne 13, 3) := by decide +kernel
theorem d_Eng_look_55 : decode b_Eng_look 55 = .ok (.new 57, 3) := by decide +kernel
theorem d_Eng_look_58 : decode b_Eng_look 58 = .ok (.dup, 1) := by decide +kernel
theorem d_Eng_look_59 : decode b_Eng_look 59 = .ok (.ldc 79, 2) := by decide +kernel
theorem d_Eng_look_61 : decode b_Eng_look 61 = .ok (.invokespecial 61, 3) := by decide +kernel
theorem d_Eng_look_64 : decode b_Eng_look 64 = .ok (.athrow, 1) := by decide +kernel
theorem d_Eng_look_65 : decode b_Eng_look 65 = .ok (.aload_n 0, 1) := by decide +kernel
theorem d_Eng_look_66 : decode b_Eng_look 66 = .ok (.getfield 10, 3) := by decide +kernel
theorem d_Eng_look_69 : decode b_Eng_look 69 = .ok (.iload_n 1, 1) := by decide +kernel
theorem d_Eng_look_70 : decode b_Eng_look 70 = .ok (.iload_n 2, 1) := by decide +kernel
theorem d_Eng_look_71 : decode b_Eng_look 71 = .ok (.invokevirtual 81, 3) := by decide +kernel
theorem d_Eng_look_74 : decode b_Eng_look 74 = .ok (.ireturn, 1) := by decide +kernel
abbrev y_Eng_run : MethodName := ⟨"FusedEngine", "run", "(ZI)I"⟩
abbrev b_Eng_run : ByteArray := prog_1_method_7_code
theorem d_Eng_run_0 : decode b_Eng_run 0 = .ok (.iload_n 1, 1) := by decide +kernel
theorem d_Eng_run_1 : decode b_Eng_run 1 = .ok (.ifCond .eq 23, 3) := by decide +kernel
theorem d_Eng_run_4 : decode b_Eng_run 4 = .ok (.aload_n 0, 1) := by decide +kernel
theorem d_Eng_run_5 : decode b_Eng_run 5 = .ok (.getfield 10, 3) := by decide +kernel
theorem d_Eng_run_8 : decode b_Eng_run 8 = .ok (.getfield 75, 3) := by decide +kernel
theorem d_Eng_run_11 : decode b_Eng_run 11 = .ok (.ifCond .ne 13, 3) := by decide +kernel
theorem d_Eng_run_14 : decode b_Eng_run 14 = .ok (.new 41, 3) := by decide +kernel
theorem d_Eng_run_17 : decode b_Eng_run 17 = .ok (.dup, 1) := by decide +kernel
theorem d_Eng_run_18 : decode b_Eng_run 18 = .ok (.ldc 79, 2) := by decide +kernel
theorem d_Eng_run_20 : decode b_Eng_run 20 = .ok (.invokespecial 45, 3) := by decide +kernel
theorem d_Eng_run_23 : decode b_Eng_run 23 = .ok (.athrow, 1) := by decide +kernel
theorem d_Eng_run_24 : decode b_Eng_run 24 = .ok (.aload_n 0, 1) := by decide +kernel
theorem d_Eng_run_25 : decode b_Eng_run 25 = .ok (.iload_n 1, 1) := by decide +kernel
theorem d_Eng_run_26 : decode b_Eng_run 26 = .ok (.invokevirtual 84, 3) := by decide +kernel
theorem d_Eng_run_29 : decode b_Eng_run 29 = .ok (.aload_n 0, 1) := by decide +kernel
theorem d_Eng_run_30 : decode b_Eng_run 30 = .ok (.getfield 10, 3) := by decide +kernel
theorem d_Eng_run_33 : decode b_Eng_run 33 = .ok (.iload_n 1, 1) := by decide +kernel
theorem d_Eng_run_34 : decode b_Eng_run 34 = .ok (.iload_n 2, 1) := by decide +kernel
theorem d_Eng_run_35 : decode b_Eng_run 35 = .ok (.invokevirtual 88, 3) := by decide +kernel
theorem d_Eng_run_38 : decode b_Eng_run 38 = .ok (.ireturn, 1) := by decide +kernel
abbrev y_Eng_restart : MethodName := ⟨"FusedEngine", "restart", "()V"⟩
abbrev b_Eng_restart : ByteArray := prog_1_method_8_code
theorem d_Eng_restart_0 : decode b_Eng_restart 0 = .ok (.aload_n 0, 1) := by decide +kernel
theorem d_Eng_restart_1 : decode b_Eng_restart 1 = .ok (.invokevirtual 50, 3) := by decide +kernel
theorem d_Eng_restart_4 : decode b_Eng_restart 4 = .ok (.return_, 1) := by decide +kernel
abbrev y_Eng_about : MethodName := ⟨"FusedEngine", "about", "(ZI)I"⟩
abbrev b_Eng_about : ByteArray := prog_1_method_9_code
theorem d_Eng_about_0 : decode b_Eng_about 0 = .ok (.aload_n 0, 1) := by decide +kernel
theorem d_Eng_about_1 : decode b_Eng_about 1 = .ok (.iload_n 1, 1) := by decide +kernel
theorem d_Eng_about_2 : decode b_Eng_about 2 = .ok (.invokevirtual 84, 3) := by decide +kernel
theorem d_Eng_about_5 : decode b_Eng_about 5 = .ok (.iload_n 2, 1) := by decide +kernel
theorem d_Eng_about_6 : decode b_Eng_about 6 = .ok (.invokevirtual 92, 3) := by decide +kernel
theorem d_Eng_about_9 : decode b_Eng_about 9 = .ok (.ireturn, 1) := by decide +kernel
abbrev y_Eng_stack : MethodName := ⟨"FusedEngine", "stack", "(ZI)I"⟩
abbrev b_Eng_stack : ByteArray := prog_1_method_10_code
theorem d_Eng_stack_0 : decode b_Eng_stack 0 = .ok (.aload_n 0, 1) := by decide +kernel
theorem d_Eng_stack_1 : decode b_Eng_stack 1 = .ok (.iload_n 1, 1) := by decide +kernel
theorem d_Eng_stack_2 : decode b_Eng_stack 2 = .ok (.invokevirtual 84, 3) := by decide +kernel
theorem d_Eng_stack_5 : decode b_Eng_stack 5 = .ok (.astore_n 3, 1) := by decide +kernel
theorem d_Eng_stack_6 : decode b_Eng_stack 6 = .ok (.iload_n 2, 1) := by decide +kernel
theorem d_Eng_stack_7 : decode b_Eng_stack 7 = .ok (.ifCond .lt 11, 3) := by decide +kernel
theorem d_Eng_stack_10 : decode b_Eng_stack 10 = .ok (.iload_n 2, 1) := by decide +kernel
theorem d_Eng_stack_11 : decode b_Eng_stack 11 = .ok (.aload_n 3, 1) := by decide +kernel
theorem d_Eng_stack_12 : decode b_Eng_stack 12 = .ok (.getfield 95, 3) := by decide +kernel
theorem d_Eng_stack_15 : decode b_Eng_stack 15 = .ok (.if_icmp .lt 13, 3) := by decide +kernel
theorem d_Eng_stack_18 : decode b_Eng_stack 18 = .ok (.new 57, 3) := by decide +kernel
theorem d_Eng_stack_21 : decode b_Eng_stack 21 = .ok (.dup, 1) := by decide +kernel
theorem d_Eng_stack_22 : decode b_Eng_stack 22 = .ok (.ldc 98, 2) := by decide +kernel
theorem d_Eng_stack_24 : decode b_Eng_stack 24 = .ok (.invokespecial 61, 3) := by decide +kernel
theorem d_Eng_stack_27 : decode b_Eng_stack 27 = .ok (.athrow, 1) := by decide +kernel
theorem d_Eng_stack_28 : decode b_Eng_stack 28 = .ok (.aload_n 3, 1) := by decide +kernel
theorem d_Eng_stack_29 : decode b_Eng_stack 29 = .ok (.getfield 100, 3) := by decide +kernel
theorem d_Eng_stack_32 : decode b_Eng_stack 32 = .ok (.iload_n 2, 1) := by decide +kernel
theorem d_Eng_stack_33 : decode b_Eng_stack 33 = .ok (.iaload, 1) := by decide +kernel
theorem d_Eng_stack_34 : decode b_Eng_stack 34 = .ok (.ireturn, 1) := by decide +kernel
abbrev y_Eng_local : MethodName := ⟨"FusedEngine", "local", "(ZI)I"⟩
abbrev b_Eng_local : ByteArray := prog_1_method_11_code
theorem d_Eng_local_0 : decode b_Eng_local 0 = .ok (.iload_n 2, 1) := by decide +kernel
theorem d_Eng_local_1 : decode b_Eng_local 1 = .ok (.ifCond .lt 9, 3) := by decide +kernel
theorem d_Eng_local_4 : decode b_Eng_local 4 = .ok (.iload_n 2, 1) := by decide +kernel
theorem d_Eng_local_5 : decode b_Eng_local 5 = .ok (.bipush 8, 2) := by decide +kernel
theorem d_Eng_local_7 : decode b_Eng_local 7 = .ok (.if_icmp .lt 13, 3) := by decide +kernel
theorem d_Eng_local_10 : decode b_Eng_local 10 = .ok (.new 57, 3) := by decide +kernel
theorem d_Eng_local_13 : decode b_Eng_local 13 = .ok (.dup, 1) := by decide +kernel
theorem d_Eng_local_14 : decode b_Eng_local 14 = .ok (.ldc 104, 2) := by decide +kernel
theorem d_Eng_local_16 : decode b_Eng_local 16 = .ok (.invokespecial 61, 3) := by decide +kernel
theorem d_Eng_local_19 : decode b_Eng_local 19 = .ok (.athrow, 1) := by decide +kernel
theorem d_Eng_local_20 : decode b_Eng_local 20 = .ok (.aload_n 0, 1) := by decide +kernel
theorem d_Eng_local_21 : decode b_Eng_local 21 = .ok (.iload_n 1, 1) := by decide +kernel
theorem d_Eng_local_22 : decode b_Eng_local 22 = .ok (.invokevirtual 84, 3) := by decide +kernel
theorem d_Eng_local_25 : decode b_Eng_local 25 = .ok (.getfield 106, 3) := by decide +kernel
theorem d_Eng_local_28 : decode b_Eng_local 28 = .ok (.iload_n 2, 1) := by decide +kernel
theorem d_Eng_local_29 : decode b_Eng_local 29 = .ok (.iaload, 1) := by decide +kernel
theorem d_Eng_local_30 : decode b_Eng_local 30 = .ok (.ireturn, 1) := by decide +kernel
abbrev y_Eng_out : MethodName := ⟨"FusedEngine", "out", "(ZI)I"⟩
abbrev b_Eng_out : ByteArray := prog_1_method_12_code
theorem d_Eng_out_0 : decode b_Eng_out 0 = .ok (.aload_n 0, 1) := by decide +kernel
theorem d_Eng_out_1 : decode b_Eng_out 1 = .ok (.iload_n 1, 1) := by decide +kernel
theorem d_Eng_out_2 : decode b_Eng_out 2 = .ok (.invokevirtual 84, 3) := by decide +kernel
theorem d_Eng_out_5 : decode b_Eng_out 5 = .ok (.astore_n 3, 1) := by decide +kernel
theorem d_Eng_out_6 : decode b_Eng_out 6 = .ok (.iload_n 2, 1) := by decide +kernel
theorem d_Eng_out_7 : decode b_Eng_out 7 = .ok (.ifCond .lt 11, 3) := by decide +kernel
theorem d_Eng_out_10 : decode b_Eng_out 10 = .ok (.iload_n 2, 1) := by decide +kernel
theorem d_Eng_out_11 : decode b_Eng_out 11 = .ok (.aload_n 3, 1) := by decide +kernel
theorem d_Eng_out_12 : decode b_Eng_out 12 = .ok (.invokevirtual 109, 3) := by decide +kernel
theorem d_Eng_out_15 : decode b_Eng_out 15 = .ok (.if_icmp .lt 13, 3) := by decide +kernel
theorem d_Eng_out_18 : decode b_Eng_out 18 = .ok (.new 57, 3) := by decide +kernel
theorem d_Eng_out_21 : decode b_Eng_out 21 = .ok (.dup, 1) := by decide +kernel
theorem d_Eng_out_22 : decode b_Eng_out 22 = .ok (.ldc 112, 2) := by decide +kernel
theorem d_Eng_out_24 : decode b_Eng_out 24 = .ok (.invokespecial 61, 3) := by decide +kernel
theorem d_Eng_out_27 : decode b_Eng_out 27 = .ok (.athrow, 1) := by decide +kernel
theorem d_Eng_out_28 : decode b_Eng_out 28 = .ok (.aload_n 3, 1) := by decide +kernel
theorem d_Eng_out_29 : decode b_Eng_out 29 = .ok (.getfield 114, 3) := by decide +kernel
theorem d_Eng_out_32 : decode b_Eng_out 32 = .ok (.iload_n 2, 1) := by decide +kernel
theorem d_Eng_out_33 : decode b_Eng_out 33 = .ok (.iaload, 1) := by decide +kernel
theorem d_Eng_out_34 : decode b_Eng_out 34 = .ok (.ireturn, 1) := by decide +kernel
abbrev y_Eng_machineOf : MethodName := ⟨"FusedEngine", "machineOf", "(Z)LFusedEngine$Machine;"⟩
abbrev b_Eng_machineOf : ByteArray := prog_1_method_13_code
theorem d_Eng_machineOf_0 : decode b_Eng_machineOf 0 = .ok (.iload_n 1, 1) := by decide +kernel
theorem d_Eng_machineOf_1 : decode b_Eng_machineOf 1 = .ok (.ifCond .eq 10, 3) := by decide +kernel
theorem d_Eng_machineOf_4 : decode b_Eng_machineOf 4 = .ok (.aload_n 0, 1) := by decide +kernel
theorem d_Eng_machineOf_5 : decode b_Eng_machineOf 5 = .ok (.getfield 23, 3) := by decide +kernel
theorem d_Eng_machineOf_8 : decode b_Eng_machineOf 8 = .ok (.goto 7, 3) := by decide +kernel
theorem d_Eng_machineOf_11 : decode b_Eng_machineOf 11 = .ok (.aload_n 0, 1) := by decide +kernel
theorem d_Eng_machineOf_12 : decode b_Eng_machineOf 12 = .ok (.getfield 19, 3) := by decide +kernel
theorem d_Eng_machineOf_15 : decode b_Eng_machineOf 15 = .ok (.areturn, 1) := by decide +kernel
abbrev y_Eng_beginBoth : MethodName := ⟨"FusedEngine", "beginBoth", "()V"⟩
abbrev b_Eng_beginBoth : ByteArray := prog_1_method_14_code
theorem d_Eng_beginBoth_0 : decode b_Eng_beginBoth 0 = .ok (.aload_n 0, 1) := by decide +kernel
theorem d_Eng_beginBoth_1 : decode b_Eng_beginBoth 1 = .ok (.getfield 19, 3) := by decide +kernel
theorem d_Eng_beginBoth_4 : decode b_Eng_beginBoth 4 = .ok (.invokevirtual 117, 3) := by decide +kernel
theorem d_Eng_beginBoth_7 : decode b_Eng_beginBoth 7 = .ok (.aload_n 0, 1) := by decide +kernel
theorem d_Eng_beginBoth_8 : decode b_Eng_beginBoth 8 = .ok (.getfield 23, 3) := by decide +kernel
theorem d_Eng_beginBoth_11 : decode b_Eng_beginBoth 11 = .ok (.invokevirtual 117, 3) := by decide +kernel
theorem d_Eng_beginBoth_14 : decode b_Eng_beginBoth 14 = .ok (.return_, 1) := by decide +kernel
abbrev y_Arr_fill : MethodName := ⟨"java/util/Arrays", "fill", "([II)V"⟩
abbrev b_Arr_fill : ByteArray := prog_16_method_103_code
theorem d_Arr_fill_0 : decode b_Arr_fill 0 = .ok (.iconst 0, 1) := by decide +kernel
theorem d_Arr_fill_1 : decode b_Arr_fill 1 = .ok (.istore_n 2, 1) := by decide +kernel
theorem d_Arr_fill_2 : decode b_Arr_fill 2 = .ok (.aload_n 0, 1) := by decide +kernel
theorem d_Arr_fill_3 : decode b_Arr_fill 3 = .ok (.arraylength, 1) := by decide +kernel
theorem d_Arr_fill_4 : decode b_Arr_fill 4 = .ok (.istore_n 3, 1) := by decide +kernel
theorem d_Arr_fill_5 : decode b_Arr_fill 5 = .ok (.iload_n 2, 1) := by decide +kernel
theorem d_Arr_fill_6 : decode b_Arr_fill 6 = .ok (.iload_n 3, 1) := by decide +kernel
theorem d_Arr_fill_7 : decode b_Arr_fill 7 = .ok (.if_icmp .ge 13, 3) := by decide +kernel
theorem d_Arr_fill_10 : decode b_Arr_fill 10 = .ok (.aload_n 0, 1) := by decide +kernel
theorem d_Arr_fill_11 : decode b_Arr_fill 11 = .ok (.iload_n 2, 1) := by decide +kernel
theorem d_Arr_fill_12 : decode b_Arr_fill 12 = .ok (.iload_n 1, 1) := by decide +kernel
theorem d_Arr_fill_13 : decode b_Arr_fill 13 = .ok (.iastore, 1) := by decide +kernel
theorem d_Arr_fill_14 : decode b_Arr_fill 14 = .ok (.iinc 2 1, 3) := by decide +kernel
theorem d_Arr_fill_17 : decode b_Arr_fill 17 = .ok (.goto (-12), 3) := by decide +kernel
theorem d_Arr_fill_20 : decode b_Arr_fill 20 = .ok (.return_, 1) := by decide +kernel
