/-! DECODE: the law and its own methods -/
abbrev y_Law_add : MethodName := ⟨"FusedEngineLaw", "add", "(LFusedEngine;II[J)I"⟩
abbrev b_Law_add : ByteArray := method_3_code
theorem d_Law_add_0 : decode b_Law_add 0 = .ok (.aload_n 3, 1) := by decide +kernel
theorem d_Law_add_1 : decode b_Law_add 1 = .ok (.iconst 0, 1) := by decide +kernel
theorem d_Law_add_2 : decode b_Law_add 2 = .ok (.aload_n 0, 1) := by decide +kernel
theorem d_Law_add_3 : decode b_Law_add 3 = .ok (.iload_n 1, 1) := by decide +kernel
theorem d_Law_add_4 : decode b_Law_add 4 = .ok (.iload_n 2, 1) := by decide +kernel
theorem d_Law_add_5 : decode b_Law_add 5 = .ok (.invokevirtual 7, 3) := by decide +kernel
theorem d_Law_add_8 : decode b_Law_add 8 = .ok (.i2l, 1) := by decide +kernel
theorem d_Law_add_9 : decode b_Law_add 9 = .ok (.lastore, 1) := by decide +kernel
theorem d_Law_add_10 : decode b_Law_add 10 = .ok (.goto 11, 3) := by decide +kernel
theorem d_Law_add_13 : decode b_Law_add 13 = .ok (.astore 4, 2) := by decide +kernel
theorem d_Law_add_15 : decode b_Law_add 15 = .ok (.iconst 1, 1) := by decide +kernel
theorem d_Law_add_16 : decode b_Law_add 16 = .ok (.ireturn, 1) := by decide +kernel
theorem d_Law_add_17 : decode b_Law_add 17 = .ok (.astore 4, 2) := by decide +kernel
theorem d_Law_add_19 : decode b_Law_add 19 = .ok (.iconst 2, 1) := by decide +kernel
theorem d_Law_add_20 : decode b_Law_add 20 = .ok (.ireturn, 1) := by decide +kernel
theorem d_Law_add_21 : decode b_Law_add 21 = .ok (.iconst 0, 1) := by decide +kernel
theorem d_Law_add_22 : decode b_Law_add 22 = .ok (.ireturn, 1) := by decide +kernel
abbrev y_Law_change : MethodName := ⟨"FusedEngineLaw", "change", "(LFusedEngine;III)I"⟩
abbrev b_Law_change : ByteArray := method_4_code
theorem d_Law_change_0 : decode b_Law_change 0 = .ok (.aload_n 0, 1) := by decide +kernel
theorem d_Law_change_1 : decode b_Law_change 1 = .ok (.iload_n 1, 1) := by decide +kernel
theorem d_Law_change_2 : decode b_Law_change 2 = .ok (.iload_n 2, 1) := by decide +kernel
theorem d_Law_change_3 : decode b_Law_change 3 = .ok (.iload_n 3, 1) := by decide +kernel
theorem d_Law_change_4 : decode b_Law_change 4 = .ok (.invokevirtual 17, 3) := by decide +kernel
theorem d_Law_change_7 : decode b_Law_change 7 = .ok (.goto 11, 3) := by decide +kernel
theorem d_Law_change_10 : decode b_Law_change 10 = .ok (.astore 4, 2) := by decide +kernel
theorem d_Law_change_12 : decode b_Law_change 12 = .ok (.iconst 1, 1) := by decide +kernel
theorem d_Law_change_13 : decode b_Law_change 13 = .ok (.ireturn, 1) := by decide +kernel
theorem d_Law_change_14 : decode b_Law_change 14 = .ok (.astore 4, 2) := by decide +kernel
theorem d_Law_change_16 : decode b_Law_change 16 = .ok (.iconst 2, 1) := by decide +kernel
theorem d_Law_change_17 : decode b_Law_change 17 = .ok (.ireturn, 1) := by decide +kernel
theorem d_Law_change_18 : decode b_Law_change 18 = .ok (.iconst 0, 1) := by decide +kernel
theorem d_Law_change_19 : decode b_Law_change 19 = .ok (.ireturn, 1) := by decide +kernel
abbrev y_Law_look : MethodName := ⟨"FusedEngineLaw", "look", "(LFusedEngine;II[J)I"⟩
abbrev b_Law_look : ByteArray := method_5_code
theorem d_Law_look_0 : decode b_Law_look 0 = .ok (.aload_n 3, 1) := by decide +kernel
theorem d_Law_look_1 : decode b_Law_look 1 = .ok (.iconst 0, 1) := by decide +kernel
theorem d_Law_look_2 : decode b_Law_look 2 = .ok (.aload_n 0, 1) := by decide +kernel
theorem d_Law_look_3 : decode b_Law_look 3 = .ok (.iload_n 1, 1) := by decide +kernel
theorem d_Law_look_4 : decode b_Law_look 4 = .ok (.iload_n 2, 1) := by decide +kernel
theorem d_Law_look_5 : decode b_Law_look 5 = .ok (.invokevirtual 23, 3) := by decide +kernel
theorem d_Law_look_8 : decode b_Law_look 8 = .ok (.i2l, 1) := by decide +kernel
theorem d_Law_look_9 : decode b_Law_look 9 = .ok (.lastore, 1) := by decide +kernel
theorem d_Law_look_10 : decode b_Law_look 10 = .ok (.goto 7, 3) := by decide +kernel
theorem d_Law_look_13 : decode b_Law_look 13 = .ok (.astore 4, 2) := by decide +kernel
theorem d_Law_look_15 : decode b_Law_look 15 = .ok (.iconst 1, 1) := by decide +kernel
theorem d_Law_look_16 : decode b_Law_look 16 = .ok (.ireturn, 1) := by decide +kernel
theorem d_Law_look_17 : decode b_Law_look 17 = .ok (.iconst 0, 1) := by decide +kernel
theorem d_Law_look_18 : decode b_Law_look 18 = .ok (.ireturn, 1) := by decide +kernel
abbrev y_Law_run : MethodName := ⟨"FusedEngineLaw", "run", "(LFusedEngine;ZI[J)I"⟩
abbrev b_Law_run : ByteArray := method_6_code
theorem d_Law_run_0 : decode b_Law_run 0 = .ok (.aload_n 3, 1) := by decide +kernel
theorem d_Law_run_1 : decode b_Law_run 1 = .ok (.iconst 0, 1) := by decide +kernel
theorem d_Law_run_2 : decode b_Law_run 2 = .ok (.aload_n 0, 1) := by decide +kernel
theorem d_Law_run_3 : decode b_Law_run 3 = .ok (.iload_n 1, 1) := by decide +kernel
theorem d_Law_run_4 : decode b_Law_run 4 = .ok (.iload_n 2, 1) := by decide +kernel
theorem d_Law_run_5 : decode b_Law_run 5 = .ok (.invokevirtual 26, 3) := by decide +kernel
theorem d_Law_run_8 : decode b_Law_run 8 = .ok (.i2l, 1) := by decide +kernel
theorem d_Law_run_9 : decode b_Law_run 9 = .ok (.lastore, 1) := by decide +kernel
theorem d_Law_run_10 : decode b_Law_run 10 = .ok (.goto 7, 3) := by decide +kernel
theorem d_Law_run_13 : decode b_Law_run 13 = .ok (.astore 4, 2) := by decide +kernel
theorem d_Law_run_15 : decode b_Law_run 15 = .ok (.iconst 1, 1) := by decide +kernel
theorem d_Law_run_16 : decode b_Law_run 16 = .ok (.ireturn, 1) := by decide +kernel
theorem d_Law_run_17 : decode b_Law_run 17 = .ok (.iconst 0, 1) := by decide +kernel
theorem d_Law_run_18 : decode b_Law_run 18 = .ok (.ireturn, 1) := by decide +kernel
abbrev y_Law_stack : MethodName := ⟨"FusedEngineLaw", "stack", "(LFusedEngine;ZI[J)I"⟩
abbrev b_Law_stack : ByteArray := method_7_code
theorem d_Law_stack_0 : decode b_Law_stack 0 = .ok (.aload_n 3, 1) := by decide +kernel
theorem d_Law_stack_1 : decode b_Law_stack 1 = .ok (.iconst 0, 1) := by decide +kernel
theorem d_Law_stack_2 : decode b_Law_stack 2 = .ok (.aload_n 0, 1) := by decide +kernel
theorem d_Law_stack_3 : decode b_Law_stack 3 = .ok (.iload_n 1, 1) := by decide +kernel
theorem d_Law_stack_4 : decode b_Law_stack 4 = .ok (.iload_n 2, 1) := by decide +kernel
theorem d_Law_stack_5 : decode b_Law_stack 5 = .ok (.invokevirtual 30, 3) := by decide +kernel
theorem d_Law_stack_8 : decode b_Law_stack 8 = .ok (.i2l, 1) := by decide +kernel
theorem d_Law_stack_9 : decode b_Law_stack 9 = .ok (.lastore, 1) := by decide +kernel
theorem d_Law_stack_10 : decode b_Law_stack 10 = .ok (.goto 7, 3) := by decide +kernel
theorem d_Law_stack_13 : decode b_Law_stack 13 = .ok (.astore 4, 2) := by decide +kernel
theorem d_Law_stack_15 : decode b_Law_stack 15 = .ok (.iconst 1, 1) := by decide +kernel
theorem d_Law_stack_16 : decode b_Law_stack 16 = .ok (.ireturn, 1) := by decide +kernel
theorem d_Law_stack_17 : decode b_Law_stack 17 = .ok (.iconst 0, 1) := by decide +kernel
theorem d_Law_stack_18 : decode b_Law_stack 18 = .ok (.ireturn, 1) := by decide +kernel
abbrev y_Law_local : MethodName := ⟨"FusedEngineLaw", "local", "(LFusedEngine;ZI[J)I"⟩
abbrev b_Law_local : ByteArray := method_8_code
theorem d_Law_local_0 : decode b_Law_local 0 = .ok (.aload_n 3, 1) := by decide +kernel
theorem d_Law_local_1 : decode b_Law_local 1 = .ok (.iconst 0, 1) := by decide +kernel
theorem d_Law_local_2 : decode b_Law_local 2 = .ok (.aload_n 0, 1) := by decide +kernel
theorem d_Law_local_3 : decode b_Law_local 3 = .ok (.iload_n 1, 1) := by decide +kernel
theorem d_Law_local_4 : decode b_Law_local 4 = .ok (.iload_n 2, 1) := by decide +kernel
theorem d_Law_local_5 : decode b_Law_local 5 = .ok (.invokevirtual 33, 3) := by decide +kernel
theorem d_Law_local_8 : decode b_Law_local 8 = .ok (.i2l, 1) := by decide +kernel
theorem d_Law_local_9 : decode b_Law_local 9 = .ok (.lastore, 1) := by decide +kernel
theorem d_Law_local_10 : decode b_Law_local 10 = .ok (.goto 7, 3) := by decide +kernel
theorem d_Law_local_13 : decode b_Law_local 13 = .ok (.astore 4, 2) := by decide +kernel
theorem d_Law_local_15 : decode b_Law_local 15 = .ok (.iconst 1, 1) := by decide +kernel
theorem d_Law_local_16 : decode b_Law_local 16 = .ok (.ireturn, 1) := by decide +kernel
theorem d_Law_local_17 : decode b_Law_local 17 = .ok (.iconst 0, 1) := by decide +kernel
theorem d_Law_local_18 : decode b_Law_local 18 = .ok (.ireturn, 1) := by decide +kernel
abbrev y_Law_out : MethodName := ⟨"FusedEngineLaw", "out", "(LFusedEngine;ZI[J)I"⟩
abbrev b_Law_out : ByteArray := method_9_code
theorem d_Law_out_0 : decode b_Law_out 0 = .ok (.aload_n 3, 1) := by decide +kernel
theorem d_Law_out_1 : decode b_Law_out 1 = .ok (.iconst 0, 1) := by decide +kernel
theorem d_Law_out_2 : decode b_Law_out 2 = .ok (.aload_n 0, 1) := by decide +kernel
theorem d_Law_out_3 : decode b_Law_out 3 = .ok (.iload_n 1, 1) := by decide +kernel
theorem d_Law_out_4 : decode b_Law_out 4 = .ok (.iload_n 2, 1) := by decide +kernel
theorem d_Law_out_5 : decode b_Law_out 5 = .ok (.invokevirtual 36, 3) := by decide +kernel
theorem d_Law_out_8 : decode b_Law_out 8 = .ok (.i2l, 1) := by decide +kernel
theorem d_Law_out_9 : decode b_Law_out 9 = .ok (.lastore, 1) := by decide +kernel
theorem d_Law_out_10 : decode b_Law_out 10 = .ok (.goto 7, 3) := by decide +kernel
theorem d_Law_out_13 : decode b_Law_out 13 = .ok (.astore 4, 2) := by decide +kernel
theorem d_Law_out_15 : decode b_Law_out 15 = .ok (.iconst 1, 1) := by decide +kernel
theorem d_Law_out_16 : decode b_Law_out 16 = .ok (.ireturn, 1) := by decide +kernel
theorem d_Law_out_17 : decode b_Law_out 17 = .ok (.iconst 0, 1) := by decide +kernel
theorem d_Law_out_18 : decode b_Law_out 18 = .ok (.ireturn, 1) := by decide +kernel
abbrev b_Law_law : ByteArray := code
theorem d_Law_law_0 : decode b_Law_law 0 = .ok (.new 8, 3) := by decide +kernel
theorem d_Law_law_3 : decode b_Law_law 3 = .ok (.dup, 1) := by decide +kernel
theorem d_Law_law_4 : decode b_Law_law 4 = .ok (.invokespecial 39, 3) := by decide +kernel
theorem d_Law_law_7 : decode b_Law_law 7 = .ok (.astore_n 1, 1) := by decide +kernel
theorem d_Law_law_8 : decode b_Law_law 8 = .ok (.new 40, 3) := by decide +kernel
theorem d_Law_law_11 : decode b_Law_law 11 = .ok (.dup, 1) := by decide +kernel
theorem d_Law_law_12 : decode b_Law_law 12 = .ok (.invokespecial 42, 3) := by decide +kernel
theorem d_Law_law_15 : decode b_Law_law 15 = .ok (.astore_n 2, 1) := by decide +kernel
theorem d_Law_law_16 : decode b_Law_law 16 = .ok (.iconst 1, 1) := by decide +kernel
theorem d_Law_law_17 : decode b_Law_law 17 = .ok (.newarray .long, 2) := by decide +kernel
theorem d_Law_law_19 : decode b_Law_law 19 = .ok (.astore_n 3, 1) := by decide +kernel
theorem d_Law_law_20 : decode b_Law_law 20 = .ok (.iconst 0, 1) := by decide +kernel
theorem d_Law_law_21 : decode b_Law_law 21 = .ok (.istore 4, 2) := by decide +kernel
theorem d_Law_law_23 : decode b_Law_law 23 = .ok (.iload 4, 2) := by decide +kernel
theorem d_Law_law_25 : decode b_Law_law 25 = .ok (.aload_n 0, 1) := by decide +kernel
theorem d_Law_law_26 : decode b_Law_law 26 = .ok (.arraylength, 1) := by decide +kernel
theorem d_Law_law_27 : decode b_Law_law 27 = .ok (.iconst 4, 1) := by decide +kernel
theorem d_Law_law_28 : decode b_Law_law 28 = .ok (.isub, 1) := by decide +kernel
theorem d_Law_law_29 : decode b_Law_law 29 = .ok (.if_icmp .gt 693, 3) := by decide +kernel
theorem d_Law_law_32 : decode b_Law_law 32 = .ok (.aload_n 0, 1) := by decide +kernel
theorem d_Law_law_33 : decode b_Law_law 33 = .ok (.iload 4, 2) := by decide +kernel
theorem d_Law_law_35 : decode b_Law_law 35 = .ok (.iaload, 1) := by decide +kernel
theorem d_Law_law_36 : decode b_Law_law 36 = .ok (.bipush 15, 2) := by decide +kernel
theorem d_Law_law_38 : decode b_Law_law 38 = .ok (.iand, 1) := by decide +kernel
theorem d_Law_law_39 : decode b_Law_law 39 = .ok (.tableswitch 677 0 10 #[57, 125, 185, 196, 209, 277, 361, 372, 425, 509, 593], 57) := by decide +kernel
theorem d_Law_law_96 : decode b_Law_law 96 = .ok (.aload_n 1, 1) := by decide +kernel
theorem d_Law_law_97 : decode b_Law_law 97 = .ok (.aload_n 0, 1) := by decide +kernel
theorem d_Law_law_98 : decode b_Law_law 98 = .ok (.iload 4, 2) := by decide +kernel
theorem d_Law_law_100 : decode b_Law_law 100 = .ok (.iconst 1, 1) := by decide +kernel
theorem d_Law_law_101 : decode b_Law_law 101 = .ok (.iadd, 1) := by decide +kernel
theorem d_Law_law_102 : decode b_Law_law 102 = .ok (.iaload, 1) := by decide +kernel
theorem d_Law_law_103 : decode b_Law_law 103 = .ok (.aload_n 0, 1) := by decide +kernel
theorem d_Law_law_104 : decode b_Law_law 104 = .ok (.iload 4, 2) := by decide +kernel
theorem d_Law_law_106 : decode b_Law_law 106 = .ok (.iconst 2, 1) := by decide +kernel
theorem d_Law_law_107 : decode b_Law_law 107 = .ok (.iadd, 1) := by decide +kernel
theorem d_Law_law_108 : decode b_Law_law 108 = .ok (.iaload, 1) := by decide +kernel
theorem d_Law_law_109 : decode b_Law_law 109 = .ok (.aload_n 3, 1) := by decide +kernel
theorem d_Law_law_110 : decode b_Law_law 110 = .ok (.invokestatic 43, 3) := by decide +kernel
theorem d_Law_law_113 : decode b_Law_law 113 = .ok (.istore 5, 2) := by decide +kernel
theorem d_Law_law_115 : decode b_Law_law 115 = .ok (.aload_n 2, 1) := by decide +kernel
theorem d_Law_law_116 : decode b_Law_law 116 = .ok (.aload_n 0, 1) := by decide +kernel
theorem d_Law_law_117 : decode b_Law_law 117 = .ok (.iload 4, 2) := by decide +kernel
theorem d_Law_law_119 : decode b_Law_law 119 = .ok (.iconst 1, 1) := by decide +kernel
theorem d_Law_law_120 : decode b_Law_law 120 = .ok (.iadd, 1) := by decide +kernel
theorem d_Law_law_121 : decode b_Law_law 121 = .ok (.iaload, 1) := by decide +kernel
theorem d_Law_law_122 : decode b_Law_law 122 = .ok (.aload_n 0, 1) := by decide +kernel
theorem d_Law_law_123 : decode b_Law_law 123 = .ok (.iload 4, 2) := by decide +kernel
theorem d_Law_law_125 : decode b_Law_law 125 = .ok (.iconst 2, 1) := by decide +kernel
theorem d_Law_law_126 : decode b_Law_law 126 = .ok (.iadd, 1) := by decide +kernel
theorem d_Law_law_127 : decode b_Law_law 127 = .ok (.iaload, 1) := by decide +kernel
theorem d_Law_law_128 : decode b_Law_law 128 = .ok (.invokevirtual 48, 3) := by decide +kernel
theorem d_Law_law_131 : decode b_Law_law 131 = .ok (.istore 6, 2) := by decide +kernel
theorem d_Law_law_133 : decode b_Law_law 133 = .ok (.aload_n 2, 1) := by decide +kernel
theorem d_Law_law_134 : decode b_Law_law 134 = .ok (.invokevirtual 49, 3) := by decide +kernel
theorem d_Law_law_137 : decode b_Law_law 137 = .ok (.iload 5, 2) := by decide +kernel
theorem d_Law_law_139 : decode b_Law_law 139 = .ok (.if_icmp .eq 5, 3) := by decide +kernel
theorem d_Law_law_142 : decode b_Law_law 142 = .ok (.iconst 0, 1) := by decide +kernel
theorem d_Law_law_143 : decode b_Law_law 143 = .ok (.ireturn, 1) := by decide +kernel
theorem d_Law_law_144 : decode b_Law_law 144 = .ok (.iload 5, 2) := by decide +kernel
theorem d_Law_law_146 : decode b_Law_law 146 = .ok (.ifCond .ne 15, 3) := by decide +kernel
theorem d_Law_law_149 : decode b_Law_law 149 = .ok (.aload_n 3, 1) := by decide +kernel
theorem d_Law_law_150 : decode b_Law_law 150 = .ok (.iconst 0, 1) := by decide +kernel
theorem d_Law_law_151 : decode b_Law_law 151 = .ok (.laload, 1) := by decide +kernel
theorem d_Law_law_152 : decode b_Law_law 152 = .ok (.iload 6, 2) := by decide +kernel
theorem d_Law_law_154 : decode b_Law_law 154 = .ok (.i2l, 1) := by decide +kernel
theorem d_Law_law_155 : decode b_Law_law 155 = .ok (.lcmp, 1) := by decide +kernel
theorem d_Law_law_156 : decode b_Law_law 156 = .ok (.ifCond .eq 5, 3) := by decide +kernel
theorem d_Law_law_159 : decode b_Law_law 159 = .ok (.iconst 0, 1) := by decide +kernel
theorem d_Law_law_160 : decode b_Law_law 160 = .ok (.ireturn, 1) := by decide +kernel
theorem d_Law_law_161 : decode b_Law_law 161 = .ok (.goto 555, 3) := by decide +kernel
theorem d_Law_law_164 : decode b_Law_law 164 = .ok (.aload_n 1, 1) := by decide +kernel
theorem d_Law_law_165 : decode b_Law_law 165 = .ok (.aload_n 0, 1) := by decide +kernel
theorem d_Law_law_166 : decode b_Law_law 166 = .ok (.iload 4, 2) := by decide +kernel
theorem d_Law_law_168 : decode b_Law_law 168 = .ok (.iconst 1, 1) := by decide +kernel
theorem d_Law_law_169 : decode b_Law_law 169 = .ok (.iadd, 1) := by decide +kernel
theorem d_Law_law_170 : decode b_Law_law 170 = .ok (.iaload, 1) := by decide +kernel
theorem d_Law_law_171 : decode b_Law_law 171 = .ok (.aload_n 0, 1) := by decide +kernel
theorem d_Law_law_172 : decode b_Law_law 172 = .ok (.iload 4, 2) := by decide +kernel
theorem d_Law_law_174 : decode b_Law_law 174 = .ok (.iconst 2, 1) := by decide +kernel
theorem d_Law_law_175 : decode b_Law_law 175 = .ok (.iadd, 1) := by decide +kernel
theorem d_Law_law_176 : decode b_Law_law 176 = .ok (.iaload, 1) := by decide +kernel
theorem d_Law_law_177 : decode b_Law_law 177 = .ok (.aload_n 0, 1) := by decide +kernel
theorem d_Law_law_178 : decode b_Law_law 178 = .ok (.iload 4, 2) := by decide +kernel
theorem d_Law_law_180 : decode b_Law_law 180 = .ok (.iconst 3, 1) := by decide +kernel
theorem d_Law_law_181 : decode b_Law_law 181 = .ok (.iadd, 1) := by decide +kernel
theorem d_Law_law_182 : decode b_Law_law 182 = .ok (.iaload, 1) := by decide +kernel
theorem d_Law_law_183 : decode b_Law_law 183 = .ok (.invokestatic 53, 3) := by decide +kernel
theorem d_Law_law_186 : decode b_Law_law 186 = .ok (.istore 5, 2) := by decide +kernel
theorem d_Law_law_188 : decode b_Law_law 188 = .ok (.aload_n 2, 1) := by decide +kernel
theorem d_Law_law_189 : decode b_Law_law 189 = .ok (.aload_n 0, 1) := by decide +kernel
theorem d_Law_law_190 : decode b_Law_law 190 = .ok (.iload 4, 2) := by decide +kernel
theorem d_Law_law_192 : decode b_Law_law 192 = .ok (.iconst 1, 1) := by decide +kernel
theorem d_Law_law_193 : decode b_Law_law 193 = .ok (.iadd, 1) := by decide +kernel
theorem d_Law_law_194 : decode b_Law_law 194 = .ok (.iaload, 1) := by decide +kernel
theorem d_Law_law_195 : decode b_Law_law 195 = .ok (.aload_n 0, 1) := by decide +kernel
theorem d_Law_law_196 : decode b_Law_law 196 = .ok (.iload 4, 2) := by decide +kernel
theorem d_Law_law_198 : decode b_Law_law 198 = .ok (.iconst 2, 1) := by decide +kernel
theorem d_Law_law_199 : decode b_Law_law 199 = .ok (.iadd, 1) := by decide +kernel
theorem d_Law_law_200 : decode b_Law_law 200 = .ok (.iaload, 1) := by decide +kernel
theorem d_Law_law_201 : decode b_Law_law 201 = .ok (.aload_n 0, 1) := by decide +kernel
theorem d_Law_law_202 : decode b_Law_law 202 = .ok (.iload 4, 2) := by decide +kernel
theorem d_Law_law_204 : decode b_Law_law 204 = .ok (.iconst 3, 1) := by decide +kernel
theorem d_Law_law_205 : decode b_Law_law 205 = .ok (.iadd, 1) := by decide +kernel
theorem d_Law_law_206 : decode b_Law_law 206 = .ok (.iaload, 1) := by decide +kernel
theorem d_Law_law_207 : decode b_Law_law 207 = .ok (.invokevirtual 56, 3) := by decide +kernel
theorem d_Law_law_210 : decode b_Law_law 210 = .ok (.aload_n 2, 1) := by decide +kernel
theorem d_Law_law_211 : decode b_Law_law 211 = .ok (.invokevirtual 49, 3) := by decide +kernel
theorem d_Law_law_214 : decode b_Law_law 214 = .ok (.iload 5, 2) := by decide +kernel
theorem d_Law_law_216 : decode b_Law_law 216 = .ok (.if_icmp .eq 5, 3) := by decide +kernel
theorem d_Law_law_219 : decode b_Law_law 219 = .ok (.iconst 0, 1) := by decide +kernel
theorem d_Law_law_220 : decode b_Law_law 220 = .ok (.ireturn, 1) := by decide +kernel
theorem d_Law_law_221 : decode b_Law_law 221 = .ok (.goto 495, 3) := by decide +kernel
theorem d_Law_law_224 : decode b_Law_law 224 = .ok (.aload_n 1, 1) := by decide +kernel
theorem d_Law_law_225 : decode b_Law_law 225 = .ok (.invokevirtual 57, 3) := by decide +kernel
theorem d_Law_law_228 : decode b_Law_law 228 = .ok (.aload_n 2, 1) := by decide +kernel
theorem d_Law_law_229 : decode b_Law_law 229 = .ok (.invokevirtual 60, 3) := by decide +kernel
theorem d_Law_law_232 : decode b_Law_law 232 = .ok (.goto 484, 3) := by decide +kernel
theorem d_Law_law_235 : decode b_Law_law 235 = .ok (.aload_n 1, 1) := by decide +kernel
theorem d_Law_law_236 : decode b_Law_law 236 = .ok (.invokevirtual 61, 3) := by decide +kernel
theorem d_Law_law_239 : decode b_Law_law 239 = .ok (.aload_n 2, 1) := by decide +kernel
theorem d_Law_law_240 : decode b_Law_law 240 = .ok (.invokevirtual 64, 3) := by decide +kernel
theorem d_Law_law_243 : decode b_Law_law 243 = .ok (.if_icmp .eq 473, 3) := by decide +kernel
theorem d_Law_law_246 : decode b_Law_law 246 = .ok (.iconst 0, 1) := by decide +kernel
theorem d_Law_law_247 : decode b_Law_law 247 = .ok (.ireturn, 1) := by decide +kernel
theorem d_Law_law_248 : decode b_Law_law 248 = .ok (.aload_n 1, 1) := by decide +kernel
theorem d_Law_law_249 : decode b_Law_law 249 = .ok (.aload_n 0, 1) := by decide +kernel
theorem d_Law_law_250 : decode b_Law_law 250 = .ok (.iload 4, 2) := by decide +kernel
theorem d_Law_law_252 : decode b_Law_law 252 = .ok (.iconst 1, 1) := by decide +kernel
theorem d_Law_law_253 : decode b_Law_law 253 = .ok (.iadd, 1) := by decide +kernel
theorem d_Law_law_254 : decode b_Law_law 254 = .ok (.iaload, 1) := by decide +kernel
theorem d_Law_law_255 : decode b_Law_law 255 = .ok (.aload_n 0, 1) := by decide +kernel
theorem d_Law_law_256 : decode b_Law_law 256 = .ok (.iload 4, 2) := by decide +kernel
theorem d_Law_law_258 : decode b_Law_law 258 = .ok (.iconst 2, 1) := by decide +kernel
theorem d_Law_law_259 : decode b_Law_law 259 = .ok (.iadd, 1) := by decide +kernel
theorem d_Law_law_260 : decode b_Law_law 260 = .ok (.iaload, 1) := by decide +kernel
theorem d_Law_law_261 : decode b_Law_law 261 = .ok (.aload_n 3, 1) := by decide +kernel
theorem d_Law_law_262 : decode b_Law_law 262 = .ok (.invokestatic 65, 3) := by decide +kernel
theorem d_Law_law_265 : decode b_Law_law 265 = .ok (.istore 5, 2) := by decide +kernel
theorem d_Law_law_267 : decode b_Law_law 267 = .ok (.aload_n 2, 1) := by decide +kernel
theorem d_Law_law_268 : decode b_Law_law 268 = .ok (.aload_n 0, 1) := by decide +kernel
theorem d_Law_law_269 : decode b_Law_law 269 = .ok (.iload 4, 2) := by decide +kernel
theorem d_Law_law_271 : decode b_Law_law 271 = .ok (.iconst 1, 1) := by decide +kernel
theorem d_Law_law_272 : decode b_Law_law 272 = .ok (.iadd, 1) := by decide +kernel
theorem d_Law_law_273 : decode b_Law_law 273 = .ok (.iaload, 1) := by decide +kernel
theorem d_Law_law_274 : decode b_Law_law 274 = .ok (.aload_n 0, 1) := by decide +kernel
theorem d_Law_law_275 : decode b_Law_law 275 = .ok (.iload 4, 2) := by decide +kernel
theorem d_Law_law_277 : decode b_Law_law 277 = .ok (.iconst 2, 1) := by decide +kernel
theorem d_Law_law_278 : decode b_Law_law 278 = .ok (.iadd, 1) := by decide +kernel
theorem d_Law_law_279 : decode b_Law_law 279 = .ok (.iaload, 1) := by decide +kernel
theorem d_Law_law_280 : decode b_Law_law 280 = .ok (.invokevirtual 67, 3) := by decide +kernel
theorem d_Law_law_283 : decode b_Law_law 283 = .ok (.istore 6, 2) := by decide +kernel
theorem d_Law_law_285 : decode b_Law_law 285 = .ok (.aload_n 2, 1) := by decide +kernel
theorem d_Law_law_286 : decode b_Law_law 286 = .ok (.invokevirtual 49, 3) := by decide +kernel
theorem d_Law_law_289 : decode b_Law_law 289 = .ok (.iload 5, 2) := by decide +kernel
theorem d_Law_law_291 : decode b_Law_law 291 = .ok (.if_icmp .eq 5, 3) := by decide +kernel
theorem d_Law_law_294 : decode b_Law_law 294 = .ok (.iconst 0, 1) := by decide +kernel
theorem d_Law_law_295 : decode b_Law_law 295 = .ok (.ireturn, 1) := by decide +kernel
theorem d_Law_law_296 : decode b_Law_law 296 = .ok (.iload 5, 2) := by decide +kernel
theorem d_Law_law_298 : decode b_Law_law 298 = .ok (.ifCond .ne 15, 3) := by decide +kernel
theorem d_Law_law_301 : decode b_Law_law 301 = .ok (.aload_n 3, 1) := by decide +kernel
theorem d_Law_law_302 : decode b_Law_law 302 = .ok (.iconst 0, 1) := by decide +kernel
theorem d_Law_law_303 : decode b_Law_law 303 = .ok (.laload, 1) := by decide +kernel
theorem d_Law_law_304 : decode b_Law_law 304 = .ok (.iload 6, 2) := by decide +kernel
theorem d_Law_law_306 : decode b_Law_law 306 = .ok (.i2l, 1) := by decide +kernel
theorem d_Law_law_307 : decode b_Law_law 307 = .ok (.lcmp, 1) := by decide +kernel
theorem d_Law_law_308 : decode b_Law_law 308 = .ok (.ifCond .eq 5, 3) := by decide +kernel
theorem d_Law_law_311 : decode b_Law_law 311 = .ok (.iconst 0, 1) := by decide +kernel
theorem d_Law_law_312 : decode b_Law_law 312 = .ok (.ireturn, 1) := by decide +kernel
theorem d_Law_law_313 : decode b_Law_law 313 = .ok (.goto 403, 3) := by decide +kernel
theorem d_Law_law_316 : decode b_Law_law 316 = .ok (.aload_n 1, 1) := by decide +kernel
theorem d_Law_law_317 : decode b_Law_law 317 = .ok (.aload_n 0, 1) := by decide +kernel
theorem d_Law_law_318 : decode b_Law_law 318 = .ok (.iload 4, 2) := by decide +kernel
theorem d_Law_law_320 : decode b_Law_law 320 = .ok (.iconst 1, 1) := by decide +kernel
theorem d_Law_law_321 : decode b_Law_law 321 = .ok (.iadd, 1) := by decide +kernel
theorem d_Law_law_322 : decode b_Law_law 322 = .ok (.iaload, 1) := by decide +kernel
theorem d_Law_law_323 : decode b_Law_law 323 = .ok (.ifCond .eq 7, 3) := by decide +kernel
theorem d_Law_law_326 : decode b_Law_law 326 = .ok (.iconst 1, 1) := by decide +kernel
theorem d_Law_law_327 : decode b_Law_law 327 = .ok (.goto 4, 3) := by decide +kernel
theorem d_Law_law_330 : decode b_Law_law 330 = .ok (.iconst 0, 1) := by decide +kernel
theorem d_Law_law_331 : decode b_Law_law 331 = .ok (.aload_n 0, 1) := by decide +kernel
theorem d_Law_law_332 : decode b_Law_law 332 = .ok (.iload 4, 2) := by decide +kernel
theorem d_Law_law_334 : decode b_Law_law 334 = .ok (.iconst 2, 1) := by decide +kernel
theorem d_Law_law_335 : decode b_Law_law 335 = .ok (.iadd, 1) := by decide +kernel
theorem d_Law_law_336 : decode b_Law_law 336 = .ok (.iaload, 1) := by decide +kernel
theorem d_Law_law_337 : decode b_Law_law 337 = .ok (.aload_n 3, 1) := by decide +kernel
theorem d_Law_law_338 : decode b_Law_law 338 = .ok (.invokestatic 68, 3) := by decide +kernel
theorem d_Law_law_341 : decode b_Law_law 341 = .ok (.istore 5, 2) := by decide +kernel
theorem d_Law_law_343 : decode b_Law_law 343 = .ok (.aload_n 2, 1) := by decide +kernel
theorem d_Law_law_344 : decode b_Law_law 344 = .ok (.aload_n 0, 1) := by decide +kernel
theorem d_Law_law_345 : decode b_Law_law 345 = .ok (.iload 4, 2) := by decide +kernel
theorem d_Law_law_347 : decode b_Law_law 347 = .ok (.iconst 1, 1) := by decide +kernel
theorem d_Law_law_348 : decode b_Law_law 348 = .ok (.iadd, 1) := by decide +kernel
theorem d_Law_law_349 : decode b_Law_law 349 = .ok (.iaload, 1) := by decide +kernel
theorem d_Law_law_350 : decode b_Law_law 350 = .ok (.ifCond .eq 7, 3) := by decide +kernel
theorem d_Law_law_353 : decode b_Law_law 353 = .ok (.iconst 1, 1) := by decide +kernel
theorem d_Law_law_354 : decode b_Law_law 354 = .ok (.goto 4, 3) := by decide +kernel
theorem d_Law_law_357 : decode b_Law_law 357 = .ok (.iconst 0, 1) := by decide +kernel
theorem d_Law_law_358 : decode b_Law_law 358 = .ok (.aload_n 0, 1) := by decide +kernel
theorem d_Law_law_359 : decode b_Law_law 359 = .ok (.iload 4, 2) := by decide +kernel
theorem d_Law_law_361 : decode b_Law_law 361 = .ok (.iconst 2, 1) := by decide +kernel
theorem d_Law_law_362 : decode b_Law_law 362 = .ok (.iadd, 1) := by decide +kernel
theorem d_Law_law_363 : decode b_Law_law 363 = .ok (.iaload, 1) := by decide +kernel
theorem d_Law_law_364 : decode b_Law_law 364 = .ok (.invokevirtual 71, 3) := by decide +kernel
theorem d_Law_law_367 : decode b_Law_law 367 = .ok (.istore 6, 2) := by decide +kernel
theorem d_Law_law_369 : decode b_Law_law 369 = .ok (.aload_n 2, 1) := by decide +kernel
theorem d_Law_law_370 : decode b_Law_law 370 = .ok (.invokevirtual 49, 3) := by decide +kernel
theorem d_Law_law_373 : decode b_Law_law 373 = .ok (.iload 5, 2) := by decide +kernel
theorem d_Law_law_375 : decode b_Law_law 375 = .ok (.if_icmp .eq 5, 3) := by decide +kernel
theorem d_Law_law_378 : decode b_Law_law 378 = .ok (.iconst 0, 1) := by decide +kernel
theorem d_Law_law_379 : decode b_Law_law 379 = .ok (.ireturn, 1) := by decide +kernel
theorem d_Law_law_380 : decode b_Law_law 380 = .ok (.iload 5, 2) := by decide +kernel
theorem d_Law_law_382 : decode b_Law_law 382 = .ok (.ifCond .ne 15, 3) := by decide +kernel
theorem d_Law_law_385 : decode b_Law_law 385 = .ok (.aload_n 3, 1) := by decide +kernel
theorem d_Law_law_386 : decode b_Law_law 386 = .ok (.iconst 0, 1) := by decide +kernel
theorem d_Law_law_387 : decode b_Law_law 387 = .ok (.laload, 1) := by decide +kernel
theorem d_Law_law_388 : decode b_Law_law 388 = .ok (.iload 6, 2) := by decide +kernel
theorem d_Law_law_390 : decode b_Law_law 390 = .ok (.i2l, 1) := by decide +kernel
theorem d_Law_law_391 : decode b_Law_law 391 = .ok (.lcmp, 1) := by decide +kernel
theorem d_Law_law_392 : decode b_Law_law 392 = .ok (.ifCond .eq 5, 3) := by decide +kernel
theorem d_Law_law_395 : decode b_Law_law 395 = .ok (.iconst 0, 1) := by decide +kernel
theorem d_Law_law_396 : decode b_Law_law 396 = .ok (.ireturn, 1) := by decide +kernel
theorem d_Law_law_397 : decode b_Law_law 397 = .ok (.goto 319, 3) := by decide +kernel
theorem d_Law_law_400 : decode b_Law_law 400 = .ok (.aload_n 1, 1) := by decide +kernel
theorem d_Law_law_401 : decode b_Law_law 401 = .ok (.invokevirtual 72, 3) := by decide +kernel
theorem d_Law_law_404 : decode b_Law_law 404 = .ok (.aload_n 2, 1) := by decide +kernel
theorem d_Law_law_405 : decode b_Law_law 405 = .ok (.invokevirtual 75, 3) := by decide +kernel
theorem d_Law_law_408 : decode b_Law_law 408 = .ok (.goto 308, 3) := by decide +kernel
theorem d_Law_law_411 : decode b_Law_law 411 = .ok (.aload_n 1, 1) := by decide +kernel
theorem d_Law_law_412 : decode b_Law_law 412 = .ok (.aload_n 0, 1) := by decide +kernel
theorem d_Law_law_413 : decode b_Law_law 413 = .ok (.iload 4, 2) := by decide +kernel
theorem d_Law_law_415 : decode b_Law_law 415 = .ok (.iconst 1, 1) := by decide +kernel
theorem d_Law_law_416 : decode b_Law_law 416 = .ok (.iadd, 1) := by decide +kernel
theorem d_Law_law_417 : decode b_Law_law 417 = .ok (.iaload, 1) := by decide +kernel
theorem d_Law_law_418 : decode b_Law_law 418 = .ok (.ifCond .eq 7, 3) := by decide +kernel
theorem d_Law_law_421 : decode b_Law_law 421 = .ok (.iconst 1, 1) := by decide +kernel
theorem d_Law_law_422 : decode b_Law_law 422 = .ok (.goto 4, 3) := by decide +kernel
theorem d_Law_law_425 : decode b_Law_law 425 = .ok (.iconst 0, 1) := by decide +kernel
theorem d_Law_law_426 : decode b_Law_law 426 = .ok (.aload_n 0, 1) := by decide +kernel
theorem d_Law_law_427 : decode b_Law_law 427 = .ok (.iload 4, 2) := by decide +kernel
theorem d_Law_law_429 : decode b_Law_law 429 = .ok (.iconst 2, 1) := by decide +kernel
theorem d_Law_law_430 : decode b_Law_law 430 = .ok (.iadd, 1) := by decide +kernel
theorem d_Law_law_431 : decode b_Law_law 431 = .ok (.iaload, 1) := by decide +kernel
theorem d_Law_law_432 : decode b_Law_law 432 = .ok (.invokevirtual 76, 3) := by decide +kernel
theorem d_Law_law_435 : decode b_Law_law 435 = .ok (.aload_n 2, 1) := by decide +kernel
theorem d_Law_law_436 : decode b_Law_law 436 = .ok (.aload_n 0, 1) := by decide +kernel
theorem d_Law_law_437 : decode b_Law_law 437 = .ok (.iload 4, 2) := by decide +kernel
theorem d_Law_law_439 : decode b_Law_law 439 = .ok (.iconst 1, 1) := by decide +kernel
theorem d_Law_law_440 : decode b_Law_law 440 = .ok (.iadd, 1) := by decide +kernel
theorem d_Law_law_441 : decode b_Law_law 441 = .ok (.iaload, 1) := by decide +kernel
theorem d_Law_law_442 : decode b_Law_law 442 = .ok (.ifCond .eq 7, 3) := by decide +kernel
theorem d_Law_law_445 : decode b_Law_law 445 = .ok (.iconst 1, 1) := by decide +kernel
theorem d_Law_law_446 : decode b_Law_law 446 = .ok (.goto 4, 3) := by decide +kernel
theorem d_Law_law_449 : decode b_Law_law 449 = .ok (.iconst 0, 1) := by decide +kernel
theorem d_Law_law_450 : decode b_Law_law 450 = .ok (.aload_n 0, 1) := by decide +kernel
theorem d_Law_law_451 : decode b_Law_law 451 = .ok (.iload 4, 2) := by decide +kernel
theorem d_Law_law_453 : decode b_Law_law 453 = .ok (.iconst 2, 1) := by decide +kernel
theorem d_Law_law_454 : decode b_Law_law 454 = .ok (.iadd, 1) := by decide +kernel
theorem d_Law_law_455 : decode b_Law_law 455 = .ok (.iaload, 1) := by decide +kernel
theorem d_Law_law_456 : decode b_Law_law 456 = .ok (.invokevirtual 79, 3) := by decide +kernel
theorem d_Law_law_459 : decode b_Law_law 459 = .ok (.if_icmp .eq 257, 3) := by decide +kernel
theorem d_Law_law_462 : decode b_Law_law 462 = .ok (.iconst 0, 1) := by decide +kernel
theorem d_Law_law_463 : decode b_Law_law 463 = .ok (.ireturn, 1) := by decide +kernel
theorem d_Law_law_464 : decode b_Law_law 464 = .ok (.aload_n 1, 1) := by decide +kernel
theorem d_Law_law_465 : decode b_Law_law 465 = .ok (.aload_n 0, 1) := by decide +kernel
theorem d_Law_law_466 : decode b_Law_law 466 = .ok (.iload 4, 2) := by decide +kernel
theorem d_Law_law_468 : decode b_Law_law 468 = .ok (.iconst 1, 1) := by decide +kernel
theorem d_Law_law_469 : decode b_Law_law 469 = .ok (.iadd, 1) := by decide +kernel
theorem d_Law_law_470 : decode b_Law_law 470 = .ok (.iaload, 1) := by decide +kernel
theorem d_Law_law_471 : decode b_Law_law 471 = .ok (.ifCond .eq 7, 3) := by decide +kernel
theorem d_Law_law_474 : decode b_Law_law 474 = .ok (.iconst 1, 1) := by decide +kernel
theorem d_Law_law_475 : decode b_Law_law 475 = .ok (.goto 4, 3) := by decide +kernel
theorem d_Law_law_478 : decode b_Law_law 478 = .ok (.iconst 0, 1) := by decide +kernel
theorem d_Law_law_479 : decode b_Law_law 479 = .ok (.aload_n 0, 1) := by decide +kernel
theorem d_Law_law_480 : decode b_Law_law 480 = .ok (.iload 4, 2) := by decide +kernel
theorem d_Law_law_482 : decode b_Law_law 482 = .ok (.iconst 2, 1) := by decide +kernel
theorem d_Law_law_483 : decode b_Law_law 483 = .ok (.iadd, 1) := by decide +kernel
theorem d_Law_law_484 : decode b_Law_law 484 = .ok (.iaload, 1) := by decide +kernel
theorem d_Law_law_485 : decode b_Law_law 485 = .ok (.aload_n 3, 1) := by decide +kernel
theorem d_Law_law_486 : decode b_Law_law 486 = .ok (.invokestatic 80, 3) := by decide +kernel
theorem d_Law_law_489 : decode b_Law_law 489 = .ok (.istore 5, 2) := by decide +kernel
theorem d_Law_law_491 : decode b_Law_law 491 = .ok (.aload_n 2, 1) := by decide +kernel
theorem d_Law_law_492 : decode b_Law_law 492 = .ok (.aload_n 0, 1) := by decide +kernel
theorem d_Law_law_493 : decode b_Law_law 493 = .ok (.iload 4, 2) := by decide +kernel
theorem d_Law_law_495 : decode b_Law_law 495 = .ok (.iconst 1, 1) := by decide +kernel
theorem d_Law_law_496 : decode b_Law_law 496 = .ok (.iadd, 1) := by decide +kernel
theorem d_Law_law_497 : decode b_Law_law 497 = .ok (.iaload, 1) := by decide +kernel
theorem d_Law_law_498 : decode b_Law_law 498 = .ok (.ifCond .eq 7, 3) := by decide +kernel
theorem d_Law_law_501 : decode b_Law_law 501 = .ok (.iconst 1, 1) := by decide +kernel
theorem d_Law_law_502 : decode b_Law_law 502 = .ok (.goto 4, 3) := by decide +kernel
theorem d_Law_law_505 : decode b_Law_law 505 = .ok (.iconst 0, 1) := by decide +kernel
theorem d_Law_law_506 : decode b_Law_law 506 = .ok (.aload_n 0, 1) := by decide +kernel
theorem d_Law_law_507 : decode b_Law_law 507 = .ok (.iload 4, 2) := by decide +kernel
theorem d_Law_law_509 : decode b_Law_law 509 = .ok (.iconst 2, 1) := by decide +kernel
theorem d_Law_law_510 : decode b_Law_law 510 = .ok (.iadd, 1) := by decide +kernel
theorem d_Law_law_511 : decode b_Law_law 511 = .ok (.iaload, 1) := by decide +kernel
theorem d_Law_law_512 : decode b_Law_law 512 = .ok (.invokevirtual 82, 3) := by decide +kernel
theorem d_Law_law_515 : decode b_Law_law 515 = .ok (.istore 6, 2) := by decide +kernel
theorem d_Law_law_517 : decode b_Law_law 517 = .ok (.aload_n 2, 1) := by decide +kernel
theorem d_Law_law_518 : decode b_Law_law 518 = .ok (.invokevirtual 49, 3) := by decide +kernel
theorem d_Law_law_521 : decode b_Law_law 521 = .ok (.iload 5, 2) := by decide +kernel
theorem d_Law_law_523 : decode b_Law_law 523 = .ok (.if_icmp .eq 5, 3) := by decide +kernel
theorem d_Law_law_526 : decode b_Law_law 526 = .ok (.iconst 0, 1) := by decide +kernel
theorem d_Law_law_527 : decode b_Law_law 527 = .ok (.ireturn, 1) := by decide +kernel
theorem d_Law_law_528 : decode b_Law_law 528 = .ok (.iload 5, 2) := by decide +kernel
theorem d_Law_law_530 : decode b_Law_law 530 = .ok (.ifCond .ne 15, 3) := by decide +kernel
theorem d_Law_law_533 : decode b_Law_law 533 = .ok (.aload_n 3, 1) := by decide +kernel
theorem d_Law_law_534 : decode b_Law_law 534 = .ok (.iconst 0, 1) := by decide +kernel
theorem d_Law_law_535 : decode b_Law_law 535 = .ok (.laload, 1) := by decide +kernel
theorem d_Law_law_536 : decode b_Law_law 536 = .ok (.iload 6, 2) := by decide +kernel
theorem d_Law_law_538 : decode b_Law_law 538 = .ok (.i2l, 1) := by decide +kernel
theorem d_Law_law_539 : decode b_Law_law 539 = .ok (.lcmp, 1) := by decide +kernel
theorem d_Law_law_540 : decode b_Law_law 540 = .ok (.ifCond .eq 5, 3) := by decide +kernel
theorem d_Law_law_543 : decode b_Law_law 543 = .ok (.iconst 0, 1) := by decide +kernel
theorem d_Law_law_544 : decode b_Law_law 544 = .ok (.ireturn, 1) := by decide +kernel
theorem d_Law_law_545 : decode b_Law_law 545 = .ok (.goto 171, 3) := by decide +kernel
theorem d_Law_law_548 : decode b_Law_law 548 = .ok (.aload_n 1, 1) := by decide +kernel
theorem d_Law_law_549 : decode b_Law_law 549 = .ok (.aload_n 0, 1) := by decide +kernel
theorem d_Law_law_550 : decode b_Law_law 550 = .ok (.iload 4, 2) := by decide +kernel
theorem d_Law_law_552 : decode b_Law_law 552 = .ok (.iconst 1, 1) := by decide +kernel
theorem d_Law_law_553 : decode b_Law_law 553 = .ok (.iadd, 1) := by decide +kernel
theorem d_Law_law_554 : decode b_Law_law 554 = .ok (.iaload, 1) := by decide +kernel
theorem d_Law_law_555 : decode b_Law_law 555 = .ok (.ifCond .eq 7, 3) := by decide +kernel
theorem d_Law_law_558 : decode b_Law_law 558 = .ok (.iconst 1, 1) := by decide +kernel
theorem d_Law_law_559 : decode b_Law_law 559 = .ok (.goto 4, 3) := by decide +kernel
theorem d_Law_law_562 : decode b_Law_law 562 = .ok (.iconst 0, 1) := by decide +kernel
theorem d_Law_law_563 : decode b_Law_law 563 = .ok (.aload_n 0, 1) := by decide +kernel
theorem d_Law_law_564 : decode b_Law_law 564 = .ok (.iload 4, 2) := by decide +kernel
theorem d_Law_law_566 : decode b_Law_law 566 = .ok (.iconst 2, 1) := by decide +kernel
theorem d_Law_law_567 : decode b_Law_law 567 = .ok (.iadd, 1) := by decide +kernel
theorem d_Law_law_568 : decode b_Law_law 568 = .ok (.iaload, 1) := by decide +kernel
theorem d_Law_law_569 : decode b_Law_law 569 = .ok (.aload_n 3, 1) := by decide +kernel
theorem d_Law_law_570 : decode b_Law_law 570 = .ok (.invokestatic 83, 3) := by decide +kernel
theorem d_Law_law_573 : decode b_Law_law 573 = .ok (.istore 5, 2) := by decide +kernel
theorem d_Law_law_575 : decode b_Law_law 575 = .ok (.aload_n 2, 1) := by decide +kernel
theorem d_Law_law_576 : decode b_Law_law 576 = .ok (.aload_n 0, 1) := by decide +kernel
theorem d_Law_law_577 : decode b_Law_law 577 = .ok (.iload 4, 2) := by decide +kernel
theorem d_Law_law_579 : decode b_Law_law 579 = .ok (.iconst 1, 1) := by decide +kernel
theorem d_Law_law_580 : decode b_Law_law 580 = .ok (.iadd, 1) := by decide +kernel
theorem d_Law_law_581 : decode b_Law_law 581 = .ok (.iaload, 1) := by decide +kernel
theorem d_Law_law_582 : decode b_Law_law 582 = .ok (.ifCond .eq 7, 3) := by decide +kernel
theorem d_Law_law_585 : decode b_Law_law 585 = .ok (.iconst 1, 1) := by decide +kernel
theorem d_Law_law_586 : decode b_Law_law 586 = .ok (.goto 4, 3) := by decide +kernel
theorem d_Law_law_589 : decode b_Law_law 589 = .ok (.iconst 0, 1) := by decide +kernel
theorem d_Law_law_590 : decode b_Law_law 590 = .ok (.aload_n 0, 1) := by decide +kernel
theorem d_Law_law_591 : decode b_Law_law 591 = .ok (.iload 4, 2) := by decide +kernel
theorem d_Law_law_593 : decode b_Law_law 593 = .ok (.iconst 2, 1) := by decide +kernel
theorem d_Law_law_594 : decode b_Law_law 594 = .ok (.iadd, 1) := by decide +kernel
theorem d_Law_law_595 : decode b_Law_law 595 = .ok (.iaload, 1) := by decide +kernel
theorem d_Law_law_596 : decode b_Law_law 596 = .ok (.invokevirtual 85, 3) := by decide +kernel
theorem d_Law_law_599 : decode b_Law_law 599 = .ok (.istore 6, 2) := by decide +kernel
theorem d_Law_law_601 : decode b_Law_law 601 = .ok (.aload_n 2, 1) := by decide +kernel
theorem d_Law_law_602 : decode b_Law_law 602 = .ok (.invokevirtual 49, 3) := by decide +kernel
theorem d_Law_law_605 : decode b_Law_law 605 = .ok (.iload 5, 2) := by decide +kernel
theorem d_Law_law_607 : decode b_Law_law 607 = .ok (.if_icmp .eq 5, 3) := by decide +kernel
theorem d_Law_law_610 : decode b_Law_law 610 = .ok (.iconst 0, 1) := by decide +kernel
theorem d_Law_law_611 : decode b_Law_law 611 = .ok (.ireturn, 1) := by decide +kernel
theorem d_Law_law_612 : decode b_Law_law 612 = .ok (.iload 5, 2) := by decide +kernel
theorem d_Law_law_614 : decode b_Law_law 614 = .ok (.ifCond .ne 15, 3) := by decide +kernel
theorem d_Law_law_617 : decode b_Law_law 617 = .ok (.aload_n 3, 1) := by decide +kernel
theorem d_Law_law_618 : decode b_Law_law 618 = .ok (.iconst 0, 1) := by decide +kernel
theorem d_Law_law_619 : decode b_Law_law 619 = .ok (.laload, 1) := by decide +kernel
theorem d_Law_law_620 : decode b_Law_law 620 = .ok (.iload 6, 2) := by decide +kernel
theorem d_Law_law_622 : decode b_Law_law 622 = .ok (.i2l, 1) := by decide +kernel
theorem d_Law_law_623 : decode b_Law_law 623 = .ok (.lcmp, 1) := by decide +kernel
theorem d_Law_law_624 : decode b_Law_law 624 = .ok (.ifCond .eq 5, 3) := by decide +kernel
theorem d_Law_law_627 : decode b_Law_law 627 = .ok (.iconst 0, 1) := by decide +kernel
theorem d_Law_law_628 : decode b_Law_law 628 = .ok (.ireturn, 1) := by decide +kernel
theorem d_Law_law_629 : decode b_Law_law 629 = .ok (.goto 87, 3) := by decide +kernel
theorem d_Law_law_632 : decode b_Law_law 632 = .ok (.aload_n 1, 1) := by decide +kernel
theorem d_Law_law_633 : decode b_Law_law 633 = .ok (.aload_n 0, 1) := by decide +kernel
theorem d_Law_law_634 : decode b_Law_law 634 = .ok (.iload 4, 2) := by decide +kernel
theorem d_Law_law_636 : decode b_Law_law 636 = .ok (.iconst 1, 1) := by decide +kernel
theorem d_Law_law_637 : decode b_Law_law 637 = .ok (.iadd, 1) := by decide +kernel
theorem d_Law_law_638 : decode b_Law_law 638 = .ok (.iaload, 1) := by decide +kernel
theorem d_Law_law_639 : decode b_Law_law 639 = .ok (.ifCond .eq 7, 3) := by decide +kernel
theorem d_Law_law_642 : decode b_Law_law 642 = .ok (.iconst 1, 1) := by decide +kernel
theorem d_Law_law_643 : decode b_Law_law 643 = .ok (.goto 4, 3) := by decide +kernel
theorem d_Law_law_646 : decode b_Law_law 646 = .ok (.iconst 0, 1) := by decide +kernel
theorem d_Law_law_647 : decode b_Law_law 647 = .ok (.aload_n 0, 1) := by decide +kernel
theorem d_Law_law_648 : decode b_Law_law 648 = .ok (.iload 4, 2) := by decide +kernel
theorem d_Law_law_650 : decode b_Law_law 650 = .ok (.iconst 2, 1) := by decide +kernel
theorem d_Law_law_651 : decode b_Law_law 651 = .ok (.iadd, 1) := by decide +kernel
theorem d_Law_law_652 : decode b_Law_law 652 = .ok (.iaload, 1) := by decide +kernel
theorem d_Law_law_653 : decode b_Law_law 653 = .ok (.aload_n 3, 1) := by decide +kernel
theorem d_Law_law_654 : decode b_Law_law 654 = .ok (.invokestatic 86, 3) := by decide +kernel
theorem d_Law_law_657 : decode b_Law_law 657 = .ok (.istore 5, 2) := by decide +kernel
theorem d_Law_law_659 : decode b_Law_law 659 = .ok (.aload_n 2, 1) := by decide +kernel
theorem d_Law_law_660 : decode b_Law_law 660 = .ok (.aload_n 0, 1) := by decide +kernel
theorem d_Law_law_661 : decode b_Law_law 661 = .ok (.iload 4, 2) := by decide +kernel
theorem d_Law_law_663 : decode b_Law_law 663 = .ok (.iconst 1, 1) := by decide +kernel
theorem d_Law_law_664 : decode b_Law_law 664 = .ok (.iadd, 1) := by decide +kernel
theorem d_Law_law_665 : decode b_Law_law 665 = .ok (.iaload, 1) := by decide +kernel
theorem d_Law_law_666 : decode b_Law_law 666 = .ok (.ifCond .eq 7, 3) := by decide +kernel
theorem d_Law_law_669 : decode b_Law_law 669 = .ok (.iconst 1, 1) := by decide +kernel
theorem d_Law_law_670 : decode b_Law_law 670 = .ok (.goto 4, 3) := by decide +kernel
theorem d_Law_law_673 : decode b_Law_law 673 = .ok (.iconst 0, 1) := by decide +kernel
theorem d_Law_law_674 : decode b_Law_law 674 = .ok (.aload_n 0, 1) := by decide +kernel
theorem d_Law_law_675 : decode b_Law_law 675 = .ok (.iload 4, 2) := by decide +kernel
theorem d_Law_law_677 : decode b_Law_law 677 = .ok (.iconst 2, 1) := by decide +kernel
theorem d_Law_law_678 : decode b_Law_law 678 = .ok (.iadd, 1) := by decide +kernel
theorem d_Law_law_679 : decode b_Law_law 679 = .ok (.iaload, 1) := by decide +kernel
theorem d_Law_law_680 : decode b_Law_law 680 = .ok (.invokevirtual 88, 3) := by decide +kernel
theorem d_Law_law_683 : decode b_Law_law 683 = .ok (.istore 6, 2) := by decide +kernel
theorem d_Law_law_685 : decode b_Law_law 685 = .ok (.aload_n 2, 1) := by decide +kernel
theorem d_Law_law_686 : decode b_Law_law 686 = .ok (.invokevirtual 49, 3) := by decide +kernel
theorem d_Law_law_689 : decode b_Law_law 689 = .ok (.iload 5, 2) := by decide +kernel
theorem d_Law_law_691 : decode b_Law_law 691 = .ok (.if_icmp .eq 5, 3) := by decide +kernel
theorem d_Law_law_694 : decode b_Law_law 694 = .ok (.iconst 0, 1) := by decide +kernel
theorem d_Law_law_695 : decode b_Law_law 695 = .ok (.ireturn, 1) := by decide +kernel
theorem d_Law_law_696 : decode b_Law_law 696 = .ok (.iload 5, 2) := by decide +kernel
theorem d_Law_law_698 : decode b_Law_law 698 = .ok (.ifCond .ne 15, 3) := by decide +kernel
theorem d_Law_law_701 : decode b_Law_law 701 = .ok (.aload_n 3, 1) := by decide +kernel
theorem d_Law_law_702 : decode b_Law_law 702 = .ok (.iconst 0, 1) := by decide +kernel
theorem d_Law_law_703 : decode b_Law_law 703 = .ok (.laload, 1) := by decide +kernel
theorem d_Law_law_704 : decode b_Law_law 704 = .ok (.iload 6, 2) := by decide +kernel
theorem d_Law_law_706 : decode b_Law_law 706 = .ok (.i2l, 1) := by decide +kernel
theorem d_Law_law_707 : decode b_Law_law 707 = .ok (.lcmp, 1) := by decide +kernel
theorem d_Law_law_708 : decode b_Law_law 708 = .ok (.ifCond .eq 5, 3) := by decide +kernel
theorem d_Law_law_711 : decode b_Law_law 711 = .ok (.iconst 0, 1) := by decide +kernel
theorem d_Law_law_712 : decode b_Law_law 712 = .ok (.ireturn, 1) := by decide +kernel
theorem d_Law_law_713 : decode b_Law_law 713 = .ok (.goto 3, 3) := by decide +kernel
theorem d_Law_law_716 : decode b_Law_law 716 = .ok (.iinc 4 4, 3) := by decide +kernel
theorem d_Law_law_719 : decode b_Law_law 719 = .ok (.goto (-696), 3) := by decide +kernel
theorem d_Law_law_722 : decode b_Law_law 722 = .ok (.iconst 1, 1) := by decide +kernel
theorem d_Law_law_723 : decode b_Law_law 723 = .ok (.ireturn, 1) := by decide +kernel
