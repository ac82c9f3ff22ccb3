/-! DECODE: the constructor of the model -/
abbrev y_Mod_init : MethodName := ⟨"FusedEngineModel", "<init>", "()V"⟩
abbrev b_Mod_init : ByteArray := prog_6_method_1_code
theorem d_Mod_init_0 : decode b_Mod_init 0 = .ok (.aload_n 0, 1) := by decide +kernel
theorem d_Mod_init_1 : decode b_Mod_init 1 = .ok (.invokespecial 1, 3) := by decide +kernel
theorem d_Mod_init_4 : decode b_Mod_init 4 = .ok (.aload_n 0, 1) := by decide +kernel
theorem d_Mod_init_5 : decode b_Mod_init 5 = .ok (.bipush 80, 2) := by decide +kernel
theorem d_Mod_init_7 : decode b_Mod_init 7 = .ok (.newarray .char, 2) := by decide +kernel
theorem d_Mod_init_9 : decode b_Mod_init 9 = .ok (.putfield 7, 3) := by decide +kernel
theorem d_Mod_init_12 : decode b_Mod_init 12 = .ok (.aload_n 0, 1) := by decide +kernel
theorem d_Mod_init_13 : decode b_Mod_init 13 = .ok (.bipush 80, 2) := by decide +kernel
theorem d_Mod_init_15 : decode b_Mod_init 15 = .ok (.newarray .int, 2) := by decide +kernel
theorem d_Mod_init_17 : decode b_Mod_init 17 = .ok (.putfield 13, 3) := by decide +kernel
theorem d_Mod_init_20 : decode b_Mod_init 20 = .ok (.aload_n 0, 1) := by decide +kernel
theorem d_Mod_init_21 : decode b_Mod_init 21 = .ok (.bipush 80, 2) := by decide +kernel
theorem d_Mod_init_23 : decode b_Mod_init 23 = .ok (.newarray .int, 2) := by decide +kernel
theorem d_Mod_init_25 : decode b_Mod_init 25 = .ok (.putfield 17, 3) := by decide +kernel
theorem d_Mod_init_28 : decode b_Mod_init 28 = .ok (.aload_n 0, 1) := by decide +kernel
theorem d_Mod_init_29 : decode b_Mod_init 29 = .ok (.bipush 80, 2) := by decide +kernel
theorem d_Mod_init_31 : decode b_Mod_init 31 = .ok (.newarray .char, 2) := by decide +kernel
theorem d_Mod_init_33 : decode b_Mod_init 33 = .ok (.dup, 1) := by decide +kernel
theorem d_Mod_init_34 : decode b_Mod_init 34 = .ok (.iconst 0, 1) := by decide +kernel
theorem d_Mod_init_35 : decode b_Mod_init 35 = .ok (.bipush 76, 2) := by decide +kernel
theorem d_Mod_init_37 : decode b_Mod_init 37 = .ok (.castore, 1) := by decide +kernel
theorem d_Mod_init_38 : decode b_Mod_init 38 = .ok (.dup, 1) := by decide +kernel
theorem d_Mod_init_39 : decode b_Mod_init 39 = .ok (.iconst 1, 1) := by decide +kernel
theorem d_Mod_init_40 : decode b_Mod_init 40 = .ok (.bipush 76, 2) := by decide +kernel
theorem d_Mod_init_42 : decode b_Mod_init 42 = .ok (.castore, 1) := by decide +kernel
theorem d_Mod_init_43 : decode b_Mod_init 43 = .ok (.dup, 1) := by decide +kernel
theorem d_Mod_init_44 : decode b_Mod_init 44 = .ok (.iconst 2, 1) := by decide +kernel
theorem d_Mod_init_45 : decode b_Mod_init 45 = .ok (.iconst 0, 1) := by decide +kernel
theorem d_Mod_init_46 : decode b_Mod_init 46 = .ok (.castore, 1) := by decide +kernel
theorem d_Mod_init_47 : decode b_Mod_init 47 = .ok (.dup, 1) := by decide +kernel
theorem d_Mod_init_48 : decode b_Mod_init 48 = .ok (.iconst 3, 1) := by decide +kernel
theorem d_Mod_init_49 : decode b_Mod_init 49 = .ok (.iconst 0, 1) := by decide +kernel
theorem d_Mod_init_50 : decode b_Mod_init 50 = .ok (.castore, 1) := by decide +kernel
theorem d_Mod_init_51 : decode b_Mod_init 51 = .ok (.dup, 1) := by decide +kernel
theorem d_Mod_init_52 : decode b_Mod_init 52 = .ok (.iconst 4, 1) := by decide +kernel
theorem d_Mod_init_53 : decode b_Mod_init 53 = .ok (.bipush 76, 2) := by decide +kernel
theorem d_Mod_init_55 : decode b_Mod_init 55 = .ok (.castore, 1) := by decide +kernel
theorem d_Mod_init_56 : decode b_Mod_init 56 = .ok (.dup, 1) := by decide +kernel
theorem d_Mod_init_57 : decode b_Mod_init 57 = .ok (.iconst 5, 1) := by decide +kernel
theorem d_Mod_init_58 : decode b_Mod_init 58 = .ok (.bipush 80, 2) := by decide +kernel
theorem d_Mod_init_60 : decode b_Mod_init 60 = .ok (.castore, 1) := by decide +kernel
theorem d_Mod_init_61 : decode b_Mod_init 61 = .ok (.dup, 1) := by decide +kernel
theorem d_Mod_init_62 : decode b_Mod_init 62 = .ok (.bipush 6, 2) := by decide +kernel
theorem d_Mod_init_64 : decode b_Mod_init 64 = .ok (.iconst 0, 1) := by decide +kernel
theorem d_Mod_init_65 : decode b_Mod_init 65 = .ok (.castore, 1) := by decide +kernel
theorem d_Mod_init_66 : decode b_Mod_init 66 = .ok (.dup, 1) := by decide +kernel
theorem d_Mod_init_67 : decode b_Mod_init 67 = .ok (.bipush 7, 2) := by decide +kernel
theorem d_Mod_init_69 : decode b_Mod_init 69 = .ok (.iconst 0, 1) := by decide +kernel
theorem d_Mod_init_70 : decode b_Mod_init 70 = .ok (.castore, 1) := by decide +kernel
theorem d_Mod_init_71 : decode b_Mod_init 71 = .ok (.dup, 1) := by decide +kernel
theorem d_Mod_init_72 : decode b_Mod_init 72 = .ok (.bipush 8, 2) := by decide +kernel
theorem d_Mod_init_74 : decode b_Mod_init 74 = .ok (.bipush 80, 2) := by decide +kernel
theorem d_Mod_init_76 : decode b_Mod_init 76 = .ok (.castore, 1) := by decide +kernel
theorem d_Mod_init_77 : decode b_Mod_init 77 = .ok (.dup, 1) := by decide +kernel
theorem d_Mod_init_78 : decode b_Mod_init 78 = .ok (.bipush 9, 2) := by decide +kernel
theorem d_Mod_init_80 : decode b_Mod_init 80 = .ok (.bipush 43, 2) := by decide +kernel
theorem d_Mod_init_82 : decode b_Mod_init 82 = .ok (.castore, 1) := by decide +kernel
theorem d_Mod_init_83 : decode b_Mod_init 83 = .ok (.dup, 1) := by decide +kernel
theorem d_Mod_init_84 : decode b_Mod_init 84 = .ok (.bipush 10, 2) := by decide +kernel
theorem d_Mod_init_86 : decode b_Mod_init 86 = .ok (.iconst 0, 1) := by decide +kernel
theorem d_Mod_init_87 : decode b_Mod_init 87 = .ok (.castore, 1) := by decide +kernel
theorem d_Mod_init_88 : decode b_Mod_init 88 = .ok (.dup, 1) := by decide +kernel
theorem d_Mod_init_89 : decode b_Mod_init 89 = .ok (.bipush 11, 2) := by decide +kernel
theorem d_Mod_init_91 : decode b_Mod_init 91 = .ok (.iconst 0, 1) := by decide +kernel
theorem d_Mod_init_92 : decode b_Mod_init 92 = .ok (.castore, 1) := by decide +kernel
theorem d_Mod_init_93 : decode b_Mod_init 93 = .ok (.dup, 1) := by decide +kernel
theorem d_Mod_init_94 : decode b_Mod_init 94 = .ok (.bipush 12, 2) := by decide +kernel
theorem d_Mod_init_96 : decode b_Mod_init 96 = .ok (.bipush 80, 2) := by decide +kernel
theorem d_Mod_init_98 : decode b_Mod_init 98 = .ok (.castore, 1) := by decide +kernel
theorem d_Mod_init_99 : decode b_Mod_init 99 = .ok (.dup, 1) := by decide +kernel
theorem d_Mod_init_100 : decode b_Mod_init 100 = .ok (.bipush 13, 2) := by decide +kernel
theorem d_Mod_init_102 : decode b_Mod_init 102 = .ok (.bipush 45, 2) := by decide +kernel
theorem d_Mod_init_104 : decode b_Mod_init 104 = .ok (.castore, 1) := by decide +kernel
theorem d_Mod_init_105 : decode b_Mod_init 105 = .ok (.dup, 1) := by decide +kernel
theorem d_Mod_init_106 : decode b_Mod_init 106 = .ok (.bipush 14, 2) := by decide +kernel
theorem d_Mod_init_108 : decode b_Mod_init 108 = .ok (.iconst 0, 1) := by decide +kernel
theorem d_Mod_init_109 : decode b_Mod_init 109 = .ok (.castore, 1) := by decide +kernel
theorem d_Mod_init_110 : decode b_Mod_init 110 = .ok (.dup, 1) := by decide +kernel
theorem d_Mod_init_111 : decode b_Mod_init 111 = .ok (.bipush 15, 2) := by decide +kernel
theorem d_Mod_init_113 : decode b_Mod_init 113 = .ok (.iconst 0, 1) := by decide +kernel
theorem d_Mod_init_114 : decode b_Mod_init 114 = .ok (.castore, 1) := by decide +kernel
theorem d_Mod_init_115 : decode b_Mod_init 115 = .ok (.dup, 1) := by decide +kernel
theorem d_Mod_init_116 : decode b_Mod_init 116 = .ok (.bipush 16, 2) := by decide +kernel
theorem d_Mod_init_118 : decode b_Mod_init 118 = .ok (.bipush 76, 2) := by decide +kernel
theorem d_Mod_init_120 : decode b_Mod_init 120 = .ok (.castore, 1) := by decide +kernel
theorem d_Mod_init_121 : decode b_Mod_init 121 = .ok (.dup, 1) := by decide +kernel
theorem d_Mod_init_122 : decode b_Mod_init 122 = .ok (.bipush 17, 2) := by decide +kernel
theorem d_Mod_init_124 : decode b_Mod_init 124 = .ok (.bipush 43, 2) := by decide +kernel
theorem d_Mod_init_126 : decode b_Mod_init 126 = .ok (.castore, 1) := by decide +kernel
theorem d_Mod_init_127 : decode b_Mod_init 127 = .ok (.dup, 1) := by decide +kernel
theorem d_Mod_init_128 : decode b_Mod_init 128 = .ok (.bipush 18, 2) := by decide +kernel
theorem d_Mod_init_130 : decode b_Mod_init 130 = .ok (.iconst 0, 1) := by decide +kernel
theorem d_Mod_init_131 : decode b_Mod_init 131 = .ok (.castore, 1) := by decide +kernel
theorem d_Mod_init_132 : decode b_Mod_init 132 = .ok (.dup, 1) := by decide +kernel
theorem d_Mod_init_133 : decode b_Mod_init 133 = .ok (.bipush 19, 2) := by decide +kernel
theorem d_Mod_init_135 : decode b_Mod_init 135 = .ok (.iconst 0, 1) := by decide +kernel
theorem d_Mod_init_136 : decode b_Mod_init 136 = .ok (.castore, 1) := by decide +kernel
theorem d_Mod_init_137 : decode b_Mod_init 137 = .ok (.dup, 1) := by decide +kernel
theorem d_Mod_init_138 : decode b_Mod_init 138 = .ok (.bipush 20, 2) := by decide +kernel
theorem d_Mod_init_140 : decode b_Mod_init 140 = .ok (.bipush 68, 2) := by decide +kernel
theorem d_Mod_init_142 : decode b_Mod_init 142 = .ok (.castore, 1) := by decide +kernel
theorem d_Mod_init_143 : decode b_Mod_init 143 = .ok (.dup, 1) := by decide +kernel
theorem d_Mod_init_144 : decode b_Mod_init 144 = .ok (.bipush 21, 2) := by decide +kernel
theorem d_Mod_init_146 : decode b_Mod_init 146 = .ok (.bipush 88, 2) := by decide +kernel
theorem d_Mod_init_148 : decode b_Mod_init 148 = .ok (.castore, 1) := by decide +kernel
theorem d_Mod_init_149 : decode b_Mod_init 149 = .ok (.dup, 1) := by decide +kernel
theorem d_Mod_init_150 : decode b_Mod_init 150 = .ok (.bipush 22, 2) := by decide +kernel
theorem d_Mod_init_152 : decode b_Mod_init 152 = .ok (.iconst 0, 1) := by decide +kernel
theorem d_Mod_init_153 : decode b_Mod_init 153 = .ok (.castore, 1) := by decide +kernel
theorem d_Mod_init_154 : decode b_Mod_init 154 = .ok (.dup, 1) := by decide +kernel
theorem d_Mod_init_155 : decode b_Mod_init 155 = .ok (.bipush 23, 2) := by decide +kernel
theorem d_Mod_init_157 : decode b_Mod_init 157 = .ok (.iconst 0, 1) := by decide +kernel
theorem d_Mod_init_158 : decode b_Mod_init 158 = .ok (.castore, 1) := by decide +kernel
theorem d_Mod_init_159 : decode b_Mod_init 159 = .ok (.dup, 1) := by decide +kernel
theorem d_Mod_init_160 : decode b_Mod_init 160 = .ok (.bipush 24, 2) := by decide +kernel
theorem d_Mod_init_162 : decode b_Mod_init 162 = .ok (.bipush 68, 2) := by decide +kernel
theorem d_Mod_init_164 : decode b_Mod_init 164 = .ok (.castore, 1) := by decide +kernel
theorem d_Mod_init_165 : decode b_Mod_init 165 = .ok (.dup, 1) := by decide +kernel
theorem d_Mod_init_166 : decode b_Mod_init 166 = .ok (.bipush 25, 2) := by decide +kernel
theorem d_Mod_init_168 : decode b_Mod_init 168 = .ok (.bipush 42, 2) := by decide +kernel
theorem d_Mod_init_170 : decode b_Mod_init 170 = .ok (.castore, 1) := by decide +kernel
theorem d_Mod_init_171 : decode b_Mod_init 171 = .ok (.dup, 1) := by decide +kernel
theorem d_Mod_init_172 : decode b_Mod_init 172 = .ok (.bipush 26, 2) := by decide +kernel
theorem d_Mod_init_174 : decode b_Mod_init 174 = .ok (.iconst 0, 1) := by decide +kernel
theorem d_Mod_init_175 : decode b_Mod_init 175 = .ok (.castore, 1) := by decide +kernel
theorem d_Mod_init_176 : decode b_Mod_init 176 = .ok (.dup, 1) := by decide +kernel
theorem d_Mod_init_177 : decode b_Mod_init 177 = .ok (.bipush 27, 2) := by decide +kernel
theorem d_Mod_init_179 : decode b_Mod_init 179 = .ok (.iconst 0, 1) := by decide +kernel
theorem d_Mod_init_180 : decode b_Mod_init 180 = .ok (.castore, 1) := by decide +kernel
theorem d_Mod_init_181 : decode b_Mod_init 181 = .ok (.dup, 1) := by decide +kernel
theorem d_Mod_init_182 : decode b_Mod_init 182 = .ok (.bipush 28, 2) := by decide +kernel
theorem d_Mod_init_184 : decode b_Mod_init 184 = .ok (.bipush 60, 2) := by decide +kernel
theorem d_Mod_init_186 : decode b_Mod_init 186 = .ok (.castore, 1) := by decide +kernel
theorem d_Mod_init_187 : decode b_Mod_init 187 = .ok (.dup, 1) := by decide +kernel
theorem d_Mod_init_188 : decode b_Mod_init 188 = .ok (.bipush 29, 2) := by decide +kernel
theorem d_Mod_init_190 : decode b_Mod_init 190 = .ok (.bipush 90, 2) := by decide +kernel
theorem d_Mod_init_192 : decode b_Mod_init 192 = .ok (.castore, 1) := by decide +kernel
theorem d_Mod_init_193 : decode b_Mod_init 193 = .ok (.dup, 1) := by decide +kernel
theorem d_Mod_init_194 : decode b_Mod_init 194 = .ok (.bipush 30, 2) := by decide +kernel
theorem d_Mod_init_196 : decode b_Mod_init 196 = .ok (.iconst 0, 1) := by decide +kernel
theorem d_Mod_init_197 : decode b_Mod_init 197 = .ok (.castore, 1) := by decide +kernel
theorem d_Mod_init_198 : decode b_Mod_init 198 = .ok (.dup, 1) := by decide +kernel
theorem d_Mod_init_199 : decode b_Mod_init 199 = .ok (.bipush 31, 2) := by decide +kernel
theorem d_Mod_init_201 : decode b_Mod_init 201 = .ok (.iconst 0, 1) := by decide +kernel
theorem d_Mod_init_202 : decode b_Mod_init 202 = .ok (.castore, 1) := by decide +kernel
theorem d_Mod_init_203 : decode b_Mod_init 203 = .ok (.dup, 1) := by decide +kernel
theorem d_Mod_init_204 : decode b_Mod_init 204 = .ok (.bipush 32, 2) := by decide +kernel
theorem d_Mod_init_206 : decode b_Mod_init 206 = .ok (.bipush 61, 2) := by decide +kernel
theorem d_Mod_init_208 : decode b_Mod_init 208 = .ok (.castore, 1) := by decide +kernel
theorem d_Mod_init_209 : decode b_Mod_init 209 = .ok (.dup, 1) := by decide +kernel
theorem d_Mod_init_210 : decode b_Mod_init 210 = .ok (.bipush 33, 2) := by decide +kernel
theorem d_Mod_init_212 : decode b_Mod_init 212 = .ok (.bipush 90, 2) := by decide +kernel
theorem d_Mod_init_214 : decode b_Mod_init 214 = .ok (.castore, 1) := by decide +kernel
theorem d_Mod_init_215 : decode b_Mod_init 215 = .ok (.dup, 1) := by decide +kernel
theorem d_Mod_init_216 : decode b_Mod_init 216 = .ok (.bipush 34, 2) := by decide +kernel
theorem d_Mod_init_218 : decode b_Mod_init 218 = .ok (.iconst 0, 1) := by decide +kernel
theorem d_Mod_init_219 : decode b_Mod_init 219 = .ok (.castore, 1) := by decide +kernel
theorem d_Mod_init_220 : decode b_Mod_init 220 = .ok (.dup, 1) := by decide +kernel
theorem d_Mod_init_221 : decode b_Mod_init 221 = .ok (.bipush 35, 2) := by decide +kernel
theorem d_Mod_init_223 : decode b_Mod_init 223 = .ok (.iconst 0, 1) := by decide +kernel
theorem d_Mod_init_224 : decode b_Mod_init 224 = .ok (.castore, 1) := by decide +kernel
theorem d_Mod_init_225 : decode b_Mod_init 225 = .ok (.dup, 1) := by decide +kernel
theorem d_Mod_init_226 : decode b_Mod_init 226 = .ok (.bipush 36, 2) := by decide +kernel
theorem d_Mod_init_228 : decode b_Mod_init 228 = .ok (.bipush 83, 2) := by decide +kernel
theorem d_Mod_init_230 : decode b_Mod_init 230 = .ok (.castore, 1) := by decide +kernel
theorem d_Mod_init_231 : decode b_Mod_init 231 = .ok (.dup, 1) := by decide +kernel
theorem d_Mod_init_232 : decode b_Mod_init 232 = .ok (.bipush 37, 2) := by decide +kernel
theorem d_Mod_init_234 : decode b_Mod_init 234 = .ok (.bipush 76, 2) := by decide +kernel
theorem d_Mod_init_236 : decode b_Mod_init 236 = .ok (.castore, 1) := by decide +kernel
theorem d_Mod_init_237 : decode b_Mod_init 237 = .ok (.dup, 1) := by decide +kernel
theorem d_Mod_init_238 : decode b_Mod_init 238 = .ok (.bipush 38, 2) := by decide +kernel
theorem d_Mod_init_240 : decode b_Mod_init 240 = .ok (.iconst 0, 1) := by decide +kernel
theorem d_Mod_init_241 : decode b_Mod_init 241 = .ok (.castore, 1) := by decide +kernel
theorem d_Mod_init_242 : decode b_Mod_init 242 = .ok (.dup, 1) := by decide +kernel
theorem d_Mod_init_243 : decode b_Mod_init 243 = .ok (.bipush 39, 2) := by decide +kernel
theorem d_Mod_init_245 : decode b_Mod_init 245 = .ok (.iconst 0, 1) := by decide +kernel
theorem d_Mod_init_246 : decode b_Mod_init 246 = .ok (.castore, 1) := by decide +kernel
theorem d_Mod_init_247 : decode b_Mod_init 247 = .ok (.dup, 1) := by decide +kernel
theorem d_Mod_init_248 : decode b_Mod_init 248 = .ok (.bipush 40, 2) := by decide +kernel
theorem d_Mod_init_250 : decode b_Mod_init 250 = .ok (.bipush 80, 2) := by decide +kernel
theorem d_Mod_init_252 : decode b_Mod_init 252 = .ok (.castore, 1) := by decide +kernel
theorem d_Mod_init_253 : decode b_Mod_init 253 = .ok (.dup, 1) := by decide +kernel
theorem d_Mod_init_254 : decode b_Mod_init 254 = .ok (.bipush 41, 2) := by decide +kernel
theorem d_Mod_init_256 : decode b_Mod_init 256 = .ok (.bipush 83, 2) := by decide +kernel
theorem d_Mod_init_258 : decode b_Mod_init 258 = .ok (.castore, 1) := by decide +kernel
theorem d_Mod_init_259 : decode b_Mod_init 259 = .ok (.dup, 1) := by decide +kernel
theorem d_Mod_init_260 : decode b_Mod_init 260 = .ok (.bipush 42, 2) := by decide +kernel
theorem d_Mod_init_262 : decode b_Mod_init 262 = .ok (.iconst 0, 1) := by decide +kernel
theorem d_Mod_init_263 : decode b_Mod_init 263 = .ok (.castore, 1) := by decide +kernel
theorem d_Mod_init_264 : decode b_Mod_init 264 = .ok (.dup, 1) := by decide +kernel
theorem d_Mod_init_265 : decode b_Mod_init 265 = .ok (.bipush 43, 2) := by decide +kernel
theorem d_Mod_init_267 : decode b_Mod_init 267 = .ok (.iconst 0, 1) := by decide +kernel
theorem d_Mod_init_268 : decode b_Mod_init 268 = .ok (.castore, 1) := by decide +kernel
theorem d_Mod_init_269 : decode b_Mod_init 269 = .ok (.dup, 1) := by decide +kernel
theorem d_Mod_init_270 : decode b_Mod_init 270 = .ok (.bipush 44, 2) := by decide +kernel
theorem d_Mod_init_272 : decode b_Mod_init 272 = .ok (.bipush 76, 2) := by decide +kernel
theorem d_Mod_init_274 : decode b_Mod_init 274 = .ok (.castore, 1) := by decide +kernel
theorem d_Mod_init_275 : decode b_Mod_init 275 = .ok (.dup, 1) := by decide +kernel
theorem d_Mod_init_276 : decode b_Mod_init 276 = .ok (.bipush 45, 2) := by decide +kernel
theorem d_Mod_init_278 : decode b_Mod_init 278 = .ok (.bipush 76, 2) := by decide +kernel
theorem d_Mod_init_280 : decode b_Mod_init 280 = .ok (.castore, 1) := by decide +kernel
theorem d_Mod_init_281 : decode b_Mod_init 281 = .ok (.dup, 1) := by decide +kernel
theorem d_Mod_init_282 : decode b_Mod_init 282 = .ok (.bipush 46, 2) := by decide +kernel
theorem d_Mod_init_284 : decode b_Mod_init 284 = .ok (.bipush 43, 2) := by decide +kernel
theorem d_Mod_init_286 : decode b_Mod_init 286 = .ok (.castore, 1) := by decide +kernel
theorem d_Mod_init_287 : decode b_Mod_init 287 = .ok (.dup, 1) := by decide +kernel
theorem d_Mod_init_288 : decode b_Mod_init 288 = .ok (.bipush 47, 2) := by decide +kernel
theorem d_Mod_init_290 : decode b_Mod_init 290 = .ok (.iconst 0, 1) := by decide +kernel
theorem d_Mod_init_291 : decode b_Mod_init 291 = .ok (.castore, 1) := by decide +kernel
theorem d_Mod_init_292 : decode b_Mod_init 292 = .ok (.dup, 1) := by decide +kernel
theorem d_Mod_init_293 : decode b_Mod_init 293 = .ok (.bipush 48, 2) := by decide +kernel
theorem d_Mod_init_295 : decode b_Mod_init 295 = .ok (.bipush 76, 2) := by decide +kernel
theorem d_Mod_init_297 : decode b_Mod_init 297 = .ok (.castore, 1) := by decide +kernel
theorem d_Mod_init_298 : decode b_Mod_init 298 = .ok (.dup, 1) := by decide +kernel
theorem d_Mod_init_299 : decode b_Mod_init 299 = .ok (.bipush 49, 2) := by decide +kernel
theorem d_Mod_init_301 : decode b_Mod_init 301 = .ok (.bipush 80, 2) := by decide +kernel
theorem d_Mod_init_303 : decode b_Mod_init 303 = .ok (.castore, 1) := by decide +kernel
theorem d_Mod_init_304 : decode b_Mod_init 304 = .ok (.dup, 1) := by decide +kernel
theorem d_Mod_init_305 : decode b_Mod_init 305 = .ok (.bipush 50, 2) := by decide +kernel
theorem d_Mod_init_307 : decode b_Mod_init 307 = .ok (.bipush 43, 2) := by decide +kernel
theorem d_Mod_init_309 : decode b_Mod_init 309 = .ok (.castore, 1) := by decide +kernel
theorem d_Mod_init_310 : decode b_Mod_init 310 = .ok (.dup, 1) := by decide +kernel
theorem d_Mod_init_311 : decode b_Mod_init 311 = .ok (.bipush 51, 2) := by decide +kernel
theorem d_Mod_init_313 : decode b_Mod_init 313 = .ok (.iconst 0, 1) := by decide +kernel
theorem d_Mod_init_314 : decode b_Mod_init 314 = .ok (.castore, 1) := by decide +kernel
theorem d_Mod_init_315 : decode b_Mod_init 315 = .ok (.dup, 1) := by decide +kernel
theorem d_Mod_init_316 : decode b_Mod_init 316 = .ok (.bipush 52, 2) := by decide +kernel
theorem d_Mod_init_318 : decode b_Mod_init 318 = .ok (.bipush 76, 2) := by decide +kernel
theorem d_Mod_init_320 : decode b_Mod_init 320 = .ok (.castore, 1) := by decide +kernel
theorem d_Mod_init_321 : decode b_Mod_init 321 = .ok (.dup, 1) := by decide +kernel
theorem d_Mod_init_322 : decode b_Mod_init 322 = .ok (.bipush 53, 2) := by decide +kernel
theorem d_Mod_init_324 : decode b_Mod_init 324 = .ok (.bipush 80, 2) := by decide +kernel
theorem d_Mod_init_326 : decode b_Mod_init 326 = .ok (.castore, 1) := by decide +kernel
theorem d_Mod_init_327 : decode b_Mod_init 327 = .ok (.dup, 1) := by decide +kernel
theorem d_Mod_init_328 : decode b_Mod_init 328 = .ok (.bipush 54, 2) := by decide +kernel
theorem d_Mod_init_330 : decode b_Mod_init 330 = .ok (.bipush 60, 2) := by decide +kernel
theorem d_Mod_init_332 : decode b_Mod_init 332 = .ok (.castore, 1) := by decide +kernel
theorem d_Mod_init_333 : decode b_Mod_init 333 = .ok (.dup, 1) := by decide +kernel
theorem d_Mod_init_334 : decode b_Mod_init 334 = .ok (.bipush 55, 2) := by decide +kernel
theorem d_Mod_init_336 : decode b_Mod_init 336 = .ok (.bipush 90, 2) := by decide +kernel
theorem d_Mod_init_338 : decode b_Mod_init 338 = .ok (.castore, 1) := by decide +kernel
theorem d_Mod_init_339 : decode b_Mod_init 339 = .ok (.dup, 1) := by decide +kernel
theorem d_Mod_init_340 : decode b_Mod_init 340 = .ok (.bipush 56, 2) := by decide +kernel
theorem d_Mod_init_342 : decode b_Mod_init 342 = .ok (.bipush 76, 2) := by decide +kernel
theorem d_Mod_init_344 : decode b_Mod_init 344 = .ok (.castore, 1) := by decide +kernel
theorem d_Mod_init_345 : decode b_Mod_init 345 = .ok (.dup, 1) := by decide +kernel
theorem d_Mod_init_346 : decode b_Mod_init 346 = .ok (.bipush 57, 2) := by decide +kernel
theorem d_Mod_init_348 : decode b_Mod_init 348 = .ok (.bipush 80, 2) := by decide +kernel
theorem d_Mod_init_350 : decode b_Mod_init 350 = .ok (.castore, 1) := by decide +kernel
theorem d_Mod_init_351 : decode b_Mod_init 351 = .ok (.dup, 1) := by decide +kernel
theorem d_Mod_init_352 : decode b_Mod_init 352 = .ok (.bipush 58, 2) := by decide +kernel
theorem d_Mod_init_354 : decode b_Mod_init 354 = .ok (.bipush 43, 2) := by decide +kernel
theorem d_Mod_init_356 : decode b_Mod_init 356 = .ok (.castore, 1) := by decide +kernel
theorem d_Mod_init_357 : decode b_Mod_init 357 = .ok (.dup, 1) := by decide +kernel
theorem d_Mod_init_358 : decode b_Mod_init 358 = .ok (.bipush 59, 2) := by decide +kernel
theorem d_Mod_init_360 : decode b_Mod_init 360 = .ok (.bipush 83, 2) := by decide +kernel
theorem d_Mod_init_362 : decode b_Mod_init 362 = .ok (.castore, 1) := by decide +kernel
theorem d_Mod_init_363 : decode b_Mod_init 363 = .ok (.dup, 1) := by decide +kernel
theorem d_Mod_init_364 : decode b_Mod_init 364 = .ok (.bipush 60, 2) := by decide +kernel
theorem d_Mod_init_366 : decode b_Mod_init 366 = .ok (.bipush 76, 2) := by decide +kernel
theorem d_Mod_init_368 : decode b_Mod_init 368 = .ok (.castore, 1) := by decide +kernel
theorem d_Mod_init_369 : decode b_Mod_init 369 = .ok (.dup, 1) := by decide +kernel
theorem d_Mod_init_370 : decode b_Mod_init 370 = .ok (.bipush 61, 2) := by decide +kernel
theorem d_Mod_init_372 : decode b_Mod_init 372 = .ok (.bipush 76, 2) := by decide +kernel
theorem d_Mod_init_374 : decode b_Mod_init 374 = .ok (.castore, 1) := by decide +kernel
theorem d_Mod_init_375 : decode b_Mod_init 375 = .ok (.dup, 1) := by decide +kernel
theorem d_Mod_init_376 : decode b_Mod_init 376 = .ok (.bipush 62, 2) := by decide +kernel
theorem d_Mod_init_378 : decode b_Mod_init 378 = .ok (.bipush 76, 2) := by decide +kernel
theorem d_Mod_init_380 : decode b_Mod_init 380 = .ok (.castore, 1) := by decide +kernel
theorem d_Mod_init_381 : decode b_Mod_init 381 = .ok (.dup, 1) := by decide +kernel
theorem d_Mod_init_382 : decode b_Mod_init 382 = .ok (.bipush 63, 2) := by decide +kernel
theorem d_Mod_init_384 : decode b_Mod_init 384 = .ok (.iconst 0, 1) := by decide +kernel
theorem d_Mod_init_385 : decode b_Mod_init 385 = .ok (.castore, 1) := by decide +kernel
theorem d_Mod_init_386 : decode b_Mod_init 386 = .ok (.dup, 1) := by decide +kernel
theorem d_Mod_init_387 : decode b_Mod_init 387 = .ok (.bipush 64, 2) := by decide +kernel
theorem d_Mod_init_389 : decode b_Mod_init 389 = .ok (.bipush 80, 2) := by decide +kernel
theorem d_Mod_init_391 : decode b_Mod_init 391 = .ok (.castore, 1) := by decide +kernel
theorem d_Mod_init_392 : decode b_Mod_init 392 = .ok (.dup, 1) := by decide +kernel
theorem d_Mod_init_393 : decode b_Mod_init 393 = .ok (.bipush 65, 2) := by decide +kernel
theorem d_Mod_init_395 : decode b_Mod_init 395 = .ok (.bipush 61, 2) := by decide +kernel
theorem d_Mod_init_397 : decode b_Mod_init 397 = .ok (.castore, 1) := by decide +kernel
theorem d_Mod_init_398 : decode b_Mod_init 398 = .ok (.dup, 1) := by decide +kernel
theorem d_Mod_init_399 : decode b_Mod_init 399 = .ok (.bipush 66, 2) := by decide +kernel
theorem d_Mod_init_401 : decode b_Mod_init 401 = .ok (.bipush 90, 2) := by decide +kernel
theorem d_Mod_init_403 : decode b_Mod_init 403 = .ok (.castore, 1) := by decide +kernel
theorem d_Mod_init_404 : decode b_Mod_init 404 = .ok (.dup, 1) := by decide +kernel
theorem d_Mod_init_405 : decode b_Mod_init 405 = .ok (.bipush 67, 2) := by decide +kernel
theorem d_Mod_init_407 : decode b_Mod_init 407 = .ok (.iconst 0, 1) := by decide +kernel
theorem d_Mod_init_408 : decode b_Mod_init 408 = .ok (.castore, 1) := by decide +kernel
theorem d_Mod_init_409 : decode b_Mod_init 409 = .ok (.dup, 1) := by decide +kernel
theorem d_Mod_init_410 : decode b_Mod_init 410 = .ok (.bipush 68, 2) := by decide +kernel
theorem d_Mod_init_412 : decode b_Mod_init 412 = .ok (.bipush 76, 2) := by decide +kernel
theorem d_Mod_init_414 : decode b_Mod_init 414 = .ok (.castore, 1) := by decide +kernel
theorem d_Mod_init_415 : decode b_Mod_init 415 = .ok (.dup, 1) := by decide +kernel
theorem d_Mod_init_416 : decode b_Mod_init 416 = .ok (.bipush 69, 2) := by decide +kernel
theorem d_Mod_init_418 : decode b_Mod_init 418 = .ok (.bipush 45, 2) := by decide +kernel
theorem d_Mod_init_420 : decode b_Mod_init 420 = .ok (.castore, 1) := by decide +kernel
theorem d_Mod_init_421 : decode b_Mod_init 421 = .ok (.dup, 1) := by decide +kernel
theorem d_Mod_init_422 : decode b_Mod_init 422 = .ok (.bipush 70, 2) := by decide +kernel
theorem d_Mod_init_424 : decode b_Mod_init 424 = .ok (.iconst 0, 1) := by decide +kernel
theorem d_Mod_init_425 : decode b_Mod_init 425 = .ok (.castore, 1) := by decide +kernel
theorem d_Mod_init_426 : decode b_Mod_init 426 = .ok (.dup, 1) := by decide +kernel
theorem d_Mod_init_427 : decode b_Mod_init 427 = .ok (.bipush 71, 2) := by decide +kernel
theorem d_Mod_init_429 : decode b_Mod_init 429 = .ok (.iconst 0, 1) := by decide +kernel
theorem d_Mod_init_430 : decode b_Mod_init 430 = .ok (.castore, 1) := by decide +kernel
theorem d_Mod_init_431 : decode b_Mod_init 431 = .ok (.dup, 1) := by decide +kernel
theorem d_Mod_init_432 : decode b_Mod_init 432 = .ok (.bipush 72, 2) := by decide +kernel
theorem d_Mod_init_434 : decode b_Mod_init 434 = .ok (.bipush 86, 2) := by decide +kernel
theorem d_Mod_init_436 : decode b_Mod_init 436 = .ok (.castore, 1) := by decide +kernel
theorem d_Mod_init_437 : decode b_Mod_init 437 = .ok (.dup, 1) := by decide +kernel
theorem d_Mod_init_438 : decode b_Mod_init 438 = .ok (.bipush 73, 2) := by decide +kernel
theorem d_Mod_init_440 : decode b_Mod_init 440 = .ok (.bipush 76, 2) := by decide +kernel
theorem d_Mod_init_442 : decode b_Mod_init 442 = .ok (.castore, 1) := by decide +kernel
theorem d_Mod_init_443 : decode b_Mod_init 443 = .ok (.dup, 1) := by decide +kernel
theorem d_Mod_init_444 : decode b_Mod_init 444 = .ok (.bipush 74, 2) := by decide +kernel
theorem d_Mod_init_446 : decode b_Mod_init 446 = .ok (.iconst 0, 1) := by decide +kernel
theorem d_Mod_init_447 : decode b_Mod_init 447 = .ok (.castore, 1) := by decide +kernel
theorem d_Mod_init_448 : decode b_Mod_init 448 = .ok (.dup, 1) := by decide +kernel
theorem d_Mod_init_449 : decode b_Mod_init 449 = .ok (.bipush 75, 2) := by decide +kernel
theorem d_Mod_init_451 : decode b_Mod_init 451 = .ok (.iconst 0, 1) := by decide +kernel
theorem d_Mod_init_452 : decode b_Mod_init 452 = .ok (.castore, 1) := by decide +kernel
theorem d_Mod_init_453 : decode b_Mod_init 453 = .ok (.dup, 1) := by decide +kernel
theorem d_Mod_init_454 : decode b_Mod_init 454 = .ok (.bipush 76, 2) := by decide +kernel
theorem d_Mod_init_456 : decode b_Mod_init 456 = .ok (.bipush 68, 2) := by decide +kernel
theorem d_Mod_init_458 : decode b_Mod_init 458 = .ok (.castore, 1) := by decide +kernel
theorem d_Mod_init_459 : decode b_Mod_init 459 = .ok (.dup, 1) := by decide +kernel
theorem d_Mod_init_460 : decode b_Mod_init 460 = .ok (.bipush 77, 2) := by decide +kernel
theorem d_Mod_init_462 : decode b_Mod_init 462 = .ok (.bipush 79, 2) := by decide +kernel
theorem d_Mod_init_464 : decode b_Mod_init 464 = .ok (.castore, 1) := by decide +kernel
theorem d_Mod_init_465 : decode b_Mod_init 465 = .ok (.dup, 1) := by decide +kernel
theorem d_Mod_init_466 : decode b_Mod_init 466 = .ok (.bipush 78, 2) := by decide +kernel
theorem d_Mod_init_468 : decode b_Mod_init 468 = .ok (.iconst 0, 1) := by decide +kernel
theorem d_Mod_init_469 : decode b_Mod_init 469 = .ok (.castore, 1) := by decide +kernel
theorem d_Mod_init_470 : decode b_Mod_init 470 = .ok (.dup, 1) := by decide +kernel
theorem d_Mod_init_471 : decode b_Mod_init 471 = .ok (.bipush 79, 2) := by decide +kernel
theorem d_Mod_init_473 : decode b_Mod_init 473 = .ok (.iconst 0, 1) := by decide +kernel
theorem d_Mod_init_474 : decode b_Mod_init 474 = .ok (.castore, 1) := by decide +kernel
theorem d_Mod_init_475 : decode b_Mod_init 475 = .ok (.putfield 20, 3) := by decide +kernel
theorem d_Mod_init_478 : decode b_Mod_init 478 = .ok (.aload_n 0, 1) := by decide +kernel
theorem d_Mod_init_479 : decode b_Mod_init 479 = .ok (.iconst 2, 1) := by decide +kernel
theorem d_Mod_init_480 : decode b_Mod_init 480 = .ok (.newarray .int, 2) := by decide +kernel
theorem d_Mod_init_482 : decode b_Mod_init 482 = .ok (.putfield 23, 3) := by decide +kernel
theorem d_Mod_init_485 : decode b_Mod_init 485 = .ok (.aload_n 0, 1) := by decide +kernel
theorem d_Mod_init_486 : decode b_Mod_init 486 = .ok (.iconst 2, 1) := by decide +kernel
theorem d_Mod_init_487 : decode b_Mod_init 487 = .ok (.newarray .int, 2) := by decide +kernel
theorem d_Mod_init_489 : decode b_Mod_init 489 = .ok (.putfield 26, 3) := by decide +kernel
theorem d_Mod_init_492 : decode b_Mod_init 492 = .ok (.aload_n 0, 1) := by decide +kernel
theorem d_Mod_init_493 : decode b_Mod_init 493 = .ok (.iconst 2, 1) := by decide +kernel
theorem d_Mod_init_494 : decode b_Mod_init 494 = .ok (.newarray .int, 2) := by decide +kernel
theorem d_Mod_init_496 : decode b_Mod_init 496 = .ok (.putfield 29, 3) := by decide +kernel
theorem d_Mod_init_499 : decode b_Mod_init 499 = .ok (.aload_n 0, 1) := by decide +kernel
theorem d_Mod_init_500 : decode b_Mod_init 500 = .ok (.iconst 2, 1) := by decide +kernel
theorem d_Mod_init_501 : decode b_Mod_init 501 = .ok (.newarray .int, 2) := by decide +kernel
theorem d_Mod_init_503 : decode b_Mod_init 503 = .ok (.putfield 32, 3) := by decide +kernel
theorem d_Mod_init_506 : decode b_Mod_init 506 = .ok (.aload_n 0, 1) := by decide +kernel
theorem d_Mod_init_507 : decode b_Mod_init 507 = .ok (.iconst 2, 1) := by decide +kernel
theorem d_Mod_init_508 : decode b_Mod_init 508 = .ok (.newarray .int, 2) := by decide +kernel
theorem d_Mod_init_510 : decode b_Mod_init 510 = .ok (.putfield 35, 3) := by decide +kernel
theorem d_Mod_init_513 : decode b_Mod_init 513 = .ok (.aload_n 0, 1) := by decide +kernel
theorem d_Mod_init_514 : decode b_Mod_init 514 = .ok (.iconst 2, 1) := by decide +kernel
theorem d_Mod_init_515 : decode b_Mod_init 515 = .ok (.newarray .int, 2) := by decide +kernel
theorem d_Mod_init_517 : decode b_Mod_init 517 = .ok (.putfield 38, 3) := by decide +kernel
theorem d_Mod_init_520 : decode b_Mod_init 520 = .ok (.aload_n 0, 1) := by decide +kernel
theorem d_Mod_init_521 : decode b_Mod_init 521 = .ok (.bipush 80, 2) := by decide +kernel
theorem d_Mod_init_523 : decode b_Mod_init 523 = .ok (.newarray .int, 2) := by decide +kernel
theorem d_Mod_init_525 : decode b_Mod_init 525 = .ok (.putfield 41, 3) := by decide +kernel
theorem d_Mod_init_528 : decode b_Mod_init 528 = .ok (.aload_n 0, 1) := by decide +kernel
theorem d_Mod_init_529 : decode b_Mod_init 529 = .ok (.bipush 16, 2) := by decide +kernel
theorem d_Mod_init_531 : decode b_Mod_init 531 = .ok (.newarray .int, 2) := by decide +kernel
theorem d_Mod_init_533 : decode b_Mod_init 533 = .ok (.putfield 44, 3) := by decide +kernel
theorem d_Mod_init_536 : decode b_Mod_init 536 = .ok (.aload_n 0, 1) := by decide +kernel
theorem d_Mod_init_537 : decode b_Mod_init 537 = .ok (.bipush 20, 2) := by decide +kernel
theorem d_Mod_init_539 : decode b_Mod_init 539 = .ok (.newarray .int, 2) := by decide +kernel
theorem d_Mod_init_541 : decode b_Mod_init 541 = .ok (.putfield 47, 3) := by decide +kernel
theorem d_Mod_init_544 : decode b_Mod_init 544 = .ok (.aload_n 0, 1) := by decide +kernel
theorem d_Mod_init_545 : decode b_Mod_init 545 = .ok (.bipush 120, 2) := by decide +kernel
theorem d_Mod_init_547 : decode b_Mod_init 547 = .ok (.newarray .int, 2) := by decide +kernel
theorem d_Mod_init_549 : decode b_Mod_init 549 = .ok (.putfield 50, 3) := by decide +kernel
theorem d_Mod_init_552 : decode b_Mod_init 552 = .ok (.return_, 1) := by decide +kernel
