theorem dX7_init_0 : decode cX7_init 0 = .ok (.aload_n 0, 1) := by decide +kernel
theorem dX7_init_1 : decode cX7_init 1 = .ok (.invokespecial 1, 3) := by decide +kernel
theorem dX7_init_4 : decode cX7_init 4 = .ok (.aload_n 0, 1) := by decide +kernel
theorem dX7_init_5 : decode cX7_init 5 = .ok (.bipush 60, 2) := by decide +kernel
theorem dX7_init_7 : decode cX7_init 7 = .ok (.newarray .int, 2) := by decide +kernel
theorem dX7_init_9 : decode cX7_init 9 = .ok (.putfield 7, 3) := by decide +kernel
theorem dX7_init_12 : decode cX7_init 12 = .ok (.aload_n 0, 1) := by decide +kernel
theorem dX7_init_13 : decode cX7_init 13 = .ok (.bipush 60, 2) := by decide +kernel
theorem dX7_init_15 : decode cX7_init 15 = .ok (.newarray .int, 2) := by decide +kernel
theorem dX7_init_17 : decode cX7_init 17 = .ok (.putfield 13, 3) := by decide +kernel
theorem dX7_init_20 : decode cX7_init 20 = .ok (.aload_n 0, 1) := by decide +kernel
theorem dX7_init_21 : decode cX7_init 21 = .ok (.bipush 60, 2) := by decide +kernel
theorem dX7_init_23 : decode cX7_init 23 = .ok (.newarray .boolean, 2) := by decide +kernel
theorem dX7_init_25 : decode cX7_init 25 = .ok (.putfield 16, 3) := by decide +kernel
theorem dX7_init_28 : decode cX7_init 28 = .ok (.aload_n 0, 1) := by decide +kernel
theorem dX7_init_29 : decode cX7_init 29 = .ok (.bipush 12, 2) := by decide +kernel
theorem dX7_init_31 : decode cX7_init 31 = .ok (.newarray .int, 2) := by decide +kernel
theorem dX7_init_33 : decode cX7_init 33 = .ok (.putfield 20, 3) := by decide +kernel
theorem dX7_init_36 : decode cX7_init 36 = .ok (.aload_n 0, 1) := by decide +kernel
theorem dX7_init_37 : decode cX7_init 37 = .ok (.bipush 12, 2) := by decide +kernel
theorem dX7_init_39 : decode cX7_init 39 = .ok (.newarray .int, 2) := by decide +kernel
theorem dX7_init_41 : decode cX7_init 41 = .ok (.putfield 23, 3) := by decide +kernel
theorem dX7_init_44 : decode cX7_init 44 = .ok (.aload_n 0, 1) := by decide +kernel
theorem dX7_init_45 : decode cX7_init 45 = .ok (.bipush 12, 2) := by decide +kernel
theorem dX7_init_47 : decode cX7_init 47 = .ok (.newarray .int, 2) := by decide +kernel
theorem dX7_init_49 : decode cX7_init 49 = .ok (.putfield 26, 3) := by decide +kernel
theorem dX7_init_52 : decode cX7_init 52 = .ok (.aload_n 0, 1) := by decide +kernel
theorem dX7_init_53 : decode cX7_init 53 = .ok (.bipush 12, 2) := by decide +kernel
theorem dX7_init_55 : decode cX7_init 55 = .ok (.newarray .int, 2) := by decide +kernel
theorem dX7_init_57 : decode cX7_init 57 = .ok (.putfield 29, 3) := by decide +kernel
theorem dX7_init_60 : decode cX7_init 60 = .ok (.aload_n 0, 1) := by decide +kernel
theorem dX7_init_61 : decode cX7_init 61 = .ok (.bipush 12, 2) := by decide +kernel
theorem dX7_init_63 : decode cX7_init 63 = .ok (.newarray .boolean, 2) := by decide +kernel
theorem dX7_init_65 : decode cX7_init 65 = .ok (.putfield 32, 3) := by decide +kernel
theorem dX7_init_68 : decode cX7_init 68 = .ok (.aload_n 0, 1) := by decide +kernel
theorem dX7_init_69 : decode cX7_init 69 = .ok (.bipush 12, 2) := by decide +kernel
theorem dX7_init_71 : decode cX7_init 71 = .ok (.newarray .int, 2) := by decide +kernel
theorem dX7_init_73 : decode cX7_init 73 = .ok (.putfield 35, 3) := by decide +kernel
theorem dX7_init_76 : decode cX7_init 76 = .ok (.aload_n 0, 1) := by decide +kernel
theorem dX7_init_77 : decode cX7_init 77 = .ok (.bipush 12, 2) := by decide +kernel
theorem dX7_init_79 : decode cX7_init 79 = .ok (.newarray .int, 2) := by decide +kernel
theorem dX7_init_81 : decode cX7_init 81 = .ok (.putfield 38, 3) := by decide +kernel
theorem dX7_init_84 : decode cX7_init 84 = .ok (.aload_n 0, 1) := by decide +kernel
theorem dX7_init_85 : decode cX7_init 85 = .ok (.bipush 96, 2) := by decide +kernel
theorem dX7_init_87 : decode cX7_init 87 = .ok (.newarray .int, 2) := by decide +kernel
theorem dX7_init_89 : decode cX7_init 89 = .ok (.putfield 41, 3) := by decide +kernel
theorem dX7_init_92 : decode cX7_init 92 = .ok (.aload_n 0, 1) := by decide +kernel
theorem dX7_init_93 : decode cX7_init 93 = .ok (.bipush 96, 2) := by decide +kernel
theorem dX7_init_95 : decode cX7_init 95 = .ok (.newarray .int, 2) := by decide +kernel
theorem dX7_init_97 : decode cX7_init 97 = .ok (.putfield 44, 3) := by decide +kernel
theorem dX7_init_100 : decode cX7_init 100 = .ok (.aload_n 0, 1) := by decide +kernel
theorem dX7_init_101 : decode cX7_init 101 = .ok (.bipush 96, 2) := by decide +kernel
theorem dX7_init_103 : decode cX7_init 103 = .ok (.newarray .int, 2) := by decide +kernel
theorem dX7_init_105 : decode cX7_init 105 = .ok (.putfield 47, 3) := by decide +kernel
theorem dX7_init_108 : decode cX7_init 108 = .ok (.aload_n 0, 1) := by decide +kernel
theorem dX7_init_109 : decode cX7_init 109 = .ok (.ldc 50, 2) := by decide +kernel
theorem dX7_init_111 : decode cX7_init 111 = .ok (.newarray .boolean, 2) := by decide +kernel
theorem dX7_init_113 : decode cX7_init 113 = .ok (.putfield 51, 3) := by decide +kernel
theorem dX7_init_116 : decode cX7_init 116 = .ok (.aload_n 0, 1) := by decide +kernel
theorem dX7_init_117 : decode cX7_init 117 = .ok (.bipush 16, 2) := by decide +kernel
theorem dX7_init_119 : decode cX7_init 119 = .ok (.newarray .int, 2) := by decide +kernel
theorem dX7_init_121 : decode cX7_init 121 = .ok (.putfield 54, 3) := by decide +kernel
theorem dX7_init_124 : decode cX7_init 124 = .ok (.aload_n 0, 1) := by decide +kernel
theorem dX7_init_125 : decode cX7_init 125 = .ok (.iconst 1, 1) := by decide +kernel
theorem dX7_init_126 : decode cX7_init 126 = .ok (.putfield 57, 3) := by decide +kernel
theorem dX7_init_129 : decode cX7_init 129 = .ok (.aload_n 0, 1) := by decide +kernel
theorem dX7_init_130 : decode cX7_init 130 = .ok (.bipush 6, 2) := by decide +kernel
theorem dX7_init_132 : decode cX7_init 132 = .ok (.putfield 61, 3) := by decide +kernel
theorem dX7_init_135 : decode cX7_init 135 = .ok (.aload_n 0, 1) := by decide +kernel
theorem dX7_init_136 : decode cX7_init 136 = .ok (.bipush 96, 2) := by decide +kernel
theorem dX7_init_138 : decode cX7_init 138 = .ok (.newarray .int, 2) := by decide +kernel
theorem dX7_init_140 : decode cX7_init 140 = .ok (.putfield 64, 3) := by decide +kernel
theorem dX7_init_143 : decode cX7_init 143 = .ok (.aload_n 0, 1) := by decide +kernel
theorem dX7_init_144 : decode cX7_init 144 = .ok (.bipush 96, 2) := by decide +kernel
theorem dX7_init_146 : decode cX7_init 146 = .ok (.newarray .int, 2) := by decide +kernel
theorem dX7_init_148 : decode cX7_init 148 = .ok (.putfield 67, 3) := by decide +kernel
theorem dX7_init_151 : decode cX7_init 151 = .ok (.aload_n 0, 1) := by decide +kernel
theorem dX7_init_152 : decode cX7_init 152 = .ok (.bipush 9, 2) := by decide +kernel
theorem dX7_init_154 : decode cX7_init 154 = .ok (.newarray .int, 2) := by decide +kernel
theorem dX7_init_156 : decode cX7_init 156 = .ok (.putfield 70, 3) := by decide +kernel
theorem dX7_init_159 : decode cX7_init 159 = .ok (.aload_n 0, 1) := by decide +kernel
theorem dX7_init_160 : decode cX7_init 160 = .ok (.bipush 8, 2) := by decide +kernel
theorem dX7_init_162 : decode cX7_init 162 = .ok (.newarray .int, 2) := by decide +kernel
theorem dX7_init_164 : decode cX7_init 164 = .ok (.putfield 73, 3) := by decide +kernel
theorem dX7_init_167 : decode cX7_init 167 = .ok (.aload_n 0, 1) := by decide +kernel
theorem dX7_init_168 : decode cX7_init 168 = .ok (.bipush 8, 2) := by decide +kernel
theorem dX7_init_170 : decode cX7_init 170 = .ok (.newarray .int, 2) := by decide +kernel
theorem dX7_init_172 : decode cX7_init 172 = .ok (.putfield 76, 3) := by decide +kernel
theorem dX7_init_175 : decode cX7_init 175 = .ok (.aload_n 0, 1) := by decide +kernel
theorem dX7_init_176 : decode cX7_init 176 = .ok (.bipush 8, 2) := by decide +kernel
theorem dX7_init_178 : decode cX7_init 178 = .ok (.newarray .int, 2) := by decide +kernel
theorem dX7_init_180 : decode cX7_init 180 = .ok (.putfield 79, 3) := by decide +kernel
theorem dX7_init_183 : decode cX7_init 183 = .ok (.aload_n 0, 1) := by decide +kernel
theorem dX7_init_184 : decode cX7_init 184 = .ok (.bipush 8, 2) := by decide +kernel
theorem dX7_init_186 : decode cX7_init 186 = .ok (.newarray .int, 2) := by decide +kernel
theorem dX7_init_188 : decode cX7_init 188 = .ok (.putfield 82, 3) := by decide +kernel
theorem dX7_init_191 : decode cX7_init 191 = .ok (.aload_n 0, 1) := by decide +kernel
theorem dX7_init_192 : decode cX7_init 192 = .ok (.bipush 8, 2) := by decide +kernel
theorem dX7_init_194 : decode cX7_init 194 = .ok (.newarray .int, 2) := by decide +kernel
theorem dX7_init_196 : decode cX7_init 196 = .ok (.putfield 85, 3) := by decide +kernel
theorem dX7_init_199 : decode cX7_init 199 = .ok (.aload_n 0, 1) := by decide +kernel
theorem dX7_init_200 : decode cX7_init 200 = .ok (.bipush 8, 2) := by decide +kernel
theorem dX7_init_202 : decode cX7_init 202 = .ok (.newarray .int, 2) := by decide +kernel
theorem dX7_init_204 : decode cX7_init 204 = .ok (.putfield 88, 3) := by decide +kernel
theorem dX7_init_207 : decode cX7_init 207 = .ok (.aload_n 0, 1) := by decide +kernel
theorem dX7_init_208 : decode cX7_init 208 = .ok (.sipush 128, 3) := by decide +kernel
theorem dX7_init_211 : decode cX7_init 211 = .ok (.newarray .int, 2) := by decide +kernel
theorem dX7_init_213 : decode cX7_init 213 = .ok (.putfield 91, 3) := by decide +kernel
theorem dX7_init_216 : decode cX7_init 216 = .ok (.aload_n 0, 1) := by decide +kernel
theorem dX7_init_217 : decode cX7_init 217 = .ok (.bipush 8, 2) := by decide +kernel
theorem dX7_init_219 : decode cX7_init 219 = .ok (.newarray .int, 2) := by decide +kernel
theorem dX7_init_221 : decode cX7_init 221 = .ok (.putfield 94, 3) := by decide +kernel
theorem dX7_init_224 : decode cX7_init 224 = .ok (.aload_n 0, 1) := by decide +kernel
theorem dX7_init_225 : decode cX7_init 225 = .ok (.bipush 8, 2) := by decide +kernel
theorem dX7_init_227 : decode cX7_init 227 = .ok (.newarray .int, 2) := by decide +kernel
theorem dX7_init_229 : decode cX7_init 229 = .ok (.putfield 97, 3) := by decide +kernel
theorem dX7_init_232 : decode cX7_init 232 = .ok (.aload_n 0, 1) := by decide +kernel
theorem dX7_init_233 : decode cX7_init 233 = .ok (.bipush 8, 2) := by decide +kernel
theorem dX7_init_235 : decode cX7_init 235 = .ok (.newarray .int, 2) := by decide +kernel
theorem dX7_init_237 : decode cX7_init 237 = .ok (.putfield 100, 3) := by decide +kernel
theorem dX7_init_240 : decode cX7_init 240 = .ok (.aload_n 0, 1) := by decide +kernel
theorem dX7_init_241 : decode cX7_init 241 = .ok (.bipush 8, 2) := by decide +kernel
theorem dX7_init_243 : decode cX7_init 243 = .ok (.newarray .int, 2) := by decide +kernel
theorem dX7_init_245 : decode cX7_init 245 = .ok (.putfield 103, 3) := by decide +kernel
theorem dX7_init_248 : decode cX7_init 248 = .ok (.aload_n 0, 1) := by decide +kernel
theorem dX7_init_249 : decode cX7_init 249 = .ok (.sipush 128, 3) := by decide +kernel
theorem dX7_init_252 : decode cX7_init 252 = .ok (.newarray .int, 2) := by decide +kernel
theorem dX7_init_254 : decode cX7_init 254 = .ok (.putfield 106, 3) := by decide +kernel
theorem dX7_init_257 : decode cX7_init 257 = .ok (.aload_n 0, 1) := by decide +kernel
theorem dX7_init_258 : decode cX7_init 258 = .ok (.bipush 9, 2) := by decide +kernel
theorem dX7_init_260 : decode cX7_init 260 = .ok (.newarray .int, 2) := by decide +kernel
theorem dX7_init_262 : decode cX7_init 262 = .ok (.putfield 109, 3) := by decide +kernel
theorem dX7_init_265 : decode cX7_init 265 = .ok (.aload_n 0, 1) := by decide +kernel
theorem dX7_init_266 : decode cX7_init 266 = .ok (.bipush 12, 2) := by decide +kernel
theorem dX7_init_268 : decode cX7_init 268 = .ok (.newarray .int, 2) := by decide +kernel
theorem dX7_init_270 : decode cX7_init 270 = .ok (.putfield 112, 3) := by decide +kernel
theorem dX7_init_273 : decode cX7_init 273 = .ok (.aload_n 0, 1) := by decide +kernel
theorem dX7_init_274 : decode cX7_init 274 = .ok (.bipush 30, 2) := by decide +kernel
theorem dX7_init_276 : decode cX7_init 276 = .ok (.newarray .int, 2) := by decide +kernel
theorem dX7_init_278 : decode cX7_init 278 = .ok (.putfield 115, 3) := by decide +kernel
theorem dX7_init_281 : decode cX7_init 281 = .ok (.aload_n 0, 1) := by decide +kernel
theorem dX7_init_282 : decode cX7_init 282 = .ok (.bipush 30, 2) := by decide +kernel
theorem dX7_init_284 : decode cX7_init 284 = .ok (.newarray .int, 2) := by decide +kernel
theorem dX7_init_286 : decode cX7_init 286 = .ok (.putfield 118, 3) := by decide +kernel
theorem dX7_init_289 : decode cX7_init 289 = .ok (.aload_n 0, 1) := by decide +kernel
theorem dX7_init_290 : decode cX7_init 290 = .ok (.bipush 30, 2) := by decide +kernel
theorem dX7_init_292 : decode cX7_init 292 = .ok (.newarray .int, 2) := by decide +kernel
theorem dX7_init_294 : decode cX7_init 294 = .ok (.putfield 121, 3) := by decide +kernel
theorem dX7_init_297 : decode cX7_init 297 = .ok (.aload_n 0, 1) := by decide +kernel
theorem dX7_init_298 : decode cX7_init 298 = .ok (.iconst 2, 1) := by decide +kernel
theorem dX7_init_299 : decode cX7_init 299 = .ok (.putfield 124, 3) := by decide +kernel
theorem dX7_init_302 : decode cX7_init 302 = .ok (.return_, 1) := by decide +kernel
theorem dX7_in_0 : decode cX7_in 0 = .ok (.iload_n 0, 1) := by decide +kernel
theorem dX7_in_1 : decode cX7_in 1 = .ok (.iload_n 1, 1) := by decide +kernel
theorem dX7_in_2 : decode cX7_in 2 = .ok (.if_icmp .lt 12, 3) := by decide +kernel
theorem dX7_in_5 : decode cX7_in 5 = .ok (.iload_n 0, 1) := by decide +kernel
theorem dX7_in_6 : decode cX7_in 6 = .ok (.iload_n 2, 1) := by decide +kernel
theorem dX7_in_7 : decode cX7_in 7 = .ok (.if_icmp .gt 7, 3) := by decide +kernel
theorem dX7_in_10 : decode cX7_in 10 = .ok (.iconst 1, 1) := by decide +kernel
theorem dX7_in_11 : decode cX7_in 11 = .ok (.goto 4, 3) := by decide +kernel
theorem dX7_in_14 : decode cX7_in 14 = .ok (.iconst 0, 1) := by decide +kernel
theorem dX7_in_15 : decode cX7_in 15 = .ok (.ireturn, 1) := by decide +kernel
theorem dX7_shot_0 : decode cX7_shot 0 = .ok (.iload_n 1, 1) := by decide +kernel
theorem dX7_shot_1 : decode cX7_shot 1 = .ok (.iconst 1, 1) := by decide +kernel
theorem dX7_shot_2 : decode cX7_shot 2 = .ok (.sipush 2000, 3) := by decide +kernel
theorem dX7_shot_5 : decode cX7_shot 5 = .ok (.invokestatic 130, 3) := by decide +kernel
theorem dX7_shot_8 : decode cX7_shot 8 = .ok (.ifCond .eq 12, 3) := by decide +kernel
theorem dX7_shot_11 : decode cX7_shot 11 = .ok (.iload_n 2, 1) := by decide +kernel
theorem dX7_shot_12 : decode cX7_shot 12 = .ok (.iconst 0, 1) := by decide +kernel
theorem dX7_shot_13 : decode cX7_shot 13 = .ok (.iconst 5, 1) := by decide +kernel
theorem dX7_shot_14 : decode cX7_shot 14 = .ok (.invokestatic 130, 3) := by decide +kernel
theorem dX7_shot_17 : decode cX7_shot 17 = .ok (.ifCond .ne 5, 3) := by decide +kernel
theorem dX7_shot_20 : decode cX7_shot 20 = .ok (.iconst (-1), 1) := by decide +kernel
theorem dX7_shot_21 : decode cX7_shot 21 = .ok (.ireturn, 1) := by decide +kernel
theorem dX7_shot_22 : decode cX7_shot 22 = .ok (.aload_n 0, 1) := by decide +kernel
theorem dX7_shot_23 : decode cX7_shot 23 = .ok (.getfield 134, 3) := by decide +kernel
theorem dX7_shot_26 : decode cX7_shot 26 = .ok (.bipush 60, 2) := by decide +kernel
theorem dX7_shot_28 : decode cX7_shot 28 = .ok (.if_icmp .ne 6, 3) := by decide +kernel
theorem dX7_shot_31 : decode cX7_shot 31 = .ok (.bipush (-3), 2) := by decide +kernel
theorem dX7_shot_33 : decode cX7_shot 33 = .ok (.ireturn, 1) := by decide +kernel
theorem dX7_shot_34 : decode cX7_shot 34 = .ok (.aload_n 0, 1) := by decide +kernel
theorem dX7_shot_35 : decode cX7_shot 35 = .ok (.getfield 7, 3) := by decide +kernel
theorem dX7_shot_38 : decode cX7_shot 38 = .ok (.aload_n 0, 1) := by decide +kernel
theorem dX7_shot_39 : decode cX7_shot 39 = .ok (.getfield 134, 3) := by decide +kernel
theorem dX7_shot_42 : decode cX7_shot 42 = .ok (.iload_n 1, 1) := by decide +kernel
theorem dX7_shot_43 : decode cX7_shot 43 = .ok (.iastore, 1) := by decide +kernel
theorem dX7_shot_44 : decode cX7_shot 44 = .ok (.aload_n 0, 1) := by decide +kernel
theorem dX7_shot_45 : decode cX7_shot 45 = .ok (.getfield 13, 3) := by decide +kernel
theorem dX7_shot_48 : decode cX7_shot 48 = .ok (.aload_n 0, 1) := by decide +kernel
theorem dX7_shot_49 : decode cX7_shot 49 = .ok (.getfield 134, 3) := by decide +kernel
theorem dX7_shot_52 : decode cX7_shot 52 = .ok (.iload_n 2, 1) := by decide +kernel
theorem dX7_shot_53 : decode cX7_shot 53 = .ok (.iastore, 1) := by decide +kernel
theorem dX7_shot_54 : decode cX7_shot 54 = .ok (.aload_n 0, 1) := by decide +kernel
theorem dX7_shot_55 : decode cX7_shot 55 = .ok (.getfield 16, 3) := by decide +kernel
theorem dX7_shot_58 : decode cX7_shot 58 = .ok (.aload_n 0, 1) := by decide +kernel
theorem dX7_shot_59 : decode cX7_shot 59 = .ok (.getfield 134, 3) := by decide +kernel
theorem dX7_shot_62 : decode cX7_shot 62 = .ok (.aload_n 0, 1) := by decide +kernel
theorem dX7_shot_63 : decode cX7_shot 63 = .ok (.getfield 134, 3) := by decide +kernel
theorem dX7_shot_66 : decode cX7_shot 66 = .ok (.ifCond .ne 7, 3) := by decide +kernel
theorem dX7_shot_69 : decode cX7_shot 69 = .ok (.iconst 1, 1) := by decide +kernel
theorem dX7_shot_70 : decode cX7_shot 70 = .ok (.goto 4, 3) := by decide +kernel
theorem dX7_shot_73 : decode cX7_shot 73 = .ok (.iconst 0, 1) := by decide +kernel
theorem dX7_shot_74 : decode cX7_shot 74 = .ok (.bastore, 1) := by decide +kernel
theorem dX7_shot_75 : decode cX7_shot 75 = .ok (.aload_n 0, 1) := by decide +kernel
theorem dX7_shot_76 : decode cX7_shot 76 = .ok (.dup, 1) := by decide +kernel
theorem dX7_shot_77 : decode cX7_shot 77 = .ok (.getfield 134, 3) := by decide +kernel
theorem dX7_shot_80 : decode cX7_shot 80 = .ok (.iconst 1, 1) := by decide +kernel
theorem dX7_shot_81 : decode cX7_shot 81 = .ok (.iadd, 1) := by decide +kernel
theorem dX7_shot_82 : decode cX7_shot 82 = .ok (.putfield 134, 3) := by decide +kernel
theorem dX7_shot_85 : decode cX7_shot 85 = .ok (.aload_n 0, 1) := by decide +kernel
theorem dX7_shot_86 : decode cX7_shot 86 = .ok (.getfield 134, 3) := by decide +kernel
theorem dX7_shot_89 : decode cX7_shot 89 = .ok (.iconst 1, 1) := by decide +kernel
theorem dX7_shot_90 : decode cX7_shot 90 = .ok (.isub, 1) := by decide +kernel
theorem dX7_shot_91 : decode cX7_shot 91 = .ok (.ireturn, 1) := by decide +kernel
theorem dX7_cue_0 : decode cX7_cue 0 = .ok (.iload_n 1, 1) := by decide +kernel
theorem dX7_cue_1 : decode cX7_cue 1 = .ok (.iconst 1, 1) := by decide +kernel
theorem dX7_cue_2 : decode cX7_cue 2 = .ok (.aload_n 0, 1) := by decide +kernel
theorem dX7_cue_3 : decode cX7_cue 3 = .ok (.getfield 134, 3) := by decide +kernel
theorem dX7_cue_6 : decode cX7_cue 6 = .ok (.iconst 1, 1) := by decide +kernel
theorem dX7_cue_7 : decode cX7_cue 7 = .ok (.isub, 1) := by decide +kernel
theorem dX7_cue_8 : decode cX7_cue 8 = .ok (.invokestatic 130, 3) := by decide +kernel
theorem dX7_cue_11 : decode cX7_cue 11 = .ok (.ifCond .eq 12, 3) := by decide +kernel
theorem dX7_cue_14 : decode cX7_cue 14 = .ok (.iload_n 2, 1) := by decide +kernel
theorem dX7_cue_15 : decode cX7_cue 15 = .ok (.iconst 0, 1) := by decide +kernel
theorem dX7_cue_16 : decode cX7_cue 16 = .ok (.iconst 1, 1) := by decide +kernel
theorem dX7_cue_17 : decode cX7_cue 17 = .ok (.invokestatic 130, 3) := by decide +kernel
theorem dX7_cue_20 : decode cX7_cue 20 = .ok (.ifCond .ne 5, 3) := by decide +kernel
theorem dX7_cue_23 : decode cX7_cue 23 = .ok (.iconst (-1), 1) := by decide +kernel
theorem dX7_cue_24 : decode cX7_cue 24 = .ok (.ireturn, 1) := by decide +kernel
theorem dX7_cue_25 : decode cX7_cue 25 = .ok (.aload_n 0, 1) := by decide +kernel
theorem dX7_cue_26 : decode cX7_cue 26 = .ok (.getfield 16, 3) := by decide +kernel
theorem dX7_cue_29 : decode cX7_cue 29 = .ok (.iload_n 1, 1) := by decide +kernel
theorem dX7_cue_30 : decode cX7_cue 30 = .ok (.baload, 1) := by decide +kernel
theorem dX7_cue_31 : decode cX7_cue 31 = .ok (.ifCond .eq 7, 3) := by decide +kernel
theorem dX7_cue_34 : decode cX7_cue 34 = .ok (.iconst 1, 1) := by decide +kernel
theorem dX7_cue_35 : decode cX7_cue 35 = .ok (.goto 4, 3) := by decide +kernel
theorem dX7_cue_38 : decode cX7_cue 38 = .ok (.iconst 0, 1) := by decide +kernel
theorem dX7_cue_39 : decode cX7_cue 39 = .ok (.istore_n 3, 1) := by decide +kernel
theorem dX7_cue_40 : decode cX7_cue 40 = .ok (.aload_n 0, 1) := by decide +kernel
theorem dX7_cue_41 : decode cX7_cue 41 = .ok (.getfield 16, 3) := by decide +kernel
theorem dX7_cue_44 : decode cX7_cue 44 = .ok (.iload_n 1, 1) := by decide +kernel
theorem dX7_cue_45 : decode cX7_cue 45 = .ok (.iload_n 2, 1) := by decide +kernel
theorem dX7_cue_46 : decode cX7_cue 46 = .ok (.iconst 1, 1) := by decide +kernel
theorem dX7_cue_47 : decode cX7_cue 47 = .ok (.if_icmp .ne 7, 3) := by decide +kernel
theorem dX7_cue_50 : decode cX7_cue 50 = .ok (.iconst 1, 1) := by decide +kernel
theorem dX7_cue_51 : decode cX7_cue 51 = .ok (.goto 4, 3) := by decide +kernel
theorem dX7_cue_54 : decode cX7_cue 54 = .ok (.iconst 0, 1) := by decide +kernel
theorem dX7_cue_55 : decode cX7_cue 55 = .ok (.bastore, 1) := by decide +kernel
theorem dX7_cue_56 : decode cX7_cue 56 = .ok (.iload_n 3, 1) := by decide +kernel
theorem dX7_cue_57 : decode cX7_cue 57 = .ok (.ireturn, 1) := by decide +kernel
theorem dX7_stretches_0 : decode cX7_stretches 0 = .ok (.iconst 0, 1) := by decide +kernel
theorem dX7_stretches_1 : decode cX7_stretches 1 = .ok (.istore_n 1, 1) := by decide +kernel
theorem dX7_stretches_2 : decode cX7_stretches 2 = .ok (.iconst 0, 1) := by decide +kernel
theorem dX7_stretches_3 : decode cX7_stretches 3 = .ok (.istore_n 2, 1) := by decide +kernel
theorem dX7_stretches_4 : decode cX7_stretches 4 = .ok (.iload_n 2, 1) := by decide +kernel
theorem dX7_stretches_5 : decode cX7_stretches 5 = .ok (.aload_n 0, 1) := by decide +kernel
theorem dX7_stretches_6 : decode cX7_stretches 6 = .ok (.getfield 134, 3) := by decide +kernel
theorem dX7_stretches_9 : decode cX7_stretches 9 = .ok (.if_icmp .ge 26, 3) := by decide +kernel
theorem dX7_stretches_12 : decode cX7_stretches 12 = .ok (.iload_n 1, 1) := by decide +kernel
theorem dX7_stretches_13 : decode cX7_stretches 13 = .ok (.aload_n 0, 1) := by decide +kernel
theorem dX7_stretches_14 : decode cX7_stretches 14 = .ok (.getfield 16, 3) := by decide +kernel
theorem dX7_stretches_17 : decode cX7_stretches 17 = .ok (.iload_n 2, 1) := by decide +kernel
theorem dX7_stretches_18 : decode cX7_stretches 18 = .ok (.baload, 1) := by decide +kernel
theorem dX7_stretches_19 : decode cX7_stretches 19 = .ok (.ifCond .eq 7, 3) := by decide +kernel
theorem dX7_stretches_22 : decode cX7_stretches 22 = .ok (.iconst 1, 1) := by decide +kernel
theorem dX7_stretches_23 : decode cX7_stretches 23 = .ok (.goto 4, 3) := by decide +kernel
theorem dX7_stretches_26 : decode cX7_stretches 26 = .ok (.iconst 0, 1) := by decide +kernel
theorem dX7_stretches_27 : decode cX7_stretches 27 = .ok (.iadd, 1) := by decide +kernel
theorem dX7_stretches_28 : decode cX7_stretches 28 = .ok (.istore_n 1, 1) := by decide +kernel
theorem dX7_stretches_29 : decode cX7_stretches 29 = .ok (.iinc 2 1, 3) := by decide +kernel
theorem dX7_stretches_32 : decode cX7_stretches 32 = .ok (.goto (-28), 3) := by decide +kernel
theorem dX7_stretches_35 : decode cX7_stretches 35 = .ok (.iload_n 1, 1) := by decide +kernel
theorem dX7_stretches_36 : decode cX7_stretches 36 = .ok (.ireturn, 1) := by decide +kernel
theorem dX7_firstOf_0 : decode cX7_firstOf 0 = .ok (.iload_n 1, 1) := by decide +kernel
theorem dX7_firstOf_1 : decode cX7_firstOf 1 = .ok (.istore_n 2, 1) := by decide +kernel
theorem dX7_firstOf_2 : decode cX7_firstOf 2 = .ok (.iconst 0, 1) := by decide +kernel
theorem dX7_firstOf_3 : decode cX7_firstOf 3 = .ok (.istore_n 3, 1) := by decide +kernel
theorem dX7_firstOf_4 : decode cX7_firstOf 4 = .ok (.iload_n 3, 1) := by decide +kernel
theorem dX7_firstOf_5 : decode cX7_firstOf 5 = .ok (.aload_n 0, 1) := by decide +kernel
theorem dX7_firstOf_6 : decode cX7_firstOf 6 = .ok (.getfield 134, 3) := by decide +kernel
theorem dX7_firstOf_9 : decode cX7_firstOf 9 = .ok (.if_icmp .ge 30, 3) := by decide +kernel
theorem dX7_firstOf_12 : decode cX7_firstOf 12 = .ok (.aload_n 0, 1) := by decide +kernel
theorem dX7_firstOf_13 : decode cX7_firstOf 13 = .ok (.getfield 16, 3) := by decide +kernel
theorem dX7_firstOf_16 : decode cX7_firstOf 16 = .ok (.iload_n 3, 1) := by decide +kernel
theorem dX7_firstOf_17 : decode cX7_firstOf 17 = .ok (.baload, 1) := by decide +kernel
theorem dX7_firstOf_18 : decode cX7_firstOf 18 = .ok (.ifCond .ne 6, 3) := by decide +kernel
theorem dX7_firstOf_21 : decode cX7_firstOf 21 = .ok (.goto 12, 3) := by decide +kernel
theorem dX7_firstOf_24 : decode cX7_firstOf 24 = .ok (.iload_n 2, 1) := by decide +kernel
theorem dX7_firstOf_25 : decode cX7_firstOf 25 = .ok (.ifCond .ne 5, 3) := by decide +kernel
theorem dX7_firstOf_28 : decode cX7_firstOf 28 = .ok (.iload_n 3, 1) := by decide +kernel
theorem dX7_firstOf_29 : decode cX7_firstOf 29 = .ok (.ireturn, 1) := by decide +kernel
theorem dX7_firstOf_30 : decode cX7_firstOf 30 = .ok (.iinc 2 (-1), 3) := by decide +kernel
theorem dX7_firstOf_33 : decode cX7_firstOf 33 = .ok (.iinc 3 1, 3) := by decide +kernel
theorem dX7_firstOf_36 : decode cX7_firstOf 36 = .ok (.goto (-32), 3) := by decide +kernel
theorem dX7_firstOf_39 : decode cX7_firstOf 39 = .ok (.aload_n 0, 1) := by decide +kernel
theorem dX7_firstOf_40 : decode cX7_firstOf 40 = .ok (.getfield 134, 3) := by decide +kernel
theorem dX7_firstOf_43 : decode cX7_firstOf 43 = .ok (.ireturn, 1) := by decide +kernel
theorem dX7_framesOf_0 : decode cX7_framesOf 0 = .ok (.iconst 0, 1) := by decide +kernel
theorem dX7_framesOf_1 : decode cX7_framesOf 1 = .ok (.istore_n 2, 1) := by decide +kernel
theorem dX7_framesOf_2 : decode cX7_framesOf 2 = .ok (.aload_n 0, 1) := by decide +kernel
theorem dX7_framesOf_3 : decode cX7_framesOf 3 = .ok (.iload_n 1, 1) := by decide +kernel
theorem dX7_framesOf_4 : decode cX7_framesOf 4 = .ok (.invokevirtual 137, 3) := by decide +kernel
theorem dX7_framesOf_7 : decode cX7_framesOf 7 = .ok (.istore_n 3, 1) := by decide +kernel
theorem dX7_framesOf_8 : decode cX7_framesOf 8 = .ok (.iload_n 3, 1) := by decide +kernel
theorem dX7_framesOf_9 : decode cX7_framesOf 9 = .ok (.aload_n 0, 1) := by decide +kernel
theorem dX7_framesOf_10 : decode cX7_framesOf 10 = .ok (.iload_n 1, 1) := by decide +kernel
theorem dX7_framesOf_11 : decode cX7_framesOf 11 = .ok (.iconst 1, 1) := by decide +kernel
theorem dX7_framesOf_12 : decode cX7_framesOf 12 = .ok (.iadd, 1) := by decide +kernel
theorem dX7_framesOf_13 : decode cX7_framesOf 13 = .ok (.invokevirtual 137, 3) := by decide +kernel
theorem dX7_framesOf_16 : decode cX7_framesOf 16 = .ok (.if_icmp .ge 18, 3) := by decide +kernel
theorem dX7_framesOf_19 : decode cX7_framesOf 19 = .ok (.iload_n 2, 1) := by decide +kernel
theorem dX7_framesOf_20 : decode cX7_framesOf 20 = .ok (.aload_n 0, 1) := by decide +kernel
theorem dX7_framesOf_21 : decode cX7_framesOf 21 = .ok (.getfield 7, 3) := by decide +kernel
theorem dX7_framesOf_24 : decode cX7_framesOf 24 = .ok (.iload_n 3, 1) := by decide +kernel
theorem dX7_framesOf_25 : decode cX7_framesOf 25 = .ok (.iaload, 1) := by decide +kernel
theorem dX7_framesOf_26 : decode cX7_framesOf 26 = .ok (.iadd, 1) := by decide +kernel
theorem dX7_framesOf_27 : decode cX7_framesOf 27 = .ok (.istore_n 2, 1) := by decide +kernel
theorem dX7_framesOf_28 : decode cX7_framesOf 28 = .ok (.iinc 3 1, 3) := by decide +kernel
theorem dX7_framesOf_31 : decode cX7_framesOf 31 = .ok (.goto (-23), 3) := by decide +kernel
theorem dX7_framesOf_34 : decode cX7_framesOf 34 = .ok (.iload_n 2, 1) := by decide +kernel
theorem dX7_framesOf_35 : decode cX7_framesOf 35 = .ok (.ireturn, 1) := by decide +kernel
theorem dX7_allFrames_0 : decode cX7_allFrames 0 = .ok (.iconst 0, 1) := by decide +kernel
theorem dX7_allFrames_1 : decode cX7_allFrames 1 = .ok (.istore_n 1, 1) := by decide +kernel
theorem dX7_allFrames_2 : decode cX7_allFrames 2 = .ok (.iconst 0, 1) := by decide +kernel
theorem dX7_allFrames_3 : decode cX7_allFrames 3 = .ok (.istore_n 2, 1) := by decide +kernel
theorem dX7_allFrames_4 : decode cX7_allFrames 4 = .ok (.iload_n 2, 1) := by decide +kernel
theorem dX7_allFrames_5 : decode cX7_allFrames 5 = .ok (.aload_n 0, 1) := by decide +kernel
theorem dX7_allFrames_6 : decode cX7_allFrames 6 = .ok (.getfield 134, 3) := by decide +kernel
theorem dX7_allFrames_9 : decode cX7_allFrames 9 = .ok (.if_icmp .ge 18, 3) := by decide +kernel
theorem dX7_allFrames_12 : decode cX7_allFrames 12 = .ok (.iload_n 1, 1) := by decide +kernel
theorem dX7_allFrames_13 : decode cX7_allFrames 13 = .ok (.aload_n 0, 1) := by decide +kernel
theorem dX7_allFrames_14 : decode cX7_allFrames 14 = .ok (.getfield 7, 3) := by decide +kernel
theorem dX7_allFrames_17 : decode cX7_allFrames 17 = .ok (.iload_n 2, 1) := by decide +kernel
theorem dX7_allFrames_18 : decode cX7_allFrames 18 = .ok (.iaload, 1) := by decide +kernel
theorem dX7_allFrames_19 : decode cX7_allFrames 19 = .ok (.iadd, 1) := by decide +kernel
theorem dX7_allFrames_20 : decode cX7_allFrames 20 = .ok (.istore_n 1, 1) := by decide +kernel
theorem dX7_allFrames_21 : decode cX7_allFrames 21 = .ok (.iinc 2 1, 3) := by decide +kernel
theorem dX7_allFrames_24 : decode cX7_allFrames 24 = .ok (.goto (-20), 3) := by decide +kernel
theorem dX7_allFrames_27 : decode cX7_allFrames 27 = .ok (.iload_n 1, 1) := by decide +kernel
theorem dX7_allFrames_28 : decode cX7_allFrames 28 = .ok (.ireturn, 1) := by decide +kernel
theorem dX7_stretch_0 : decode cX7_stretch 0 = .ok (.iload_n 1, 1) := by decide +kernel
theorem dX7_stretch_1 : decode cX7_stretch 1 = .ok (.iconst 0, 1) := by decide +kernel
theorem dX7_stretch_2 : decode cX7_stretch 2 = .ok (.aload_n 0, 1) := by decide +kernel
theorem dX7_stretch_3 : decode cX7_stretch 3 = .ok (.invokevirtual 141, 3) := by decide +kernel
theorem dX7_stretch_6 : decode cX7_stretch 6 = .ok (.iconst 1, 1) := by decide +kernel
theorem dX7_stretch_7 : decode cX7_stretch 7 = .ok (.isub, 1) := by decide +kernel
theorem dX7_stretch_8 : decode cX7_stretch 8 = .ok (.invokestatic 130, 3) := by decide +kernel
theorem dX7_stretch_11 : decode cX7_stretch 11 = .ok (.ifCond .ne 5, 3) := by decide +kernel
theorem dX7_stretch_14 : decode cX7_stretch 14 = .ok (.iconst (-1), 1) := by decide +kernel
theorem dX7_stretch_15 : decode cX7_stretch 15 = .ok (.ireturn, 1) := by decide +kernel
theorem dX7_stretch_16 : decode cX7_stretch 16 = .ok (.iload_n 2, 1) := by decide +kernel
theorem dX7_stretch_17 : decode cX7_stretch 17 = .ok (.tableswitch 64 0 3 #[31, 37, 47, 53], 31) := by decide +kernel
theorem dX7_stretch_48 : decode cX7_stretch 48 = .ok (.aload_n 0, 1) := by decide +kernel
theorem dX7_stretch_49 : decode cX7_stretch 49 = .ok (.iload_n 1, 1) := by decide +kernel
theorem dX7_stretch_50 : decode cX7_stretch 50 = .ok (.invokevirtual 137, 3) := by decide +kernel
theorem dX7_stretch_53 : decode cX7_stretch 53 = .ok (.ireturn, 1) := by decide +kernel
theorem dX7_stretch_54 : decode cX7_stretch 54 = .ok (.aload_n 0, 1) := by decide +kernel
theorem dX7_stretch_55 : decode cX7_stretch 55 = .ok (.iload_n 1, 1) := by decide +kernel
theorem dX7_stretch_56 : decode cX7_stretch 56 = .ok (.iconst 1, 1) := by decide +kernel
theorem dX7_stretch_57 : decode cX7_stretch 57 = .ok (.iadd, 1) := by decide +kernel
theorem dX7_stretch_58 : decode cX7_stretch 58 = .ok (.invokevirtual 137, 3) := by decide +kernel
theorem dX7_stretch_61 : decode cX7_stretch 61 = .ok (.iconst 1, 1) := by decide +kernel
theorem dX7_stretch_62 : decode cX7_stretch 62 = .ok (.isub, 1) := by decide +kernel
theorem dX7_stretch_63 : decode cX7_stretch 63 = .ok (.ireturn, 1) := by decide +kernel
theorem dX7_stretch_64 : decode cX7_stretch 64 = .ok (.aload_n 0, 1) := by decide +kernel
theorem dX7_stretch_65 : decode cX7_stretch 65 = .ok (.iload_n 1, 1) := by decide +kernel
theorem dX7_stretch_66 : decode cX7_stretch 66 = .ok (.invokevirtual 145, 3) := by decide +kernel
theorem dX7_stretch_69 : decode cX7_stretch 69 = .ok (.ireturn, 1) := by decide +kernel
theorem dX7_stretch_70 : decode cX7_stretch 70 = .ok (.aload_n 0, 1) := by decide +kernel
theorem dX7_stretch_71 : decode cX7_stretch 71 = .ok (.getfield 13, 3) := by decide +kernel
theorem dX7_stretch_74 : decode cX7_stretch 74 = .ok (.aload_n 0, 1) := by decide +kernel
theorem dX7_stretch_75 : decode cX7_stretch 75 = .ok (.iload_n 1, 1) := by decide +kernel
theorem dX7_stretch_76 : decode cX7_stretch 76 = .ok (.invokevirtual 137, 3) := by decide +kernel
theorem dX7_stretch_79 : decode cX7_stretch 79 = .ok (.iaload, 1) := by decide +kernel
theorem dX7_stretch_80 : decode cX7_stretch 80 = .ok (.ireturn, 1) := by decide +kernel
theorem dX7_stretch_81 : decode cX7_stretch 81 = .ok (.iconst (-1), 1) := by decide +kernel
theorem dX7_stretch_82 : decode cX7_stretch 82 = .ok (.ireturn, 1) := by decide +kernel
theorem dX7_tenths_0 : decode cX7_tenths 0 = .ok (.iload_n 1, 1) := by decide +kernel
theorem dX7_tenths_1 : decode cX7_tenths 1 = .ok (.iconst (-1), 1) := by decide +kernel
theorem dX7_tenths_2 : decode cX7_tenths 2 = .ok (.aload_n 0, 1) := by decide +kernel
theorem dX7_tenths_3 : decode cX7_tenths 3 = .ok (.invokevirtual 141, 3) := by decide +kernel
theorem dX7_tenths_6 : decode cX7_tenths 6 = .ok (.iconst 1, 1) := by decide +kernel
theorem dX7_tenths_7 : decode cX7_tenths 7 = .ok (.isub, 1) := by decide +kernel
theorem dX7_tenths_8 : decode cX7_tenths 8 = .ok (.invokestatic 130, 3) := by decide +kernel
theorem dX7_tenths_11 : decode cX7_tenths 11 = .ok (.ifCond .eq 14, 3) := by decide +kernel
theorem dX7_tenths_14 : decode cX7_tenths 14 = .ok (.iload_n 2, 1) := by decide +kernel
theorem dX7_tenths_15 : decode cX7_tenths 15 = .ok (.bipush 12, 2) := by decide +kernel
theorem dX7_tenths_17 : decode cX7_tenths 17 = .ok (.bipush 30, 2) := by decide +kernel
theorem dX7_tenths_19 : decode cX7_tenths 19 = .ok (.invokestatic 130, 3) := by decide +kernel
theorem dX7_tenths_22 : decode cX7_tenths 22 = .ok (.ifCond .ne 5, 3) := by decide +kernel
theorem dX7_tenths_25 : decode cX7_tenths 25 = .ok (.iconst (-1), 1) := by decide +kernel
theorem dX7_tenths_26 : decode cX7_tenths 26 = .ok (.ireturn, 1) := by decide +kernel
theorem dX7_tenths_27 : decode cX7_tenths 27 = .ok (.iload_n 1, 1) := by decide +kernel
theorem dX7_tenths_28 : decode cX7_tenths 28 = .ok (.ifCond .ge 10, 3) := by decide +kernel
theorem dX7_tenths_31 : decode cX7_tenths 31 = .ok (.aload_n 0, 1) := by decide +kernel
theorem dX7_tenths_32 : decode cX7_tenths 32 = .ok (.invokevirtual 148, 3) := by decide +kernel
theorem dX7_tenths_35 : decode cX7_tenths 35 = .ok (.goto 8, 3) := by decide +kernel
theorem dX7_tenths_38 : decode cX7_tenths 38 = .ok (.aload_n 0, 1) := by decide +kernel
theorem dX7_tenths_39 : decode cX7_tenths 39 = .ok (.iload_n 1, 1) := by decide +kernel
theorem dX7_tenths_40 : decode cX7_tenths 40 = .ok (.invokevirtual 145, 3) := by decide +kernel
theorem dX7_tenths_43 : decode cX7_tenths 43 = .ok (.bipush 10, 2) := by decide +kernel
theorem dX7_tenths_45 : decode cX7_tenths 45 = .ok (.imul, 1) := by decide +kernel
theorem dX7_tenths_46 : decode cX7_tenths 46 = .ok (.iload_n 2, 1) := by decide +kernel
theorem dX7_tenths_47 : decode cX7_tenths 47 = .ok (.idiv, 1) := by decide +kernel
theorem dX7_tenths_48 : decode cX7_tenths 48 = .ok (.ireturn, 1) := by decide +kernel
theorem dX7_isPiece_0 : decode cX7_isPiece 0 = .ok (.iload_n 1, 1) := by decide +kernel
theorem dX7_isPiece_1 : decode cX7_isPiece 1 = .ok (.iconst 0, 1) := by decide +kernel
theorem dX7_isPiece_2 : decode cX7_isPiece 2 = .ok (.aload_n 0, 1) := by decide +kernel
theorem dX7_isPiece_3 : decode cX7_isPiece 3 = .ok (.getfield 151, 3) := by decide +kernel
theorem dX7_isPiece_6 : decode cX7_isPiece 6 = .ok (.iconst 1, 1) := by decide +kernel
theorem dX7_isPiece_7 : decode cX7_isPiece 7 = .ok (.isub, 1) := by decide +kernel
theorem dX7_isPiece_8 : decode cX7_isPiece 8 = .ok (.invokestatic 130, 3) := by decide +kernel
theorem dX7_isPiece_11 : decode cX7_isPiece 11 = .ok (.ireturn, 1) := by decide +kernel
theorem dX7_piece_0 : decode cX7_piece 0 = .ok (.iload_n 1, 1) := by decide +kernel
theorem dX7_piece_1 : decode cX7_piece 1 = .ok (.iconst 0, 1) := by decide +kernel
theorem dX7_piece_2 : decode cX7_piece 2 = .ok (.sipush 1163, 3) := by decide +kernel
theorem dX7_piece_5 : decode cX7_piece 5 = .ok (.invokestatic 130, 3) := by decide +kernel
theorem dX7_piece_8 : decode cX7_piece 8 = .ok (.ifCond .eq 82, 3) := by decide +kernel
theorem dX7_piece_11 : decode cX7_piece 11 = .ok (.iload_n 1, 1) := by decide +kernel
theorem dX7_piece_12 : decode cX7_piece 12 = .ok (.bipush 100, 2) := by decide +kernel
theorem dX7_piece_14 : decode cX7_piece 14 = .ok (.irem, 1) := by decide +kernel
theorem dX7_piece_15 : decode cX7_piece 15 = .ok (.iconst 1, 1) := by decide +kernel
theorem dX7_piece_16 : decode cX7_piece 16 = .ok (.bipush 63, 2) := by decide +kernel
theorem dX7_piece_18 : decode cX7_piece 18 = .ok (.invokestatic 130, 3) := by decide +kernel
theorem dX7_piece_21 : decode cX7_piece 21 = .ok (.ifCond .eq 69, 3) := by decide +kernel
theorem dX7_piece_24 : decode cX7_piece 24 = .ok (.iload_n 2, 1) := by decide +kernel
theorem dX7_piece_25 : decode cX7_piece 25 = .ok (.iconst 0, 1) := by decide +kernel
theorem dX7_piece_26 : decode cX7_piece 26 = .ok (.ldc 154, 2) := by decide +kernel
theorem dX7_piece_28 : decode cX7_piece 28 = .ok (.invokestatic 130, 3) := by decide +kernel
theorem dX7_piece_31 : decode cX7_piece 31 = .ok (.ifCond .eq 59, 3) := by decide +kernel
theorem dX7_piece_34 : decode cX7_piece 34 = .ok (.iload_n 2, 1) := by decide +kernel
theorem dX7_piece_35 : decode cX7_piece 35 = .ok (.sipush 1000, 3) := by decide +kernel
theorem dX7_piece_38 : decode cX7_piece 38 = .ok (.idiv, 1) := by decide +kernel
theorem dX7_piece_39 : decode cX7_piece 39 = .ok (.bipush 30, 2) := by decide +kernel
theorem dX7_piece_41 : decode cX7_piece 41 = .ok (.sipush 240, 3) := by decide +kernel
theorem dX7_piece_44 : decode cX7_piece 44 = .ok (.invokestatic 130, 3) := by decide +kernel
theorem dX7_piece_47 : decode cX7_piece 47 = .ok (.ifCond .eq 43, 3) := by decide +kernel
theorem dX7_piece_50 : decode cX7_piece 50 = .ok (.iload_n 2, 1) := by decide +kernel
theorem dX7_piece_51 : decode cX7_piece 51 = .ok (.sipush 1000, 3) := by decide +kernel
theorem dX7_piece_54 : decode cX7_piece 54 = .ok (.irem, 1) := by decide +kernel
theorem dX7_piece_55 : decode cX7_piece 55 = .ok (.iload_n 2, 1) := by decide +kernel
theorem dX7_piece_56 : decode cX7_piece 56 = .ok (.sipush 1000, 3) := by decide +kernel
theorem dX7_piece_59 : decode cX7_piece 59 = .ok (.idiv, 1) := by decide +kernel
theorem dX7_piece_60 : decode cX7_piece 60 = .ok (.sipush 240, 3) := by decide +kernel
theorem dX7_piece_63 : decode cX7_piece 63 = .ok (.invokestatic 130, 3) := by decide +kernel
theorem dX7_piece_66 : decode cX7_piece 66 = .ok (.ifCond .eq 24, 3) := by decide +kernel
theorem dX7_piece_69 : decode cX7_piece 69 = .ok (.iload_n 3, 1) := by decide +kernel
theorem dX7_piece_70 : decode cX7_piece 70 = .ok (.iconst 0, 1) := by decide +kernel
theorem dX7_piece_71 : decode cX7_piece 71 = .ok (.iconst 1, 1) := by decide +kernel
theorem dX7_piece_72 : decode cX7_piece 72 = .ok (.invokestatic 130, 3) := by decide +kernel
theorem dX7_piece_75 : decode cX7_piece 75 = .ok (.ifCond .eq 15, 3) := by decide +kernel
theorem dX7_piece_78 : decode cX7_piece 78 = .ok (.iload 4, 2) := by decide +kernel
theorem dX7_piece_80 : decode cX7_piece 80 = .ok (.iconst 0, 1) := by decide +kernel
theorem dX7_piece_81 : decode cX7_piece 81 = .ok (.sipush 999, 3) := by decide +kernel
theorem dX7_piece_84 : decode cX7_piece 84 = .ok (.invokestatic 130, 3) := by decide +kernel
theorem dX7_piece_87 : decode cX7_piece 87 = .ok (.ifCond .ne 5, 3) := by decide +kernel
theorem dX7_piece_90 : decode cX7_piece 90 = .ok (.iconst (-1), 1) := by decide +kernel
theorem dX7_piece_91 : decode cX7_piece 91 = .ok (.ireturn, 1) := by decide +kernel
theorem dX7_piece_92 : decode cX7_piece 92 = .ok (.aload_n 0, 1) := by decide +kernel
theorem dX7_piece_93 : decode cX7_piece 93 = .ok (.getfield 151, 3) := by decide +kernel
theorem dX7_piece_96 : decode cX7_piece 96 = .ok (.bipush 12, 2) := by decide +kernel
theorem dX7_piece_98 : decode cX7_piece 98 = .ok (.if_icmp .ne 6, 3) := by decide +kernel
theorem dX7_piece_101 : decode cX7_piece 101 = .ok (.bipush (-3), 2) := by decide +kernel
theorem dX7_piece_103 : decode cX7_piece 103 = .ok (.ireturn, 1) := by decide +kernel
theorem dX7_piece_104 : decode cX7_piece 104 = .ok (.aload_n 0, 1) := by decide +kernel
theorem dX7_piece_105 : decode cX7_piece 105 = .ok (.getfield 20, 3) := by decide +kernel
theorem dX7_piece_108 : decode cX7_piece 108 = .ok (.aload_n 0, 1) := by decide +kernel
theorem dX7_piece_109 : decode cX7_piece 109 = .ok (.getfield 151, 3) := by decide +kernel
theorem dX7_piece_112 : decode cX7_piece 112 = .ok (.iload_n 1, 1) := by decide +kernel
theorem dX7_piece_113 : decode cX7_piece 113 = .ok (.bipush 100, 2) := by decide +kernel
theorem dX7_piece_115 : decode cX7_piece 115 = .ok (.idiv, 1) := by decide +kernel
theorem dX7_piece_116 : decode cX7_piece 116 = .ok (.iastore, 1) := by decide +kernel
theorem dX7_piece_117 : decode cX7_piece 117 = .ok (.aload_n 0, 1) := by decide +kernel
theorem dX7_piece_118 : decode cX7_piece 118 = .ok (.getfield 23, 3) := by decide +kernel
theorem dX7_piece_121 : decode cX7_piece 121 = .ok (.aload_n 0, 1) := by decide +kernel
theorem dX7_piece_122 : decode cX7_piece 122 = .ok (.getfield 151, 3) := by decide +kernel
theorem dX7_piece_125 : decode cX7_piece 125 = .ok (.iload_n 1, 1) := by decide +kernel
theorem dX7_piece_126 : decode cX7_piece 126 = .ok (.bipush 100, 2) := by decide +kernel
theorem dX7_piece_128 : decode cX7_piece 128 = .ok (.irem, 1) := by decide +kernel
theorem dX7_piece_129 : decode cX7_piece 129 = .ok (.iastore, 1) := by decide +kernel
theorem dX7_piece_130 : decode cX7_piece 130 = .ok (.aload_n 0, 1) := by decide +kernel
theorem dX7_piece_131 : decode cX7_piece 131 = .ok (.getfield 26, 3) := by decide +kernel
theorem dX7_piece_134 : decode cX7_piece 134 = .ok (.aload_n 0, 1) := by decide +kernel
theorem dX7_piece_135 : decode cX7_piece 135 = .ok (.getfield 151, 3) := by decide +kernel
theorem dX7_piece_138 : decode cX7_piece 138 = .ok (.iload_n 2, 1) := by decide +kernel
theorem dX7_piece_139 : decode cX7_piece 139 = .ok (.sipush 1000, 3) := by decide +kernel
theorem dX7_piece_142 : decode cX7_piece 142 = .ok (.idiv, 1) := by decide +kernel
theorem dX7_piece_143 : decode cX7_piece 143 = .ok (.iastore, 1) := by decide +kernel
theorem dX7_piece_144 : decode cX7_piece 144 = .ok (.aload_n 0, 1) := by decide +kernel
theorem dX7_piece_145 : decode cX7_piece 145 = .ok (.getfield 29, 3) := by decide +kernel
theorem dX7_piece_148 : decode cX7_piece 148 = .ok (.aload_n 0, 1) := by decide +kernel
theorem dX7_piece_149 : decode cX7_piece 149 = .ok (.getfield 151, 3) := by decide +kernel
theorem dX7_piece_152 : decode cX7_piece 152 = .ok (.iload_n 2, 1) := by decide +kernel
theorem dX7_piece_153 : decode cX7_piece 153 = .ok (.sipush 1000, 3) := by decide +kernel
theorem dX7_piece_156 : decode cX7_piece 156 = .ok (.irem, 1) := by decide +kernel
theorem dX7_piece_157 : decode cX7_piece 157 = .ok (.iastore, 1) := by decide +kernel
theorem dX7_piece_158 : decode cX7_piece 158 = .ok (.aload_n 0, 1) := by decide +kernel
theorem dX7_piece_159 : decode cX7_piece 159 = .ok (.getfield 32, 3) := by decide +kernel
theorem dX7_piece_162 : decode cX7_piece 162 = .ok (.aload_n 0, 1) := by decide +kernel
theorem dX7_piece_163 : decode cX7_piece 163 = .ok (.getfield 151, 3) := by decide +kernel
theorem dX7_piece_166 : decode cX7_piece 166 = .ok (.iload_n 3, 1) := by decide +kernel
theorem dX7_piece_167 : decode cX7_piece 167 = .ok (.iconst 1, 1) := by decide +kernel
theorem dX7_piece_168 : decode cX7_piece 168 = .ok (.if_icmp .ne 7, 3) := by decide +kernel
theorem dX7_piece_171 : decode cX7_piece 171 = .ok (.iconst 1, 1) := by decide +kernel
theorem dX7_piece_172 : decode cX7_piece 172 = .ok (.goto 4, 3) := by decide +kernel
theorem dX7_piece_175 : decode cX7_piece 175 = .ok (.iconst 0, 1) := by decide +kernel
theorem dX7_piece_176 : decode cX7_piece 176 = .ok (.bastore, 1) := by decide +kernel
theorem dX7_piece_177 : decode cX7_piece 177 = .ok (.aload_n 0, 1) := by decide +kernel
theorem dX7_piece_178 : decode cX7_piece 178 = .ok (.getfield 35, 3) := by decide +kernel
theorem dX7_piece_181 : decode cX7_piece 181 = .ok (.aload_n 0, 1) := by decide +kernel
theorem dX7_piece_182 : decode cX7_piece 182 = .ok (.getfield 151, 3) := by decide +kernel
theorem dX7_piece_185 : decode cX7_piece 185 = .ok (.iload 4, 2) := by decide +kernel
theorem dX7_piece_187 : decode cX7_piece 187 = .ok (.iastore, 1) := by decide +kernel
theorem dX7_piece_188 : decode cX7_piece 188 = .ok (.aload_n 0, 1) := by decide +kernel
theorem dX7_piece_189 : decode cX7_piece 189 = .ok (.dup, 1) := by decide +kernel
theorem dX7_piece_190 : decode cX7_piece 190 = .ok (.getfield 151, 3) := by decide +kernel
theorem dX7_piece_193 : decode cX7_piece 193 = .ok (.iconst 1, 1) := by decide +kernel
theorem dX7_piece_194 : decode cX7_piece 194 = .ok (.iadd, 1) := by decide +kernel
theorem dX7_piece_195 : decode cX7_piece 195 = .ok (.putfield 151, 3) := by decide +kernel
theorem dX7_piece_198 : decode cX7_piece 198 = .ok (.aload_n 0, 1) := by decide +kernel
theorem dX7_piece_199 : decode cX7_piece 199 = .ok (.getfield 151, 3) := by decide +kernel
theorem dX7_piece_202 : decode cX7_piece 202 = .ok (.iconst 1, 1) := by decide +kernel
theorem dX7_piece_203 : decode cX7_piece 203 = .ok (.isub, 1) := by decide +kernel
theorem dX7_piece_204 : decode cX7_piece 204 = .ok (.ireturn, 1) := by decide +kernel
theorem dX7_block_0 : decode cX7_block 0 = .ok (.aload_n 0, 1) := by decide +kernel
theorem dX7_block_1 : decode cX7_block 1 = .ok (.iload_n 1, 1) := by decide +kernel
theorem dX7_block_2 : decode cX7_block 2 = .ok (.invokevirtual 155, 3) := by decide +kernel
theorem dX7_block_5 : decode cX7_block 5 = .ok (.ifCond .eq 34, 3) := by decide +kernel
theorem dX7_block_8 : decode cX7_block 8 = .ok (.iload_n 2, 1) := by decide +kernel
theorem dX7_block_9 : decode cX7_block 9 = .ok (.iconst 1, 1) := by decide +kernel
theorem dX7_block_10 : decode cX7_block 10 = .ok (.bipush 64, 2) := by decide +kernel
theorem dX7_block_12 : decode cX7_block 12 = .ok (.invokestatic 130, 3) := by decide +kernel
theorem dX7_block_15 : decode cX7_block 15 = .ok (.ifCond .eq 24, 3) := by decide +kernel
theorem dX7_block_18 : decode cX7_block 18 = .ok (.iload_n 3, 1) := by decide +kernel
theorem dX7_block_19 : decode cX7_block 19 = .ok (.iconst 0, 1) := by decide +kernel
theorem dX7_block_20 : decode cX7_block 20 = .ok (.iconst 3, 1) := by decide +kernel
theorem dX7_block_21 : decode cX7_block 21 = .ok (.invokestatic 130, 3) := by decide +kernel
theorem dX7_block_24 : decode cX7_block 24 = .ok (.ifCond .eq 15, 3) := by decide +kernel
theorem dX7_block_27 : decode cX7_block 27 = .ok (.iload 4, 2) := by decide +kernel
theorem dX7_block_29 : decode cX7_block 29 = .ok (.iconst 0, 1) := by decide +kernel
theorem dX7_block_30 : decode cX7_block 30 = .ok (.sipush 255, 3) := by decide +kernel
theorem dX7_block_33 : decode cX7_block 33 = .ok (.invokestatic 130, 3) := by decide +kernel
theorem dX7_block_36 : decode cX7_block 36 = .ok (.ifCond .ne 5, 3) := by decide +kernel
theorem dX7_block_39 : decode cX7_block 39 = .ok (.iconst (-1), 1) := by decide +kernel
theorem dX7_block_40 : decode cX7_block 40 = .ok (.ireturn, 1) := by decide +kernel
theorem dX7_block_41 : decode cX7_block 41 = .ok (.aload_n 0, 1) := by decide +kernel
theorem dX7_block_42 : decode cX7_block 42 = .ok (.getfield 38, 3) := by decide +kernel
theorem dX7_block_45 : decode cX7_block 45 = .ok (.iload_n 1, 1) := by decide +kernel
theorem dX7_block_46 : decode cX7_block 46 = .ok (.iaload, 1) := by decide +kernel
theorem dX7_block_47 : decode cX7_block 47 = .ok (.bipush 8, 2) := by decide +kernel
theorem dX7_block_49 : decode cX7_block 49 = .ok (.if_icmp .ne 6, 3) := by decide +kernel
theorem dX7_block_52 : decode cX7_block 52 = .ok (.bipush (-3), 2) := by decide +kernel
theorem dX7_block_54 : decode cX7_block 54 = .ok (.ireturn, 1) := by decide +kernel
theorem dX7_block_55 : decode cX7_block 55 = .ok (.bipush 8, 2) := by decide +kernel
theorem dX7_block_57 : decode cX7_block 57 = .ok (.iload_n 1, 1) := by decide +kernel
theorem dX7_block_58 : decode cX7_block 58 = .ok (.imul, 1) := by decide +kernel
theorem dX7_block_59 : decode cX7_block 59 = .ok (.aload_n 0, 1) := by decide +kernel
theorem dX7_block_60 : decode cX7_block 60 = .ok (.getfield 38, 3) := by decide +kernel
theorem dX7_block_63 : decode cX7_block 63 = .ok (.iload_n 1, 1) := by decide +kernel
theorem dX7_block_64 : decode cX7_block 64 = .ok (.iaload, 1) := by decide +kernel
theorem dX7_block_65 : decode cX7_block 65 = .ok (.iadd, 1) := by decide +kernel
theorem dX7_block_66 : decode cX7_block 66 = .ok (.istore 5, 2) := by decide +kernel
theorem dX7_block_68 : decode cX7_block 68 = .ok (.aload_n 0, 1) := by decide +kernel
theorem dX7_block_69 : decode cX7_block 69 = .ok (.getfield 41, 3) := by decide +kernel
theorem dX7_block_72 : decode cX7_block 72 = .ok (.iload 5, 2) := by decide +kernel
theorem dX7_block_74 : decode cX7_block 74 = .ok (.iload_n 2, 1) := by decide +kernel
theorem dX7_block_75 : decode cX7_block 75 = .ok (.iastore, 1) := by decide +kernel
theorem dX7_block_76 : decode cX7_block 76 = .ok (.aload_n 0, 1) := by decide +kernel
theorem dX7_block_77 : decode cX7_block 77 = .ok (.getfield 44, 3) := by decide +kernel
theorem dX7_block_80 : decode cX7_block 80 = .ok (.iload 5, 2) := by decide +kernel
theorem dX7_block_82 : decode cX7_block 82 = .ok (.iload_n 3, 1) := by decide +kernel
theorem dX7_block_83 : decode cX7_block 83 = .ok (.iastore, 1) := by decide +kernel
theorem dX7_block_84 : decode cX7_block 84 = .ok (.aload_n 0, 1) := by decide +kernel
theorem dX7_block_85 : decode cX7_block 85 = .ok (.getfield 47, 3) := by decide +kernel
theorem dX7_block_88 : decode cX7_block 88 = .ok (.iload 5, 2) := by decide +kernel
theorem dX7_block_90 : decode cX7_block 90 = .ok (.iload 4, 2) := by decide +kernel
theorem dX7_block_92 : decode cX7_block 92 = .ok (.iastore, 1) := by decide +kernel
theorem dX7_block_93 : decode cX7_block 93 = .ok (.aload_n 0, 1) := by decide +kernel
theorem dX7_block_94 : decode cX7_block 94 = .ok (.getfield 38, 3) := by decide +kernel
theorem dX7_block_97 : decode cX7_block 97 = .ok (.iload_n 1, 1) := by decide +kernel
theorem dX7_block_98 : decode cX7_block 98 = .ok (.dup2, 1) := by decide +kernel
theorem dX7_block_99 : decode cX7_block 99 = .ok (.iaload, 1) := by decide +kernel
theorem dX7_block_100 : decode cX7_block 100 = .ok (.iconst 1, 1) := by decide +kernel
theorem dX7_block_101 : decode cX7_block 101 = .ok (.iadd, 1) := by decide +kernel
theorem dX7_block_102 : decode cX7_block 102 = .ok (.iastore, 1) := by decide +kernel
theorem dX7_block_103 : decode cX7_block 103 = .ok (.aload_n 0, 1) := by decide +kernel
theorem dX7_block_104 : decode cX7_block 104 = .ok (.getfield 38, 3) := by decide +kernel
theorem dX7_block_107 : decode cX7_block 107 = .ok (.iload_n 1, 1) := by decide +kernel
theorem dX7_block_108 : decode cX7_block 108 = .ok (.iaload, 1) := by decide +kernel
theorem dX7_block_109 : decode cX7_block 109 = .ok (.iconst 1, 1) := by decide +kernel
theorem dX7_block_110 : decode cX7_block 110 = .ok (.isub, 1) := by decide +kernel
theorem dX7_block_111 : decode cX7_block 111 = .ok (.ireturn, 1) := by decide +kernel
theorem dX7_at_0 : decode cX7_at 0 = .ok (.sipush 3208, 3) := by decide +kernel
theorem dX7_at_3 : decode cX7_at 3 = .ok (.iload_n 0, 1) := by decide +kernel
theorem dX7_at_4 : decode cX7_at 4 = .ok (.imul, 1) := by decide +kernel
theorem dX7_at_5 : decode cX7_at 5 = .ok (.sipush 401, 3) := by decide +kernel
theorem dX7_at_8 : decode cX7_at 8 = .ok (.iload_n 1, 1) := by decide +kernel
theorem dX7_at_9 : decode cX7_at 9 = .ok (.imul, 1) := by decide +kernel
theorem dX7_at_10 : decode cX7_at 10 = .ok (.iadd, 1) := by decide +kernel
theorem dX7_at_11 : decode cX7_at 11 = .ok (.iload_n 2, 1) := by decide +kernel
theorem dX7_at_12 : decode cX7_at 12 = .ok (.iadd, 1) := by decide +kernel
theorem dX7_at_13 : decode cX7_at 13 = .ok (.ireturn, 1) := by decide +kernel
theorem dX7_findWays_0 : decode cX7_findWays 0 = .ok (.iconst 1, 1) := by decide +kernel
theorem dX7_findWays_1 : decode cX7_findWays 1 = .ok (.istore_n 2, 1) := by decide +kernel
theorem dX7_findWays_2 : decode cX7_findWays 2 = .ok (.iload_n 2, 1) := by decide +kernel
theorem dX7_findWays_3 : decode cX7_findWays 3 = .ok (.bipush 16, 2) := by decide +kernel
theorem dX7_findWays_5 : decode cX7_findWays 5 = .ok (.if_icmp .gt 192, 3) := by decide +kernel
theorem dX7_findWays_8 : decode cX7_findWays 8 = .ok (.iconst 0, 1) := by decide +kernel
theorem dX7_findWays_9 : decode cX7_findWays 9 = .ok (.istore_n 3, 1) := by decide +kernel
theorem dX7_findWays_10 : decode cX7_findWays 10 = .ok (.iload_n 3, 1) := by decide +kernel
theorem dX7_findWays_11 : decode cX7_findWays 11 = .ok (.aload_n 0, 1) := by decide +kernel
theorem dX7_findWays_12 : decode cX7_findWays 12 = .ok (.getfield 38, 3) := by decide +kernel
theorem dX7_findWays_15 : decode cX7_findWays 15 = .ok (.iload_n 1, 1) := by decide +kernel
theorem dX7_findWays_16 : decode cX7_findWays 16 = .ok (.iaload, 1) := by decide +kernel
theorem dX7_findWays_17 : decode cX7_findWays 17 = .ok (.if_icmp .ge 174, 3) := by decide +kernel
theorem dX7_findWays_20 : decode cX7_findWays 20 = .ok (.aload_n 0, 1) := by decide +kernel
theorem dX7_findWays_21 : decode cX7_findWays 21 = .ok (.getfield 41, 3) := by decide +kernel
theorem dX7_findWays_24 : decode cX7_findWays 24 = .ok (.bipush 8, 2) := by decide +kernel
theorem dX7_findWays_26 : decode cX7_findWays 26 = .ok (.iload_n 1, 1) := by decide +kernel
theorem dX7_findWays_27 : decode cX7_findWays 27 = .ok (.imul, 1) := by decide +kernel
theorem dX7_findWays_28 : decode cX7_findWays 28 = .ok (.iload_n 3, 1) := by decide +kernel
theorem dX7_findWays_29 : decode cX7_findWays 29 = .ok (.iadd, 1) := by decide +kernel
theorem dX7_findWays_30 : decode cX7_findWays 30 = .ok (.iaload, 1) := by decide +kernel
theorem dX7_findWays_31 : decode cX7_findWays 31 = .ok (.istore 4, 2) := by decide +kernel
theorem dX7_findWays_33 : decode cX7_findWays 33 = .ok (.iconst 0, 1) := by decide +kernel
theorem dX7_findWays_34 : decode cX7_findWays 34 = .ok (.istore 5, 2) := by decide +kernel
theorem dX7_findWays_36 : decode cX7_findWays 36 = .ok (.iload 5, 2) := by decide +kernel
theorem dX7_findWays_38 : decode cX7_findWays 38 = .ok (.sipush 400, 3) := by decide +kernel
theorem dX7_findWays_41 : decode cX7_findWays 41 = .ok (.if_icmp .gt 144, 3) := by decide +kernel
theorem dX7_findWays_44 : decode cX7_findWays 44 = .ok (.iload_n 2, 1) := by decide +kernel
theorem dX7_findWays_45 : decode cX7_findWays 45 = .ok (.iconst 1, 1) := by decide +kernel
theorem dX7_findWays_46 : decode cX7_findWays 46 = .ok (.if_icmp .ne 31, 3) := by decide +kernel
theorem dX7_findWays_49 : decode cX7_findWays 49 = .ok (.iload 5, 2) := by decide +kernel
theorem dX7_findWays_51 : decode cX7_findWays 51 = .ok (.iload 4, 2) := by decide +kernel
theorem dX7_findWays_53 : decode cX7_findWays 53 = .ok (.if_icmp .ne 24, 3) := by decide +kernel
theorem dX7_findWays_56 : decode cX7_findWays 56 = .ok (.aload_n 0, 1) := by decide +kernel
theorem dX7_findWays_57 : decode cX7_findWays 57 = .ok (.getfield 44, 3) := by decide +kernel
theorem dX7_findWays_60 : decode cX7_findWays 60 = .ok (.bipush 8, 2) := by decide +kernel
theorem dX7_findWays_62 : decode cX7_findWays 62 = .ok (.iload_n 1, 1) := by decide +kernel
theorem dX7_findWays_63 : decode cX7_findWays 63 = .ok (.imul, 1) := by decide +kernel
theorem dX7_findWays_64 : decode cX7_findWays 64 = .ok (.iload_n 3, 1) := by decide +kernel
theorem dX7_findWays_65 : decode cX7_findWays 65 = .ok (.iadd, 1) := by decide +kernel
theorem dX7_findWays_66 : decode cX7_findWays 66 = .ok (.iaload, 1) := by decide +kernel
theorem dX7_findWays_67 : decode cX7_findWays 67 = .ok (.iconst 1, 1) := by decide +kernel
theorem dX7_findWays_68 : decode cX7_findWays 68 = .ok (.iand, 1) := by decide +kernel
theorem dX7_findWays_69 : decode cX7_findWays 69 = .ok (.iconst 1, 1) := by decide +kernel
theorem dX7_findWays_70 : decode cX7_findWays 70 = .ok (.if_icmp .ne 7, 3) := by decide +kernel
theorem dX7_findWays_73 : decode cX7_findWays 73 = .ok (.iconst 1, 1) := by decide +kernel
theorem dX7_findWays_74 : decode cX7_findWays 74 = .ok (.goto 4, 3) := by decide +kernel
theorem dX7_findWays_77 : decode cX7_findWays 77 = .ok (.iconst 0, 1) := by decide +kernel
theorem dX7_findWays_78 : decode cX7_findWays 78 = .ok (.istore 6, 2) := by decide +kernel
theorem dX7_findWays_80 : decode cX7_findWays 80 = .ok (.iconst 0, 1) := by decide +kernel
theorem dX7_findWays_81 : decode cX7_findWays 81 = .ok (.istore 7, 2) := by decide +kernel
theorem dX7_findWays_83 : decode cX7_findWays 83 = .ok (.iload 7, 2) := by decide +kernel
theorem dX7_findWays_85 : decode cX7_findWays 85 = .ok (.aload_n 0, 1) := by decide +kernel
theorem dX7_findWays_86 : decode cX7_findWays 86 = .ok (.getfield 38, 3) := by decide +kernel
theorem dX7_findWays_89 : decode cX7_findWays 89 = .ok (.iload_n 1, 1) := by decide +kernel
theorem dX7_findWays_90 : decode cX7_findWays 90 = .ok (.iaload, 1) := by decide +kernel
theorem dX7_findWays_91 : decode cX7_findWays 91 = .ok (.if_icmp .ge 74, 3) := by decide +kernel
theorem dX7_findWays_94 : decode cX7_findWays 94 = .ok (.iload_n 2, 1) := by decide +kernel
theorem dX7_findWays_95 : decode cX7_findWays 95 = .ok (.iconst 1, 1) := by decide +kernel
theorem dX7_findWays_96 : decode cX7_findWays 96 = .ok (.if_icmp .le 69, 3) := by decide +kernel
theorem dX7_findWays_99 : decode cX7_findWays 99 = .ok (.iload 5, 2) := by decide +kernel
theorem dX7_findWays_101 : decode cX7_findWays 101 = .ok (.iload 4, 2) := by decide +kernel
theorem dX7_findWays_103 : decode cX7_findWays 103 = .ok (.if_icmp .le 62, 3) := by decide +kernel
theorem dX7_findWays_106 : decode cX7_findWays 106 = .ok (.iload 6, 2) := by decide +kernel
theorem dX7_findWays_108 : decode cX7_findWays 108 = .ok (.ifCond .ne 57, 3) := by decide +kernel
theorem dX7_findWays_111 : decode cX7_findWays 111 = .ok (.aload_n 0, 1) := by decide +kernel
theorem dX7_findWays_112 : decode cX7_findWays 112 = .ok (.getfield 47, 3) := by decide +kernel
theorem dX7_findWays_115 : decode cX7_findWays 115 = .ok (.bipush 8, 2) := by decide +kernel
theorem dX7_findWays_117 : decode cX7_findWays 117 = .ok (.iload_n 1, 1) := by decide +kernel
theorem dX7_findWays_118 : decode cX7_findWays 118 = .ok (.imul, 1) := by decide +kernel
theorem dX7_findWays_119 : decode cX7_findWays 119 = .ok (.iload_n 3, 1) := by decide +kernel
theorem dX7_findWays_120 : decode cX7_findWays 120 = .ok (.iadd, 1) := by decide +kernel
theorem dX7_findWays_121 : decode cX7_findWays 121 = .ok (.iaload, 1) := by decide +kernel
theorem dX7_findWays_122 : decode cX7_findWays 122 = .ok (.iload 7, 2) := by decide +kernel
theorem dX7_findWays_124 : decode cX7_findWays 124 = .ok (.ishr, 1) := by decide +kernel
theorem dX7_findWays_125 : decode cX7_findWays 125 = .ok (.iconst 1, 1) := by decide +kernel
theorem dX7_findWays_126 : decode cX7_findWays 126 = .ok (.iand, 1) := by decide +kernel
theorem dX7_findWays_127 : decode cX7_findWays 127 = .ok (.iconst 1, 1) := by decide +kernel
theorem dX7_findWays_128 : decode cX7_findWays 128 = .ok (.if_icmp .ne 28, 3) := by decide +kernel
theorem dX7_findWays_131 : decode cX7_findWays 131 = .ok (.aload_n 0, 1) := by decide +kernel
theorem dX7_findWays_132 : decode cX7_findWays 132 = .ok (.getfield 51, 3) := by decide +kernel
theorem dX7_findWays_135 : decode cX7_findWays 135 = .ok (.iload_n 2, 1) := by decide +kernel
theorem dX7_findWays_136 : decode cX7_findWays 136 = .ok (.iconst 1, 1) := by decide +kernel
theorem dX7_findWays_137 : decode cX7_findWays 137 = .ok (.isub, 1) := by decide +kernel
theorem dX7_findWays_138 : decode cX7_findWays 138 = .ok (.iload 7, 2) := by decide +kernel
theorem dX7_findWays_140 : decode cX7_findWays 140 = .ok (.iload 5, 2) := by decide +kernel
theorem dX7_findWays_142 : decode cX7_findWays 142 = .ok (.iload 4, 2) := by decide +kernel
theorem dX7_findWays_144 : decode cX7_findWays 144 = .ok (.isub, 1) := by decide +kernel
theorem dX7_findWays_145 : decode cX7_findWays 145 = .ok (.invokestatic 159, 3) := by decide +kernel
theorem dX7_findWays_148 : decode cX7_findWays 148 = .ok (.baload, 1) := by decide +kernel
theorem dX7_findWays_149 : decode cX7_findWays 149 = .ok (.ifCond .eq 7, 3) := by decide +kernel
theorem dX7_findWays_152 : decode cX7_findWays 152 = .ok (.iconst 1, 1) := by decide +kernel
theorem dX7_findWays_153 : decode cX7_findWays 153 = .ok (.goto 4, 3) := by decide +kernel
theorem dX7_findWays_156 : decode cX7_findWays 156 = .ok (.iconst 0, 1) := by decide +kernel
theorem dX7_findWays_157 : decode cX7_findWays 157 = .ok (.istore 6, 2) := by decide +kernel
theorem dX7_findWays_159 : decode cX7_findWays 159 = .ok (.iinc 7 1, 3) := by decide +kernel
theorem dX7_findWays_162 : decode cX7_findWays 162 = .ok (.goto (-79), 3) := by decide +kernel
theorem dX7_findWays_165 : decode cX7_findWays 165 = .ok (.aload_n 0, 1) := by decide +kernel
theorem dX7_findWays_166 : decode cX7_findWays 166 = .ok (.getfield 51, 3) := by decide +kernel
theorem dX7_findWays_169 : decode cX7_findWays 169 = .ok (.iload_n 2, 1) := by decide +kernel
theorem dX7_findWays_170 : decode cX7_findWays 170 = .ok (.iload_n 3, 1) := by decide +kernel
theorem dX7_findWays_171 : decode cX7_findWays 171 = .ok (.iload 5, 2) := by decide +kernel
theorem dX7_findWays_173 : decode cX7_findWays 173 = .ok (.invokestatic 159, 3) := by decide +kernel
theorem dX7_findWays_176 : decode cX7_findWays 176 = .ok (.iload 6, 2) := by decide +kernel
theorem dX7_findWays_178 : decode cX7_findWays 178 = .ok (.bastore, 1) := by decide +kernel
theorem dX7_findWays_179 : decode cX7_findWays 179 = .ok (.iinc 5 1, 3) := by decide +kernel
theorem dX7_findWays_182 : decode cX7_findWays 182 = .ok (.goto (-146), 3) := by decide +kernel
theorem dX7_findWays_185 : decode cX7_findWays 185 = .ok (.iinc 3 1, 3) := by decide +kernel
theorem dX7_findWays_188 : decode cX7_findWays 188 = .ok (.goto (-178), 3) := by decide +kernel
theorem dX7_findWays_191 : decode cX7_findWays 191 = .ok (.iinc 2 1, 3) := by decide +kernel
theorem dX7_findWays_194 : decode cX7_findWays 194 = .ok (.goto (-192), 3) := by decide +kernel
theorem dX7_findWays_197 : decode cX7_findWays 197 = .ok (.return_, 1) := by decide +kernel
theorem dX7_begins_0 : decode cX7_begins 0 = .ok (.aload_n 0, 1) := by decide +kernel
theorem dX7_begins_1 : decode cX7_begins 1 = .ok (.getfield 44, 3) := by decide +kernel
theorem dX7_begins_4 : decode cX7_begins 4 = .ok (.bipush 8, 2) := by decide +kernel
theorem dX7_begins_6 : decode cX7_begins 6 = .ok (.iload_n 1, 1) := by decide +kernel
theorem dX7_begins_7 : decode cX7_begins 7 = .ok (.imul, 1) := by decide +kernel
theorem dX7_begins_8 : decode cX7_begins 8 = .ok (.iload_n 2, 1) := by decide +kernel
theorem dX7_begins_9 : decode cX7_begins 9 = .ok (.iadd, 1) := by decide +kernel
theorem dX7_begins_10 : decode cX7_begins 10 = .ok (.iaload, 1) := by decide +kernel
theorem dX7_begins_11 : decode cX7_begins 11 = .ok (.iconst 2, 1) := by decide +kernel
theorem dX7_begins_12 : decode cX7_begins 12 = .ok (.if_icmp .lt 7, 3) := by decide +kernel
theorem dX7_begins_15 : decode cX7_begins 15 = .ok (.iconst 1, 1) := by decide +kernel
theorem dX7_begins_16 : decode cX7_begins 16 = .ok (.goto 4, 3) := by decide +kernel
theorem dX7_begins_19 : decode cX7_begins 19 = .ok (.iconst 0, 1) := by decide +kernel
theorem dX7_begins_20 : decode cX7_begins 20 = .ok (.ireturn, 1) := by decide +kernel
theorem dX7_wayFor_0 : decode cX7_wayFor 0 = .ok (.iconst 1, 1) := by decide +kernel
theorem dX7_wayFor_1 : decode cX7_wayFor 1 = .ok (.istore_n 3, 1) := by decide +kernel
theorem dX7_wayFor_2 : decode cX7_wayFor 2 = .ok (.iload_n 3, 1) := by decide +kernel
theorem dX7_wayFor_3 : decode cX7_wayFor 3 = .ok (.bipush 16, 2) := by decide +kernel
theorem dX7_wayFor_5 : decode cX7_wayFor 5 = .ok (.if_icmp .gt 200, 3) := by decide +kernel
theorem dX7_wayFor_8 : decode cX7_wayFor 8 = .ok (.iconst 0, 1) := by decide +kernel
theorem dX7_wayFor_9 : decode cX7_wayFor 9 = .ok (.istore 4, 2) := by decide +kernel
theorem dX7_wayFor_11 : decode cX7_wayFor 11 = .ok (.iload 4, 2) := by decide +kernel
theorem dX7_wayFor_13 : decode cX7_wayFor 13 = .ok (.aload_n 0, 1) := by decide +kernel
theorem dX7_wayFor_14 : decode cX7_wayFor 14 = .ok (.getfield 38, 3) := by decide +kernel
theorem dX7_wayFor_17 : decode cX7_wayFor 17 = .ok (.iload_n 1, 1) := by decide +kernel
theorem dX7_wayFor_18 : decode cX7_wayFor 18 = .ok (.iaload, 1) := by decide +kernel
theorem dX7_wayFor_19 : decode cX7_wayFor 19 = .ok (.if_icmp .ge 34, 3) := by decide +kernel
theorem dX7_wayFor_22 : decode cX7_wayFor 22 = .ok (.aload_n 0, 1) := by decide +kernel
theorem dX7_wayFor_23 : decode cX7_wayFor 23 = .ok (.iload_n 1, 1) := by decide +kernel
theorem dX7_wayFor_24 : decode cX7_wayFor 24 = .ok (.iload 4, 2) := by decide +kernel
theorem dX7_wayFor_26 : decode cX7_wayFor 26 = .ok (.invokevirtual 163, 3) := by decide +kernel
theorem dX7_wayFor_29 : decode cX7_wayFor 29 = .ok (.ifCond .eq 18, 3) := by decide +kernel
theorem dX7_wayFor_32 : decode cX7_wayFor 32 = .ok (.aload_n 0, 1) := by decide +kernel
theorem dX7_wayFor_33 : decode cX7_wayFor 33 = .ok (.getfield 51, 3) := by decide +kernel
theorem dX7_wayFor_36 : decode cX7_wayFor 36 = .ok (.iload_n 3, 1) := by decide +kernel
theorem dX7_wayFor_37 : decode cX7_wayFor 37 = .ok (.iload 4, 2) := by decide +kernel
theorem dX7_wayFor_39 : decode cX7_wayFor 39 = .ok (.iload_n 2, 1) := by decide +kernel
theorem dX7_wayFor_40 : decode cX7_wayFor 40 = .ok (.invokestatic 159, 3) := by decide +kernel
theorem dX7_wayFor_43 : decode cX7_wayFor 43 = .ok (.baload, 1) := by decide +kernel
theorem dX7_wayFor_44 : decode cX7_wayFor 44 = .ok (.ifCond .ne 9, 3) := by decide +kernel
theorem dX7_wayFor_47 : decode cX7_wayFor 47 = .ok (.iinc 4 1, 3) := by decide +kernel
theorem dX7_wayFor_50 : decode cX7_wayFor 50 = .ok (.goto (-39), 3) := by decide +kernel
theorem dX7_wayFor_53 : decode cX7_wayFor 53 = .ok (.iload 4, 2) := by decide +kernel
theorem dX7_wayFor_55 : decode cX7_wayFor 55 = .ok (.aload_n 0, 1) := by decide +kernel
theorem dX7_wayFor_56 : decode cX7_wayFor 56 = .ok (.getfield 38, 3) := by decide +kernel
theorem dX7_wayFor_59 : decode cX7_wayFor 59 = .ok (.iload_n 1, 1) := by decide +kernel
theorem dX7_wayFor_60 : decode cX7_wayFor 60 = .ok (.iaload, 1) := by decide +kernel
theorem dX7_wayFor_61 : decode cX7_wayFor 61 = .ok (.if_icmp .ne 6, 3) := by decide +kernel
theorem dX7_wayFor_64 : decode cX7_wayFor 64 = .ok (.goto 135, 3) := by decide +kernel
theorem dX7_wayFor_67 : decode cX7_wayFor 67 = .ok (.aload_n 0, 1) := by decide +kernel
theorem dX7_wayFor_68 : decode cX7_wayFor 68 = .ok (.iload_n 3, 1) := by decide +kernel
theorem dX7_wayFor_69 : decode cX7_wayFor 69 = .ok (.putfield 167, 3) := by decide +kernel
theorem dX7_wayFor_72 : decode cX7_wayFor 72 = .ok (.aload_n 0, 1) := by decide +kernel
theorem dX7_wayFor_73 : decode cX7_wayFor 73 = .ok (.getfield 54, 3) := by decide +kernel
theorem dX7_wayFor_76 : decode cX7_wayFor 76 = .ok (.iconst 0, 1) := by decide +kernel
theorem dX7_wayFor_77 : decode cX7_wayFor 77 = .ok (.iload 4, 2) := by decide +kernel
theorem dX7_wayFor_79 : decode cX7_wayFor 79 = .ok (.iastore, 1) := by decide +kernel
theorem dX7_wayFor_80 : decode cX7_wayFor 80 = .ok (.iload_n 2, 1) := by decide +kernel
theorem dX7_wayFor_81 : decode cX7_wayFor 81 = .ok (.istore 5, 2) := by decide +kernel
theorem dX7_wayFor_83 : decode cX7_wayFor 83 = .ok (.iconst 1, 1) := by decide +kernel
theorem dX7_wayFor_84 : decode cX7_wayFor 84 = .ok (.istore 6, 2) := by decide +kernel
theorem dX7_wayFor_86 : decode cX7_wayFor 86 = .ok (.iload 6, 2) := by decide +kernel
theorem dX7_wayFor_88 : decode cX7_wayFor 88 = .ok (.iload_n 3, 1) := by decide +kernel
theorem dX7_wayFor_89 : decode cX7_wayFor 89 = .ok (.if_icmp .ge 108, 3) := by decide +kernel
theorem dX7_wayFor_92 : decode cX7_wayFor 92 = .ok (.iload 5, 2) := by decide +kernel
theorem dX7_wayFor_94 : decode cX7_wayFor 94 = .ok (.aload_n 0, 1) := by decide +kernel
theorem dX7_wayFor_95 : decode cX7_wayFor 95 = .ok (.getfield 41, 3) := by decide +kernel
theorem dX7_wayFor_98 : decode cX7_wayFor 98 = .ok (.bipush 8, 2) := by decide +kernel
theorem dX7_wayFor_100 : decode cX7_wayFor 100 = .ok (.iload_n 1, 1) := by decide +kernel
theorem dX7_wayFor_101 : decode cX7_wayFor 101 = .ok (.imul, 1) := by decide +kernel
theorem dX7_wayFor_102 : decode cX7_wayFor 102 = .ok (.aload_n 0, 1) := by decide +kernel
theorem dX7_wayFor_103 : decode cX7_wayFor 103 = .ok (.getfield 54, 3) := by decide +kernel
theorem dX7_wayFor_106 : decode cX7_wayFor 106 = .ok (.iload 6, 2) := by decide +kernel
theorem dX7_wayFor_108 : decode cX7_wayFor 108 = .ok (.iconst 1, 1) := by decide +kernel
theorem dX7_wayFor_109 : decode cX7_wayFor 109 = .ok (.isub, 1) := by decide +kernel
theorem dX7_wayFor_110 : decode cX7_wayFor 110 = .ok (.iaload, 1) := by decide +kernel
theorem dX7_wayFor_111 : decode cX7_wayFor 111 = .ok (.iadd, 1) := by decide +kernel
theorem dX7_wayFor_112 : decode cX7_wayFor 112 = .ok (.iaload, 1) := by decide +kernel
theorem dX7_wayFor_113 : decode cX7_wayFor 113 = .ok (.isub, 1) := by decide +kernel
theorem dX7_wayFor_114 : decode cX7_wayFor 114 = .ok (.istore 5, 2) := by decide +kernel
theorem dX7_wayFor_116 : decode cX7_wayFor 116 = .ok (.iconst 0, 1) := by decide +kernel
theorem dX7_wayFor_117 : decode cX7_wayFor 117 = .ok (.istore 7, 2) := by decide +kernel
theorem dX7_wayFor_119 : decode cX7_wayFor 119 = .ok (.iload 7, 2) := by decide +kernel
theorem dX7_wayFor_121 : decode cX7_wayFor 121 = .ok (.aload_n 0, 1) := by decide +kernel
theorem dX7_wayFor_122 : decode cX7_wayFor 122 = .ok (.getfield 38, 3) := by decide +kernel
theorem dX7_wayFor_125 : decode cX7_wayFor 125 = .ok (.iload_n 1, 1) := by decide +kernel
theorem dX7_wayFor_126 : decode cX7_wayFor 126 = .ok (.iaload, 1) := by decide +kernel
theorem dX7_wayFor_127 : decode cX7_wayFor 127 = .ok (.if_icmp .ge 55, 3) := by decide +kernel
theorem dX7_wayFor_130 : decode cX7_wayFor 130 = .ok (.aload_n 0, 1) := by decide +kernel
theorem dX7_wayFor_131 : decode cX7_wayFor 131 = .ok (.getfield 47, 3) := by decide +kernel
theorem dX7_wayFor_134 : decode cX7_wayFor 134 = .ok (.bipush 8, 2) := by decide +kernel
theorem dX7_wayFor_136 : decode cX7_wayFor 136 = .ok (.iload_n 1, 1) := by decide +kernel
theorem dX7_wayFor_137 : decode cX7_wayFor 137 = .ok (.imul, 1) := by decide +kernel
theorem dX7_wayFor_138 : decode cX7_wayFor 138 = .ok (.aload_n 0, 1) := by decide +kernel
theorem dX7_wayFor_139 : decode cX7_wayFor 139 = .ok (.getfield 54, 3) := by decide +kernel
theorem dX7_wayFor_142 : decode cX7_wayFor 142 = .ok (.iload 6, 2) := by decide +kernel
theorem dX7_wayFor_144 : decode cX7_wayFor 144 = .ok (.iconst 1, 1) := by decide +kernel
theorem dX7_wayFor_145 : decode cX7_wayFor 145 = .ok (.isub, 1) := by decide +kernel
theorem dX7_wayFor_146 : decode cX7_wayFor 146 = .ok (.iaload, 1) := by decide +kernel
theorem dX7_wayFor_147 : decode cX7_wayFor 147 = .ok (.iadd, 1) := by decide +kernel
theorem dX7_wayFor_148 : decode cX7_wayFor 148 = .ok (.iaload, 1) := by decide +kernel
theorem dX7_wayFor_149 : decode cX7_wayFor 149 = .ok (.iload 7, 2) := by decide +kernel
theorem dX7_wayFor_151 : decode cX7_wayFor 151 = .ok (.ishr, 1) := by decide +kernel
theorem dX7_wayFor_152 : decode cX7_wayFor 152 = .ok (.iconst 1, 1) := by decide +kernel
theorem dX7_wayFor_153 : decode cX7_wayFor 153 = .ok (.iand, 1) := by decide +kernel
theorem dX7_wayFor_154 : decode cX7_wayFor 154 = .ok (.ifCond .eq 22, 3) := by decide +kernel
theorem dX7_wayFor_157 : decode cX7_wayFor 157 = .ok (.aload_n 0, 1) := by decide +kernel
theorem dX7_wayFor_158 : decode cX7_wayFor 158 = .ok (.getfield 51, 3) := by decide +kernel
theorem dX7_wayFor_161 : decode cX7_wayFor 161 = .ok (.iload_n 3, 1) := by decide +kernel
theorem dX7_wayFor_162 : decode cX7_wayFor 162 = .ok (.iload 6, 2) := by decide +kernel
theorem dX7_wayFor_164 : decode cX7_wayFor 164 = .ok (.isub, 1) := by decide +kernel
theorem dX7_wayFor_165 : decode cX7_wayFor 165 = .ok (.iload 7, 2) := by decide +kernel
theorem dX7_wayFor_167 : decode cX7_wayFor 167 = .ok (.iload 5, 2) := by decide +kernel
theorem dX7_wayFor_169 : decode cX7_wayFor 169 = .ok (.invokestatic 159, 3) := by decide +kernel
theorem dX7_wayFor_172 : decode cX7_wayFor 172 = .ok (.baload, 1) := by decide +kernel
theorem dX7_wayFor_173 : decode cX7_wayFor 173 = .ok (.ifCond .ne 9, 3) := by decide +kernel
theorem dX7_wayFor_176 : decode cX7_wayFor 176 = .ok (.iinc 7 1, 3) := by decide +kernel
theorem dX7_wayFor_179 : decode cX7_wayFor 179 = .ok (.goto (-60), 3) := by decide +kernel
theorem dX7_wayFor_182 : decode cX7_wayFor 182 = .ok (.aload_n 0, 1) := by decide +kernel
theorem dX7_wayFor_183 : decode cX7_wayFor 183 = .ok (.getfield 54, 3) := by decide +kernel
theorem dX7_wayFor_186 : decode cX7_wayFor 186 = .ok (.iload 6, 2) := by decide +kernel
theorem dX7_wayFor_188 : decode cX7_wayFor 188 = .ok (.iload 7, 2) := by decide +kernel
theorem dX7_wayFor_190 : decode cX7_wayFor 190 = .ok (.iastore, 1) := by decide +kernel
theorem dX7_wayFor_191 : decode cX7_wayFor 191 = .ok (.iinc 6 1, 3) := by decide +kernel
theorem dX7_wayFor_194 : decode cX7_wayFor 194 = .ok (.goto (-108), 3) := by decide +kernel
theorem dX7_wayFor_197 : decode cX7_wayFor 197 = .ok (.iload_n 3, 1) := by decide +kernel
theorem dX7_wayFor_198 : decode cX7_wayFor 198 = .ok (.ireturn, 1) := by decide +kernel
theorem dX7_wayFor_199 : decode cX7_wayFor 199 = .ok (.iinc 3 1, 3) := by decide +kernel
theorem dX7_wayFor_202 : decode cX7_wayFor 202 = .ok (.goto (-200), 3) := by decide +kernel
theorem dX7_wayFor_205 : decode cX7_wayFor 205 = .ok (.bipush (-2), 2) := by decide +kernel
theorem dX7_wayFor_207 : decode cX7_wayFor 207 = .ok (.ireturn, 1) := by decide +kernel
theorem dX7_hasWay_0 : decode cX7_hasWay 0 = .ok (.iconst 1, 1) := by decide +kernel
theorem dX7_hasWay_1 : decode cX7_hasWay 1 = .ok (.istore_n 3, 1) := by decide +kernel
theorem dX7_hasWay_2 : decode cX7_hasWay 2 = .ok (.iload_n 3, 1) := by decide +kernel
theorem dX7_hasWay_3 : decode cX7_hasWay 3 = .ok (.bipush 16, 2) := by decide +kernel
theorem dX7_hasWay_5 : decode cX7_hasWay 5 = .ok (.if_icmp .gt 56, 3) := by decide +kernel
theorem dX7_hasWay_8 : decode cX7_hasWay 8 = .ok (.iconst 0, 1) := by decide +kernel
theorem dX7_hasWay_9 : decode cX7_hasWay 9 = .ok (.istore 4, 2) := by decide +kernel
theorem dX7_hasWay_11 : decode cX7_hasWay 11 = .ok (.iload 4, 2) := by decide +kernel
theorem dX7_hasWay_13 : decode cX7_hasWay 13 = .ok (.aload_n 0, 1) := by decide +kernel
theorem dX7_hasWay_14 : decode cX7_hasWay 14 = .ok (.getfield 38, 3) := by decide +kernel
theorem dX7_hasWay_17 : decode cX7_hasWay 17 = .ok (.iload_n 1, 1) := by decide +kernel
theorem dX7_hasWay_18 : decode cX7_hasWay 18 = .ok (.iaload, 1) := by decide +kernel
theorem dX7_hasWay_19 : decode cX7_hasWay 19 = .ok (.if_icmp .ge 36, 3) := by decide +kernel
theorem dX7_hasWay_22 : decode cX7_hasWay 22 = .ok (.aload_n 0, 1) := by decide +kernel
theorem dX7_hasWay_23 : decode cX7_hasWay 23 = .ok (.iload_n 1, 1) := by decide +kernel
theorem dX7_hasWay_24 : decode cX7_hasWay 24 = .ok (.iload 4, 2) := by decide +kernel
theorem dX7_hasWay_26 : decode cX7_hasWay 26 = .ok (.invokevirtual 163, 3) := by decide +kernel
theorem dX7_hasWay_29 : decode cX7_hasWay 29 = .ok (.ifCond .eq 20, 3) := by decide +kernel
theorem dX7_hasWay_32 : decode cX7_hasWay 32 = .ok (.aload_n 0, 1) := by decide +kernel
theorem dX7_hasWay_33 : decode cX7_hasWay 33 = .ok (.getfield 51, 3) := by decide +kernel
theorem dX7_hasWay_36 : decode cX7_hasWay 36 = .ok (.iload_n 3, 1) := by decide +kernel
theorem dX7_hasWay_37 : decode cX7_hasWay 37 = .ok (.iload 4, 2) := by decide +kernel
theorem dX7_hasWay_39 : decode cX7_hasWay 39 = .ok (.iload_n 2, 1) := by decide +kernel
theorem dX7_hasWay_40 : decode cX7_hasWay 40 = .ok (.invokestatic 159, 3) := by decide +kernel
theorem dX7_hasWay_43 : decode cX7_hasWay 43 = .ok (.baload, 1) := by decide +kernel
theorem dX7_hasWay_44 : decode cX7_hasWay 44 = .ok (.ifCond .eq 5, 3) := by decide +kernel
theorem dX7_hasWay_47 : decode cX7_hasWay 47 = .ok (.iconst 1, 1) := by decide +kernel
theorem dX7_hasWay_48 : decode cX7_hasWay 48 = .ok (.ireturn, 1) := by decide +kernel
theorem dX7_hasWay_49 : decode cX7_hasWay 49 = .ok (.iinc 4 1, 3) := by decide +kernel
theorem dX7_hasWay_52 : decode cX7_hasWay 52 = .ok (.goto (-41), 3) := by decide +kernel
theorem dX7_hasWay_55 : decode cX7_hasWay 55 = .ok (.iinc 3 1, 3) := by decide +kernel
theorem dX7_hasWay_58 : decode cX7_hasWay 58 = .ok (.goto (-56), 3) := by decide +kernel
theorem dX7_hasWay_61 : decode cX7_hasWay 61 = .ok (.iconst 0, 1) := by decide +kernel
theorem dX7_hasWay_62 : decode cX7_hasWay 62 = .ok (.ireturn, 1) := by decide +kernel
theorem dX7_way_0 : decode cX7_way 0 = .ok (.aload_n 0, 1) := by decide +kernel
theorem dX7_way_1 : decode cX7_way 1 = .ok (.iload_n 1, 1) := by decide +kernel
theorem dX7_way_2 : decode cX7_way 2 = .ok (.invokevirtual 155, 3) := by decide +kernel
theorem dX7_way_5 : decode cX7_way 5 = .ok (.ifCond .eq 14, 3) := by decide +kernel
theorem dX7_way_8 : decode cX7_way 8 = .ok (.iload_n 2, 1) := by decide +kernel
theorem dX7_way_9 : decode cX7_way 9 = .ok (.iconst 1, 1) := by decide +kernel
theorem dX7_way_10 : decode cX7_way 10 = .ok (.sipush 400, 3) := by decide +kernel
theorem dX7_way_13 : decode cX7_way 13 = .ok (.invokestatic 130, 3) := by decide +kernel
theorem dX7_way_16 : decode cX7_way 16 = .ok (.ifCond .ne 5, 3) := by decide +kernel
theorem dX7_way_19 : decode cX7_way 19 = .ok (.iconst (-1), 1) := by decide +kernel
theorem dX7_way_20 : decode cX7_way 20 = .ok (.ireturn, 1) := by decide +kernel
theorem dX7_way_21 : decode cX7_way 21 = .ok (.aload_n 0, 1) := by decide +kernel
theorem dX7_way_22 : decode cX7_way 22 = .ok (.iload_n 1, 1) := by decide +kernel
theorem dX7_way_23 : decode cX7_way 23 = .ok (.invokevirtual 170, 3) := by decide +kernel
theorem dX7_way_26 : decode cX7_way 26 = .ok (.aload_n 0, 1) := by decide +kernel
theorem dX7_way_27 : decode cX7_way 27 = .ok (.iload_n 1, 1) := by decide +kernel
theorem dX7_way_28 : decode cX7_way 28 = .ok (.iload_n 2, 1) := by decide +kernel
theorem dX7_way_29 : decode cX7_way 29 = .ok (.invokevirtual 174, 3) := by decide +kernel
theorem dX7_way_32 : decode cX7_way 32 = .ok (.ireturn, 1) := by decide +kernel
theorem dX7_along_0 : decode cX7_along 0 = .ok (.aload_n 0, 1) := by decide +kernel
theorem dX7_along_1 : decode cX7_along 1 = .ok (.iload_n 1, 1) := by decide +kernel
theorem dX7_along_2 : decode cX7_along 2 = .ok (.invokevirtual 155, 3) := by decide +kernel
theorem dX7_along_5 : decode cX7_along 5 = .ok (.ifCond .eq 14, 3) := by decide +kernel
theorem dX7_along_8 : decode cX7_along 8 = .ok (.iload_n 2, 1) := by decide +kernel
theorem dX7_along_9 : decode cX7_along 9 = .ok (.iconst 1, 1) := by decide +kernel
theorem dX7_along_10 : decode cX7_along 10 = .ok (.sipush 400, 3) := by decide +kernel
theorem dX7_along_13 : decode cX7_along 13 = .ok (.invokestatic 130, 3) := by decide +kernel
theorem dX7_along_16 : decode cX7_along 16 = .ok (.ifCond .ne 5, 3) := by decide +kernel
theorem dX7_along_19 : decode cX7_along 19 = .ok (.iconst (-1), 1) := by decide +kernel
theorem dX7_along_20 : decode cX7_along 20 = .ok (.ireturn, 1) := by decide +kernel
theorem dX7_along_21 : decode cX7_along 21 = .ok (.aload_n 0, 1) := by decide +kernel
theorem dX7_along_22 : decode cX7_along 22 = .ok (.iload_n 1, 1) := by decide +kernel
theorem dX7_along_23 : decode cX7_along 23 = .ok (.invokevirtual 170, 3) := by decide +kernel
theorem dX7_along_26 : decode cX7_along 26 = .ok (.aload_n 0, 1) := by decide +kernel
theorem dX7_along_27 : decode cX7_along 27 = .ok (.iload_n 1, 1) := by decide +kernel
theorem dX7_along_28 : decode cX7_along 28 = .ok (.iload_n 2, 1) := by decide +kernel
theorem dX7_along_29 : decode cX7_along 29 = .ok (.invokevirtual 174, 3) := by decide +kernel
theorem dX7_along_32 : decode cX7_along 32 = .ok (.istore 4, 2) := by decide +kernel
theorem dX7_along_34 : decode cX7_along 34 = .ok (.iload_n 3, 1) := by decide +kernel
theorem dX7_along_35 : decode cX7_along 35 = .ok (.iconst 0, 1) := by decide +kernel
theorem dX7_along_36 : decode cX7_along 36 = .ok (.iload 4, 2) := by decide +kernel
theorem dX7_along_38 : decode cX7_along 38 = .ok (.iconst 1, 1) := by decide +kernel
theorem dX7_along_39 : decode cX7_along 39 = .ok (.isub, 1) := by decide +kernel
theorem dX7_along_40 : decode cX7_along 40 = .ok (.invokestatic 130, 3) := by decide +kernel
theorem dX7_along_43 : decode cX7_along 43 = .ok (.ifCond .eq 12, 3) := by decide +kernel
theorem dX7_along_46 : decode cX7_along 46 = .ok (.aload_n 0, 1) := by decide +kernel
theorem dX7_along_47 : decode cX7_along 47 = .ok (.getfield 54, 3) := by decide +kernel
theorem dX7_along_50 : decode cX7_along 50 = .ok (.iload_n 3, 1) := by decide +kernel
theorem dX7_along_51 : decode cX7_along 51 = .ok (.iaload, 1) := by decide +kernel
theorem dX7_along_52 : decode cX7_along 52 = .ok (.goto 4, 3) := by decide +kernel
theorem dX7_along_55 : decode cX7_along 55 = .ok (.iconst (-1), 1) := by decide +kernel
theorem dX7_along_56 : decode cX7_along 56 = .ok (.ireturn, 1) := by decide +kernel
theorem dX7_shortest_0 : decode cX7_shortest 0 = .ok (.sipush 600, 3) := by decide +kernel
theorem dX7_shortest_3 : decode cX7_shortest 3 = .ok (.iload_n 2, 1) := by decide +kernel
theorem dX7_shortest_4 : decode cX7_shortest 4 = .ok (.imul, 1) := by decide +kernel
theorem dX7_shortest_5 : decode cX7_shortest 5 = .ok (.aload_n 0, 1) := by decide +kernel
theorem dX7_shortest_6 : decode cX7_shortest 6 = .ok (.getfield 29, 3) := by decide +kernel
theorem dX7_shortest_9 : decode cX7_shortest 9 = .ok (.iload_n 1, 1) := by decide +kernel
theorem dX7_shortest_10 : decode cX7_shortest 10 = .ok (.iaload, 1) := by decide +kernel
theorem dX7_shortest_11 : decode cX7_shortest 11 = .ok (.idiv, 1) := by decide +kernel
theorem dX7_shortest_12 : decode cX7_shortest 12 = .ok (.ireturn, 1) := by decide +kernel
theorem dX7_longest_0 : decode cX7_longest 0 = .ok (.sipush 600, 3) := by decide +kernel
theorem dX7_longest_3 : decode cX7_longest 3 = .ok (.iload_n 2, 1) := by decide +kernel
theorem dX7_longest_4 : decode cX7_longest 4 = .ok (.imul, 1) := by decide +kernel
theorem dX7_longest_5 : decode cX7_longest 5 = .ok (.aload_n 0, 1) := by decide +kernel
theorem dX7_longest_6 : decode cX7_longest 6 = .ok (.getfield 26, 3) := by decide +kernel
theorem dX7_longest_9 : decode cX7_longest 9 = .ok (.iload_n 1, 1) := by decide +kernel
theorem dX7_longest_10 : decode cX7_longest 10 = .ok (.iaload, 1) := by decide +kernel
theorem dX7_longest_11 : decode cX7_longest 11 = .ok (.idiv, 1) := by decide +kernel
theorem dX7_longest_12 : decode cX7_longest 12 = .ok (.ireturn, 1) := by decide +kernel
theorem dX7_off_0 : decode cX7_off 0 = .ok (.iload_n 0, 1) := by decide +kernel
theorem dX7_off_1 : decode cX7_off 1 = .ok (.iload_n 1, 1) := by decide +kernel
theorem dX7_off_2 : decode cX7_off 2 = .ok (.if_icmp .ge 9, 3) := by decide +kernel
theorem dX7_off_5 : decode cX7_off 5 = .ok (.iload_n 1, 1) := by decide +kernel
theorem dX7_off_6 : decode cX7_off 6 = .ok (.iload_n 0, 1) := by decide +kernel
theorem dX7_off_7 : decode cX7_off 7 = .ok (.isub, 1) := by decide +kernel
theorem dX7_off_8 : decode cX7_off 8 = .ok (.goto 6, 3) := by decide +kernel
theorem dX7_off_11 : decode cX7_off 11 = .ok (.iload_n 0, 1) := by decide +kernel
theorem dX7_off_12 : decode cX7_off 12 = .ok (.iload_n 1, 1) := by decide +kernel
theorem dX7_off_13 : decode cX7_off 13 = .ok (.isub, 1) := by decide +kernel
theorem dX7_off_14 : decode cX7_off 14 = .ok (.ireturn, 1) := by decide +kernel
theorem dX7_misfitOf_0 : decode cX7_misfitOf 0 = .ok (.aload_n 0, 1) := by decide +kernel
theorem dX7_misfitOf_1 : decode cX7_misfitOf 1 = .ok (.iload_n 1, 1) := by decide +kernel
theorem dX7_misfitOf_2 : decode cX7_misfitOf 2 = .ok (.iload_n 2, 1) := by decide +kernel
theorem dX7_misfitOf_3 : decode cX7_misfitOf 3 = .ok (.invokevirtual 178, 3) := by decide +kernel
theorem dX7_misfitOf_6 : decode cX7_misfitOf 6 = .ok (.istore 4, 2) := by decide +kernel
theorem dX7_misfitOf_8 : decode cX7_misfitOf 8 = .ok (.aload_n 0, 1) := by decide +kernel
theorem dX7_misfitOf_9 : decode cX7_misfitOf 9 = .ok (.iload_n 1, 1) := by decide +kernel
theorem dX7_misfitOf_10 : decode cX7_misfitOf 10 = .ok (.iload_n 2, 1) := by decide +kernel
theorem dX7_misfitOf_11 : decode cX7_misfitOf 11 = .ok (.invokevirtual 181, 3) := by decide +kernel
theorem dX7_misfitOf_14 : decode cX7_misfitOf 14 = .ok (.istore 5, 2) := by decide +kernel
theorem dX7_misfitOf_16 : decode cX7_misfitOf 16 = .ok (.iload_n 3, 1) := by decide +kernel
theorem dX7_misfitOf_17 : decode cX7_misfitOf 17 = .ok (.iload 4, 2) := by decide +kernel
theorem dX7_misfitOf_19 : decode cX7_misfitOf 19 = .ok (.iload 5, 2) := by decide +kernel
theorem dX7_misfitOf_21 : decode cX7_misfitOf 21 = .ok (.invokestatic 130, 3) := by decide +kernel
theorem dX7_misfitOf_24 : decode cX7_misfitOf 24 = .ok (.ifCond .eq 5, 3) := by decide +kernel
theorem dX7_misfitOf_27 : decode cX7_misfitOf 27 = .ok (.iconst 0, 1) := by decide +kernel
theorem dX7_misfitOf_28 : decode cX7_misfitOf 28 = .ok (.ireturn, 1) := by decide +kernel
theorem dX7_misfitOf_29 : decode cX7_misfitOf 29 = .ok (.iload_n 3, 1) := by decide +kernel
theorem dX7_misfitOf_30 : decode cX7_misfitOf 30 = .ok (.iload 4, 2) := by decide +kernel
theorem dX7_misfitOf_32 : decode cX7_misfitOf 32 = .ok (.invokestatic 184, 3) := by decide +kernel
theorem dX7_misfitOf_35 : decode cX7_misfitOf 35 = .ok (.iload_n 3, 1) := by decide +kernel
theorem dX7_misfitOf_36 : decode cX7_misfitOf 36 = .ok (.iload 5, 2) := by decide +kernel
theorem dX7_misfitOf_38 : decode cX7_misfitOf 38 = .ok (.invokestatic 184, 3) := by decide +kernel
theorem dX7_misfitOf_41 : decode cX7_misfitOf 41 = .ok (.if_icmp .ge 12, 3) := by decide +kernel
theorem dX7_misfitOf_44 : decode cX7_misfitOf 44 = .ok (.iload_n 3, 1) := by decide +kernel
theorem dX7_misfitOf_45 : decode cX7_misfitOf 45 = .ok (.iload 4, 2) := by decide +kernel
theorem dX7_misfitOf_47 : decode cX7_misfitOf 47 = .ok (.invokestatic 184, 3) := by decide +kernel
theorem dX7_misfitOf_50 : decode cX7_misfitOf 50 = .ok (.goto 9, 3) := by decide +kernel
theorem dX7_misfitOf_53 : decode cX7_misfitOf 53 = .ok (.iload_n 3, 1) := by decide +kernel
theorem dX7_misfitOf_54 : decode cX7_misfitOf 54 = .ok (.iload 5, 2) := by decide +kernel
theorem dX7_misfitOf_56 : decode cX7_misfitOf 56 = .ok (.invokestatic 184, 3) := by decide +kernel
theorem dX7_misfitOf_59 : decode cX7_misfitOf 59 = .ok (.ireturn, 1) := by decide +kernel
theorem dX7_misfit_0 : decode cX7_misfit 0 = .ok (.aload_n 0, 1) := by decide +kernel
theorem dX7_misfit_1 : decode cX7_misfit 1 = .ok (.iload_n 1, 1) := by decide +kernel
theorem dX7_misfit_2 : decode cX7_misfit 2 = .ok (.invokevirtual 155, 3) := by decide +kernel
theorem dX7_misfit_5 : decode cX7_misfit 5 = .ok (.ifCond .eq 34, 3) := by decide +kernel
theorem dX7_misfit_8 : decode cX7_misfit 8 = .ok (.iload_n 2, 1) := by decide +kernel
theorem dX7_misfit_9 : decode cX7_misfit 9 = .ok (.iconst 1, 1) := by decide +kernel
theorem dX7_misfit_10 : decode cX7_misfit 10 = .ok (.sipush 400, 3) := by decide +kernel
theorem dX7_misfit_13 : decode cX7_misfit 13 = .ok (.invokestatic 130, 3) := by decide +kernel
theorem dX7_misfit_16 : decode cX7_misfit 16 = .ok (.ifCond .eq 23, 3) := by decide +kernel
theorem dX7_misfit_19 : decode cX7_misfit 19 = .ok (.iload_n 3, 1) := by decide +kernel
theorem dX7_misfit_20 : decode cX7_misfit 20 = .ok (.iconst 0, 1) := by decide +kernel
theorem dX7_misfit_21 : decode cX7_misfit 21 = .ok (.ldc 187, 2) := by decide +kernel
theorem dX7_misfit_23 : decode cX7_misfit 23 = .ok (.invokestatic 130, 3) := by decide +kernel
theorem dX7_misfit_26 : decode cX7_misfit 26 = .ok (.ifCond .eq 13, 3) := by decide +kernel
theorem dX7_misfit_29 : decode cX7_misfit 29 = .ok (.aload_n 0, 1) := by decide +kernel
theorem dX7_misfit_30 : decode cX7_misfit 30 = .ok (.iload_n 1, 1) := by decide +kernel
theorem dX7_misfit_31 : decode cX7_misfit 31 = .ok (.iload_n 2, 1) := by decide +kernel
theorem dX7_misfit_32 : decode cX7_misfit 32 = .ok (.iload_n 3, 1) := by decide +kernel
theorem dX7_misfit_33 : decode cX7_misfit 33 = .ok (.invokevirtual 188, 3) := by decide +kernel
theorem dX7_misfit_36 : decode cX7_misfit 36 = .ok (.goto 4, 3) := by decide +kernel
theorem dX7_misfit_39 : decode cX7_misfit 39 = .ok (.iconst (-1), 1) := by decide +kernel
theorem dX7_misfit_40 : decode cX7_misfit 40 = .ok (.ireturn, 1) := by decide +kernel
theorem dX7_bestFor_0 : decode cX7_bestFor 0 = .ok (.bipush (-2), 2) := by decide +kernel
theorem dX7_bestFor_2 : decode cX7_bestFor 2 = .ok (.istore_n 3, 1) := by decide +kernel
theorem dX7_bestFor_3 : decode cX7_bestFor 3 = .ok (.iconst 1, 1) := by decide +kernel
theorem dX7_bestFor_4 : decode cX7_bestFor 4 = .ok (.istore 4, 2) := by decide +kernel
theorem dX7_bestFor_6 : decode cX7_bestFor 6 = .ok (.iload 4, 2) := by decide +kernel
theorem dX7_bestFor_8 : decode cX7_bestFor 8 = .ok (.sipush 400, 3) := by decide +kernel
theorem dX7_bestFor_11 : decode cX7_bestFor 11 = .ok (.if_icmp .gt 44, 3) := by decide +kernel
theorem dX7_bestFor_14 : decode cX7_bestFor 14 = .ok (.aload_n 0, 1) := by decide +kernel
theorem dX7_bestFor_15 : decode cX7_bestFor 15 = .ok (.iload_n 1, 1) := by decide +kernel
theorem dX7_bestFor_16 : decode cX7_bestFor 16 = .ok (.iload 4, 2) := by decide +kernel
theorem dX7_bestFor_18 : decode cX7_bestFor 18 = .ok (.invokevirtual 191, 3) := by decide +kernel
theorem dX7_bestFor_21 : decode cX7_bestFor 21 = .ok (.ifCond .eq 28, 3) := by decide +kernel
theorem dX7_bestFor_24 : decode cX7_bestFor 24 = .ok (.iload_n 3, 1) := by decide +kernel
theorem dX7_bestFor_25 : decode cX7_bestFor 25 = .ok (.ifCond .lt 21, 3) := by decide +kernel
theorem dX7_bestFor_28 : decode cX7_bestFor 28 = .ok (.aload_n 0, 1) := by decide +kernel
theorem dX7_bestFor_29 : decode cX7_bestFor 29 = .ok (.iload_n 1, 1) := by decide +kernel
theorem dX7_bestFor_30 : decode cX7_bestFor 30 = .ok (.iload 4, 2) := by decide +kernel
theorem dX7_bestFor_32 : decode cX7_bestFor 32 = .ok (.iload_n 2, 1) := by decide +kernel
theorem dX7_bestFor_33 : decode cX7_bestFor 33 = .ok (.invokevirtual 188, 3) := by decide +kernel
theorem dX7_bestFor_36 : decode cX7_bestFor 36 = .ok (.aload_n 0, 1) := by decide +kernel
theorem dX7_bestFor_37 : decode cX7_bestFor 37 = .ok (.iload_n 1, 1) := by decide +kernel
theorem dX7_bestFor_38 : decode cX7_bestFor 38 = .ok (.iload_n 3, 1) := by decide +kernel
theorem dX7_bestFor_39 : decode cX7_bestFor 39 = .ok (.iload_n 2, 1) := by decide +kernel
theorem dX7_bestFor_40 : decode cX7_bestFor 40 = .ok (.invokevirtual 188, 3) := by decide +kernel
theorem dX7_bestFor_43 : decode cX7_bestFor 43 = .ok (.if_icmp .ge 6, 3) := by decide +kernel
theorem dX7_bestFor_46 : decode cX7_bestFor 46 = .ok (.iload 4, 2) := by decide +kernel
theorem dX7_bestFor_48 : decode cX7_bestFor 48 = .ok (.istore_n 3, 1) := by decide +kernel
theorem dX7_bestFor_49 : decode cX7_bestFor 49 = .ok (.iinc 4 1, 3) := by decide +kernel
theorem dX7_bestFor_52 : decode cX7_bestFor 52 = .ok (.goto (-46), 3) := by decide +kernel
theorem dX7_bestFor_55 : decode cX7_bestFor 55 = .ok (.iload_n 3, 1) := by decide +kernel
theorem dX7_bestFor_56 : decode cX7_bestFor 56 = .ok (.ireturn, 1) := by decide +kernel
theorem dX7_best_0 : decode cX7_best 0 = .ok (.aload_n 0, 1) := by decide +kernel
theorem dX7_best_1 : decode cX7_best 1 = .ok (.iload_n 1, 1) := by decide +kernel
theorem dX7_best_2 : decode cX7_best 2 = .ok (.invokevirtual 155, 3) := by decide +kernel
theorem dX7_best_5 : decode cX7_best 5 = .ok (.ifCond .eq 13, 3) := by decide +kernel
theorem dX7_best_8 : decode cX7_best 8 = .ok (.iload_n 2, 1) := by decide +kernel
theorem dX7_best_9 : decode cX7_best 9 = .ok (.iconst 0, 1) := by decide +kernel
theorem dX7_best_10 : decode cX7_best 10 = .ok (.ldc 187, 2) := by decide +kernel
theorem dX7_best_12 : decode cX7_best 12 = .ok (.invokestatic 130, 3) := by decide +kernel
theorem dX7_best_15 : decode cX7_best 15 = .ok (.ifCond .ne 5, 3) := by decide +kernel
theorem dX7_best_18 : decode cX7_best 18 = .ok (.iconst (-1), 1) := by decide +kernel
theorem dX7_best_19 : decode cX7_best 19 = .ok (.ireturn, 1) := by decide +kernel
theorem dX7_best_20 : decode cX7_best 20 = .ok (.aload_n 0, 1) := by decide +kernel
theorem dX7_best_21 : decode cX7_best 21 = .ok (.iload_n 1, 1) := by decide +kernel
theorem dX7_best_22 : decode cX7_best 22 = .ok (.invokevirtual 170, 3) := by decide +kernel
theorem dX7_best_25 : decode cX7_best 25 = .ok (.aload_n 0, 1) := by decide +kernel
theorem dX7_best_26 : decode cX7_best 26 = .ok (.iload_n 1, 1) := by decide +kernel
theorem dX7_best_27 : decode cX7_best 27 = .ok (.iload_n 2, 1) := by decide +kernel
theorem dX7_best_28 : decode cX7_best 28 = .ok (.invokevirtual 194, 3) := by decide +kernel
theorem dX7_best_31 : decode cX7_best 31 = .ok (.ireturn, 1) := by decide +kernel
theorem dX7_stepOf_0 : decode cX7_stepOf 0 = .ok (.bipush 7, 2) := by decide +kernel
theorem dX7_stepOf_2 : decode cX7_stepOf 2 = .ok (.iload_n 1, 1) := by decide +kernel
theorem dX7_stepOf_3 : decode cX7_stepOf 3 = .ok (.iload_n 0, 1) := by decide +kernel
theorem dX7_stepOf_4 : decode cX7_stepOf 4 = .ok (.isub, 1) := by decide +kernel
theorem dX7_stepOf_5 : decode cX7_stepOf 5 = .ok (.imul, 1) := by decide +kernel
theorem dX7_stepOf_6 : decode cX7_stepOf 6 = .ok (.bipush 84, 2) := by decide +kernel
theorem dX7_stepOf_8 : decode cX7_stepOf 8 = .ok (.iadd, 1) := by decide +kernel
theorem dX7_stepOf_9 : decode cX7_stepOf 9 = .ok (.bipush 12, 2) := by decide +kernel
theorem dX7_stepOf_11 : decode cX7_stepOf 11 = .ok (.irem, 1) := by decide +kernel
theorem dX7_stepOf_12 : decode cX7_stepOf 12 = .ok (.istore_n 2, 1) := by decide +kernel
theorem dX7_stepOf_13 : decode cX7_stepOf 13 = .ok (.iload_n 2, 1) := by decide +kernel
theorem dX7_stepOf_14 : decode cX7_stepOf 14 = .ok (.bipush 12, 2) := by decide +kernel
theorem dX7_stepOf_16 : decode cX7_stepOf 16 = .ok (.iload_n 2, 1) := by decide +kernel
theorem dX7_stepOf_17 : decode cX7_stepOf 17 = .ok (.isub, 1) := by decide +kernel
theorem dX7_stepOf_18 : decode cX7_stepOf 18 = .ok (.if_icmp .ge 7, 3) := by decide +kernel
theorem dX7_stepOf_21 : decode cX7_stepOf 21 = .ok (.iload_n 2, 1) := by decide +kernel
theorem dX7_stepOf_22 : decode cX7_stepOf 22 = .ok (.goto 7, 3) := by decide +kernel
theorem dX7_stepOf_25 : decode cX7_stepOf 25 = .ok (.bipush 12, 2) := by decide +kernel
theorem dX7_stepOf_27 : decode cX7_stepOf 27 = .ok (.iload_n 2, 1) := by decide +kernel
theorem dX7_stepOf_28 : decode cX7_stepOf 28 = .ok (.isub, 1) := by decide +kernel
theorem dX7_stepOf_29 : decode cX7_stepOf 29 = .ok (.ireturn, 1) := by decide +kernel
theorem dX7_step_0 : decode cX7_step 0 = .ok (.iload_n 1, 1) := by decide +kernel
theorem dX7_step_1 : decode cX7_step 1 = .ok (.iconst 0, 1) := by decide +kernel
theorem dX7_step_2 : decode cX7_step 2 = .ok (.bipush 11, 2) := by decide +kernel
theorem dX7_step_4 : decode cX7_step 4 = .ok (.invokestatic 130, 3) := by decide +kernel
theorem dX7_step_7 : decode cX7_step 7 = .ok (.ifCond .eq 21, 3) := by decide +kernel
theorem dX7_step_10 : decode cX7_step 10 = .ok (.iload_n 2, 1) := by decide +kernel
theorem dX7_step_11 : decode cX7_step 11 = .ok (.iconst 0, 1) := by decide +kernel
theorem dX7_step_12 : decode cX7_step 12 = .ok (.bipush 11, 2) := by decide +kernel
theorem dX7_step_14 : decode cX7_step 14 = .ok (.invokestatic 130, 3) := by decide +kernel
theorem dX7_step_17 : decode cX7_step 17 = .ok (.ifCond .eq 11, 3) := by decide +kernel
theorem dX7_step_20 : decode cX7_step 20 = .ok (.iload_n 1, 1) := by decide +kernel
theorem dX7_step_21 : decode cX7_step 21 = .ok (.iload_n 2, 1) := by decide +kernel
theorem dX7_step_22 : decode cX7_step 22 = .ok (.invokestatic 197, 3) := by decide +kernel
theorem dX7_step_25 : decode cX7_step 25 = .ok (.goto 4, 3) := by decide +kernel
theorem dX7_step_28 : decode cX7_step 28 = .ok (.iconst (-1), 1) := by decide +kernel
theorem dX7_step_29 : decode cX7_step 29 = .ok (.ireturn, 1) := by decide +kernel
theorem dX7_rule_0 : decode cX7_rule 0 = .ok (.iload_n 1, 1) := by decide +kernel
theorem dX7_rule_1 : decode cX7_rule 1 = .ok (.iconst 0, 1) := by decide +kernel
theorem dX7_rule_2 : decode cX7_rule 2 = .ok (.iconst 1, 1) := by decide +kernel
theorem dX7_rule_3 : decode cX7_rule 3 = .ok (.invokestatic 130, 3) := by decide +kernel
theorem dX7_rule_6 : decode cX7_rule 6 = .ok (.ifCond .eq 22, 3) := by decide +kernel
theorem dX7_rule_9 : decode cX7_rule 9 = .ok (.iload_n 2, 1) := by decide +kernel
theorem dX7_rule_10 : decode cX7_rule 10 = .ok (.iconst 0, 1) := by decide +kernel
theorem dX7_rule_11 : decode cX7_rule 11 = .ok (.iload_n 1, 1) := by decide +kernel
theorem dX7_rule_12 : decode cX7_rule 12 = .ok (.ifCond .ne 8, 3) := by decide +kernel
theorem dX7_rule_15 : decode cX7_rule 15 = .ok (.bipush 99, 2) := by decide +kernel
theorem dX7_rule_17 : decode cX7_rule 17 = .ok (.goto 5, 3) := by decide +kernel
theorem dX7_rule_20 : decode cX7_rule 20 = .ok (.bipush 6, 2) := by decide +kernel
theorem dX7_rule_22 : decode cX7_rule 22 = .ok (.invokestatic 130, 3) := by decide +kernel
theorem dX7_rule_25 : decode cX7_rule 25 = .ok (.ifCond .ne 5, 3) := by decide +kernel
theorem dX7_rule_28 : decode cX7_rule 28 = .ok (.iconst (-1), 1) := by decide +kernel
theorem dX7_rule_29 : decode cX7_rule 29 = .ok (.ireturn, 1) := by decide +kernel
theorem dX7_rule_30 : decode cX7_rule 30 = .ok (.iload_n 1, 1) := by decide +kernel
theorem dX7_rule_31 : decode cX7_rule 31 = .ok (.ifCond .ne 10, 3) := by decide +kernel
theorem dX7_rule_34 : decode cX7_rule 34 = .ok (.aload_n 0, 1) := by decide +kernel
theorem dX7_rule_35 : decode cX7_rule 35 = .ok (.getfield 57, 3) := by decide +kernel
theorem dX7_rule_38 : decode cX7_rule 38 = .ok (.goto 7, 3) := by decide +kernel
theorem dX7_rule_41 : decode cX7_rule 41 = .ok (.aload_n 0, 1) := by decide +kernel
theorem dX7_rule_42 : decode cX7_rule 42 = .ok (.getfield 61, 3) := by decide +kernel
theorem dX7_rule_45 : decode cX7_rule 45 = .ok (.istore_n 3, 1) := by decide +kernel
theorem dX7_rule_46 : decode cX7_rule 46 = .ok (.iload_n 1, 1) := by decide +kernel
theorem dX7_rule_47 : decode cX7_rule 47 = .ok (.ifCond .ne 11, 3) := by decide +kernel
theorem dX7_rule_50 : decode cX7_rule 50 = .ok (.aload_n 0, 1) := by decide +kernel
theorem dX7_rule_51 : decode cX7_rule 51 = .ok (.iload_n 2, 1) := by decide +kernel
theorem dX7_rule_52 : decode cX7_rule 52 = .ok (.putfield 57, 3) := by decide +kernel
theorem dX7_rule_55 : decode cX7_rule 55 = .ok (.goto 8, 3) := by decide +kernel
theorem dX7_rule_58 : decode cX7_rule 58 = .ok (.aload_n 0, 1) := by decide +kernel
theorem dX7_rule_59 : decode cX7_rule 59 = .ok (.iload_n 2, 1) := by decide +kernel
theorem dX7_rule_60 : decode cX7_rule 60 = .ok (.putfield 61, 3) := by decide +kernel
theorem dX7_rule_63 : decode cX7_rule 63 = .ok (.iload_n 3, 1) := by decide +kernel
theorem dX7_rule_64 : decode cX7_rule 64 = .ok (.ireturn, 1) := by decide +kernel
theorem dX7_mayBe_0 : decode cX7_mayBe 0 = .ok (.aload_n 0, 1) := by decide +kernel
theorem dX7_mayBe_1 : decode cX7_mayBe 1 = .ok (.getfield 73, 3) := by decide +kernel
theorem dX7_mayBe_4 : decode cX7_mayBe 4 = .ok (.iload_n 1, 1) := by decide +kernel
theorem dX7_mayBe_5 : decode cX7_mayBe 5 = .ok (.iaload, 1) := by decide +kernel
theorem dX7_mayBe_6 : decode cX7_mayBe 6 = .ok (.istore_n 2, 1) := by decide +kernel
theorem dX7_mayBe_7 : decode cX7_mayBe 7 = .ok (.aload_n 0, 1) := by decide +kernel
theorem dX7_mayBe_8 : decode cX7_mayBe 8 = .ok (.getfield 64, 3) := by decide +kernel
theorem dX7_mayBe_11 : decode cX7_mayBe 11 = .ok (.bipush 12, 2) := by decide +kernel
theorem dX7_mayBe_13 : decode cX7_mayBe 13 = .ok (.iload_n 1, 1) := by decide +kernel
theorem dX7_mayBe_14 : decode cX7_mayBe 14 = .ok (.imul, 1) := by decide +kernel
theorem dX7_mayBe_15 : decode cX7_mayBe 15 = .ok (.iload_n 2, 1) := by decide +kernel
theorem dX7_mayBe_16 : decode cX7_mayBe 16 = .ok (.iadd, 1) := by decide +kernel
theorem dX7_mayBe_17 : decode cX7_mayBe 17 = .ok (.iaload, 1) := by decide +kernel
theorem dX7_mayBe_18 : decode cX7_mayBe 18 = .ok (.ifCond .ge 5, 3) := by decide +kernel
theorem dX7_mayBe_21 : decode cX7_mayBe 21 = .ok (.iconst 0, 1) := by decide +kernel
theorem dX7_mayBe_22 : decode cX7_mayBe 22 = .ok (.ireturn, 1) := by decide +kernel
theorem dX7_mayBe_23 : decode cX7_mayBe 23 = .ok (.iconst 0, 1) := by decide +kernel
theorem dX7_mayBe_24 : decode cX7_mayBe 24 = .ok (.istore_n 3, 1) := by decide +kernel
theorem dX7_mayBe_25 : decode cX7_mayBe 25 = .ok (.iload_n 3, 1) := by decide +kernel
theorem dX7_mayBe_26 : decode cX7_mayBe 26 = .ok (.iload_n 1, 1) := by decide +kernel
theorem dX7_mayBe_27 : decode cX7_mayBe 27 = .ok (.if_icmp .ge 30, 3) := by decide +kernel
theorem dX7_mayBe_30 : decode cX7_mayBe 30 = .ok (.aload_n 0, 1) := by decide +kernel
theorem dX7_mayBe_31 : decode cX7_mayBe 31 = .ok (.getfield 73, 3) := by decide +kernel
theorem dX7_mayBe_34 : decode cX7_mayBe 34 = .ok (.iload_n 3, 1) := by decide +kernel
theorem dX7_mayBe_35 : decode cX7_mayBe 35 = .ok (.iaload, 1) := by decide +kernel
theorem dX7_mayBe_36 : decode cX7_mayBe 36 = .ok (.iload_n 2, 1) := by decide +kernel
theorem dX7_mayBe_37 : decode cX7_mayBe 37 = .ok (.if_icmp .ne 14, 3) := by decide +kernel
theorem dX7_mayBe_40 : decode cX7_mayBe 40 = .ok (.aload_n 0, 1) := by decide +kernel
theorem dX7_mayBe_41 : decode cX7_mayBe 41 = .ok (.getfield 32, 3) := by decide +kernel
theorem dX7_mayBe_44 : decode cX7_mayBe 44 = .ok (.iload_n 2, 1) := by decide +kernel
theorem dX7_mayBe_45 : decode cX7_mayBe 45 = .ok (.baload, 1) := by decide +kernel
theorem dX7_mayBe_46 : decode cX7_mayBe 46 = .ok (.ifCond .ne 5, 3) := by decide +kernel
theorem dX7_mayBe_49 : decode cX7_mayBe 49 = .ok (.iconst 0, 1) := by decide +kernel
theorem dX7_mayBe_50 : decode cX7_mayBe 50 = .ok (.ireturn, 1) := by decide +kernel
theorem dX7_mayBe_51 : decode cX7_mayBe 51 = .ok (.iinc 3 1, 3) := by decide +kernel
theorem dX7_mayBe_54 : decode cX7_mayBe 54 = .ok (.goto (-29), 3) := by decide +kernel
theorem dX7_mayBe_57 : decode cX7_mayBe 57 = .ok (.iload_n 1, 1) := by decide +kernel
theorem dX7_mayBe_58 : decode cX7_mayBe 58 = .ok (.ifCond .eq 32, 3) := by decide +kernel
theorem dX7_mayBe_61 : decode cX7_mayBe 61 = .ok (.aload_n 0, 1) := by decide +kernel
theorem dX7_mayBe_62 : decode cX7_mayBe 62 = .ok (.getfield 20, 3) := by decide +kernel
theorem dX7_mayBe_65 : decode cX7_mayBe 65 = .ok (.aload_n 0, 1) := by decide +kernel
theorem dX7_mayBe_66 : decode cX7_mayBe 66 = .ok (.getfield 73, 3) := by decide +kernel
theorem dX7_mayBe_69 : decode cX7_mayBe 69 = .ok (.iload_n 1, 1) := by decide +kernel
theorem dX7_mayBe_70 : decode cX7_mayBe 70 = .ok (.iconst 1, 1) := by decide +kernel
theorem dX7_mayBe_71 : decode cX7_mayBe 71 = .ok (.isub, 1) := by decide +kernel
theorem dX7_mayBe_72 : decode cX7_mayBe 72 = .ok (.iaload, 1) := by decide +kernel
theorem dX7_mayBe_73 : decode cX7_mayBe 73 = .ok (.iaload, 1) := by decide +kernel
theorem dX7_mayBe_74 : decode cX7_mayBe 74 = .ok (.aload_n 0, 1) := by decide +kernel
theorem dX7_mayBe_75 : decode cX7_mayBe 75 = .ok (.getfield 20, 3) := by decide +kernel
theorem dX7_mayBe_78 : decode cX7_mayBe 78 = .ok (.iload_n 2, 1) := by decide +kernel
theorem dX7_mayBe_79 : decode cX7_mayBe 79 = .ok (.iaload, 1) := by decide +kernel
theorem dX7_mayBe_80 : decode cX7_mayBe 80 = .ok (.invokestatic 197, 3) := by decide +kernel
theorem dX7_mayBe_83 : decode cX7_mayBe 83 = .ok (.aload_n 0, 1) := by decide +kernel
theorem dX7_mayBe_84 : decode cX7_mayBe 84 = .ok (.getfield 61, 3) := by decide +kernel
theorem dX7_mayBe_87 : decode cX7_mayBe 87 = .ok (.if_icmp .gt 7, 3) := by decide +kernel
theorem dX7_mayBe_90 : decode cX7_mayBe 90 = .ok (.iconst 1, 1) := by decide +kernel
theorem dX7_mayBe_91 : decode cX7_mayBe 91 = .ok (.goto 4, 3) := by decide +kernel
theorem dX7_mayBe_94 : decode cX7_mayBe 94 = .ok (.iconst 0, 1) := by decide +kernel
theorem dX7_mayBe_95 : decode cX7_mayBe 95 = .ok (.ireturn, 1) := by decide +kernel
theorem dX7_costTo_0 : decode cX7_costTo 0 = .ok (.iconst 0, 1) := by decide +kernel
theorem dX7_costTo_1 : decode cX7_costTo 1 = .ok (.istore_n 2, 1) := by decide +kernel
theorem dX7_costTo_2 : decode cX7_costTo 2 = .ok (.iconst 0, 1) := by decide +kernel
theorem dX7_costTo_3 : decode cX7_costTo 3 = .ok (.istore_n 3, 1) := by decide +kernel
theorem dX7_costTo_4 : decode cX7_costTo 4 = .ok (.iload_n 3, 1) := by decide +kernel
theorem dX7_costTo_5 : decode cX7_costTo 5 = .ok (.iload_n 1, 1) := by decide +kernel
theorem dX7_costTo_6 : decode cX7_costTo 6 = .ok (.if_icmp .ge 69, 3) := by decide +kernel
theorem dX7_costTo_9 : decode cX7_costTo 9 = .ok (.iload_n 2, 1) := by decide +kernel
theorem dX7_costTo_10 : decode cX7_costTo 10 = .ok (.aload_n 0, 1) := by decide +kernel
theorem dX7_costTo_11 : decode cX7_costTo 11 = .ok (.getfield 67, 3) := by decide +kernel
theorem dX7_costTo_14 : decode cX7_costTo 14 = .ok (.bipush 12, 2) := by decide +kernel
theorem dX7_costTo_16 : decode cX7_costTo 16 = .ok (.iload_n 3, 1) := by decide +kernel
theorem dX7_costTo_17 : decode cX7_costTo 17 = .ok (.imul, 1) := by decide +kernel
theorem dX7_costTo_18 : decode cX7_costTo 18 = .ok (.aload_n 0, 1) := by decide +kernel
theorem dX7_costTo_19 : decode cX7_costTo 19 = .ok (.getfield 73, 3) := by decide +kernel
theorem dX7_costTo_22 : decode cX7_costTo 22 = .ok (.iload_n 3, 1) := by decide +kernel
theorem dX7_costTo_23 : decode cX7_costTo 23 = .ok (.iaload, 1) := by decide +kernel
theorem dX7_costTo_24 : decode cX7_costTo 24 = .ok (.iadd, 1) := by decide +kernel
theorem dX7_costTo_25 : decode cX7_costTo 25 = .ok (.iaload, 1) := by decide +kernel
theorem dX7_costTo_26 : decode cX7_costTo 26 = .ok (.iload_n 3, 1) := by decide +kernel
theorem dX7_costTo_27 : decode cX7_costTo 27 = .ok (.ifCond .ne 7, 3) := by decide +kernel
theorem dX7_costTo_30 : decode cX7_costTo 30 = .ok (.iconst 0, 1) := by decide +kernel
theorem dX7_costTo_31 : decode cX7_costTo 31 = .ok (.goto 35, 3) := by decide +kernel
theorem dX7_costTo_34 : decode cX7_costTo 34 = .ok (.aload_n 0, 1) := by decide +kernel
theorem dX7_costTo_35 : decode cX7_costTo 35 = .ok (.getfield 57, 3) := by decide +kernel
theorem dX7_costTo_38 : decode cX7_costTo 38 = .ok (.aload_n 0, 1) := by decide +kernel
theorem dX7_costTo_39 : decode cX7_costTo 39 = .ok (.getfield 20, 3) := by decide +kernel
theorem dX7_costTo_42 : decode cX7_costTo 42 = .ok (.aload_n 0, 1) := by decide +kernel
theorem dX7_costTo_43 : decode cX7_costTo 43 = .ok (.getfield 73, 3) := by decide +kernel
theorem dX7_costTo_46 : decode cX7_costTo 46 = .ok (.iload_n 3, 1) := by decide +kernel
theorem dX7_costTo_47 : decode cX7_costTo 47 = .ok (.iconst 1, 1) := by decide +kernel
theorem dX7_costTo_48 : decode cX7_costTo 48 = .ok (.isub, 1) := by decide +kernel
theorem dX7_costTo_49 : decode cX7_costTo 49 = .ok (.iaload, 1) := by decide +kernel
theorem dX7_costTo_50 : decode cX7_costTo 50 = .ok (.iaload, 1) := by decide +kernel
theorem dX7_costTo_51 : decode cX7_costTo 51 = .ok (.aload_n 0, 1) := by decide +kernel
theorem dX7_costTo_52 : decode cX7_costTo 52 = .ok (.getfield 20, 3) := by decide +kernel
theorem dX7_costTo_55 : decode cX7_costTo 55 = .ok (.aload_n 0, 1) := by decide +kernel
theorem dX7_costTo_56 : decode cX7_costTo 56 = .ok (.getfield 73, 3) := by decide +kernel
theorem dX7_costTo_59 : decode cX7_costTo 59 = .ok (.iload_n 3, 1) := by decide +kernel
theorem dX7_costTo_60 : decode cX7_costTo 60 = .ok (.iaload, 1) := by decide +kernel
theorem dX7_costTo_61 : decode cX7_costTo 61 = .ok (.iaload, 1) := by decide +kernel
theorem dX7_costTo_62 : decode cX7_costTo 62 = .ok (.invokestatic 197, 3) := by decide +kernel
theorem dX7_costTo_65 : decode cX7_costTo 65 = .ok (.imul, 1) := by decide +kernel
theorem dX7_costTo_66 : decode cX7_costTo 66 = .ok (.iadd, 1) := by decide +kernel
theorem dX7_costTo_67 : decode cX7_costTo 67 = .ok (.iadd, 1) := by decide +kernel
theorem dX7_costTo_68 : decode cX7_costTo 68 = .ok (.istore_n 2, 1) := by decide +kernel
theorem dX7_costTo_69 : decode cX7_costTo 69 = .ok (.iinc 3 1, 3) := by decide +kernel
theorem dX7_costTo_72 : decode cX7_costTo 72 = .ok (.goto (-68), 3) := by decide +kernel
theorem dX7_costTo_75 : decode cX7_costTo 75 = .ok (.iload_n 2, 1) := by decide +kernel
theorem dX7_costTo_76 : decode cX7_costTo 76 = .ok (.ireturn, 1) := by decide +kernel
theorem dX7_programme_0 : decode cX7_programme 0 = .ok (.iload_n 1, 1) := by decide +kernel
theorem dX7_programme_1 : decode cX7_programme 1 = .ok (.bipush 12, 2) := by decide +kernel
theorem dX7_programme_3 : decode cX7_programme 3 = .ok (.bipush 30, 2) := by decide +kernel
theorem dX7_programme_5 : decode cX7_programme 5 = .ok (.invokestatic 130, 3) := by decide +kernel
theorem dX7_programme_8 : decode cX7_programme 8 = .ok (.ifCond .ne 5, 3) := by decide +kernel
theorem dX7_programme_11 : decode cX7_programme 11 = .ok (.iconst (-1), 1) := by decide +kernel
theorem dX7_programme_12 : decode cX7_programme 12 = .ok (.ireturn, 1) := by decide +kernel
theorem dX7_programme_13 : decode cX7_programme 13 = .ok (.aload_n 0, 1) := by decide +kernel
theorem dX7_programme_14 : decode cX7_programme 14 = .ok (.invokevirtual 141, 3) := by decide +kernel
theorem dX7_programme_17 : decode cX7_programme 17 = .ok (.istore_n 2, 1) := by decide +kernel
theorem dX7_programme_18 : decode cX7_programme 18 = .ok (.iload_n 2, 1) := by decide +kernel
theorem dX7_programme_19 : decode cX7_programme 19 = .ok (.bipush 8, 2) := by decide +kernel
theorem dX7_programme_21 : decode cX7_programme 21 = .ok (.if_icmp .le 6, 3) := by decide +kernel
theorem dX7_programme_24 : decode cX7_programme 24 = .ok (.bipush (-4), 2) := by decide +kernel
theorem dX7_programme_26 : decode cX7_programme 26 = .ok (.ireturn, 1) := by decide +kernel
theorem dX7_programme_27 : decode cX7_programme 27 = .ok (.iload_n 2, 1) := by decide +kernel
theorem dX7_programme_28 : decode cX7_programme 28 = .ok (.ifCond .ne 6, 3) := by decide +kernel
theorem dX7_programme_31 : decode cX7_programme 31 = .ok (.bipush (-2), 2) := by decide +kernel
theorem dX7_programme_33 : decode cX7_programme 33 = .ok (.ireturn, 1) := by decide +kernel
theorem dX7_programme_34 : decode cX7_programme 34 = .ok (.iconst 0, 1) := by decide +kernel
theorem dX7_programme_35 : decode cX7_programme 35 = .ok (.istore_n 3, 1) := by decide +kernel
theorem dX7_programme_36 : decode cX7_programme 36 = .ok (.iload_n 3, 1) := by decide +kernel
theorem dX7_programme_37 : decode cX7_programme 37 = .ok (.aload_n 0, 1) := by decide +kernel
theorem dX7_programme_38 : decode cX7_programme 38 = .ok (.getfield 151, 3) := by decide +kernel
theorem dX7_programme_41 : decode cX7_programme 41 = .ok (.if_icmp .ge 148, 3) := by decide +kernel
theorem dX7_programme_44 : decode cX7_programme 44 = .ok (.aload_n 0, 1) := by decide +kernel
theorem dX7_programme_45 : decode cX7_programme 45 = .ok (.iload_n 3, 1) := by decide +kernel
theorem dX7_programme_46 : decode cX7_programme 46 = .ok (.invokevirtual 170, 3) := by decide +kernel
theorem dX7_programme_49 : decode cX7_programme 49 = .ok (.iconst 0, 1) := by decide +kernel
theorem dX7_programme_50 : decode cX7_programme 50 = .ok (.istore 4, 2) := by decide +kernel
theorem dX7_programme_52 : decode cX7_programme 52 = .ok (.iload 4, 2) := by decide +kernel
theorem dX7_programme_54 : decode cX7_programme 54 = .ok (.iload_n 2, 1) := by decide +kernel
theorem dX7_programme_55 : decode cX7_programme 55 = .ok (.if_icmp .ge 128, 3) := by decide +kernel
theorem dX7_programme_58 : decode cX7_programme 58 = .ok (.aload_n 0, 1) := by decide +kernel
theorem dX7_programme_59 : decode cX7_programme 59 = .ok (.getfield 23, 3) := by decide +kernel
theorem dX7_programme_62 : decode cX7_programme 62 = .ok (.iload_n 3, 1) := by decide +kernel
theorem dX7_programme_63 : decode cX7_programme 63 = .ok (.iaload, 1) := by decide +kernel
theorem dX7_programme_64 : decode cX7_programme 64 = .ok (.aload_n 0, 1) := by decide +kernel
theorem dX7_programme_65 : decode cX7_programme 65 = .ok (.getfield 13, 3) := by decide +kernel
theorem dX7_programme_68 : decode cX7_programme 68 = .ok (.aload_n 0, 1) := by decide +kernel
theorem dX7_programme_69 : decode cX7_programme 69 = .ok (.iload 4, 2) := by decide +kernel
theorem dX7_programme_71 : decode cX7_programme 71 = .ok (.invokevirtual 137, 3) := by decide +kernel
theorem dX7_programme_74 : decode cX7_programme 74 = .ok (.iaload, 1) := by decide +kernel
theorem dX7_programme_75 : decode cX7_programme 75 = .ok (.ishr, 1) := by decide +kernel
theorem dX7_programme_76 : decode cX7_programme 76 = .ok (.iconst 1, 1) := by decide +kernel
theorem dX7_programme_77 : decode cX7_programme 77 = .ok (.iand, 1) := by decide +kernel
theorem dX7_programme_78 : decode cX7_programme 78 = .ok (.iconst 1, 1) := by decide +kernel
theorem dX7_programme_79 : decode cX7_programme 79 = .ok (.if_icmp .ne 7, 3) := by decide +kernel
theorem dX7_programme_82 : decode cX7_programme 82 = .ok (.iconst 1, 1) := by decide +kernel
theorem dX7_programme_83 : decode cX7_programme 83 = .ok (.goto 4, 3) := by decide +kernel
theorem dX7_programme_86 : decode cX7_programme 86 = .ok (.iconst 0, 1) := by decide +kernel
theorem dX7_programme_87 : decode cX7_programme 87 = .ok (.istore 5, 2) := by decide +kernel
theorem dX7_programme_89 : decode cX7_programme 89 = .ok (.aload_n 0, 1) := by decide +kernel
theorem dX7_programme_90 : decode cX7_programme 90 = .ok (.iload 4, 2) := by decide +kernel
theorem dX7_programme_92 : decode cX7_programme 92 = .ok (.iload_n 1, 1) := by decide +kernel
