/-! decode rows, printed by wip/whole/gen_decparts.py -/
theorem d_192_0 : decode (am_b 192) 0 = .ok (.aload_n 0, 1) := by decide +kernel
theorem d_192_1 : decode (am_b 192) 1 = .ok (.iconst 0, 1) := by decide +kernel
theorem d_192_2 : decode (am_b 192) 2 = .ok (.putfield 140, 3) := by decide +kernel
theorem d_192_5 : decode (am_b 192) 5 = .ok (.iconst 0, 1) := by decide +kernel
theorem d_192_6 : decode (am_b 192) 6 = .ok (.istore_n 2, 1) := by decide +kernel
theorem d_192_7 : decode (am_b 192) 7 = .ok (.iload_n 2, 1) := by decide +kernel
theorem d_192_8 : decode (am_b 192) 8 = .ok (.iload_n 1, 1) := by decide +kernel
theorem d_192_9 : decode (am_b 192) 9 = .ok (.if_icmp .ge 254, 3) := by decide +kernel
theorem d_192_12 : decode (am_b 192) 12 = .ok (.aload_n 0, 1) := by decide +kernel
theorem d_192_13 : decode (am_b 192) 13 = .ok (.getfield 33, 3) := by decide +kernel
theorem d_192_16 : decode (am_b 192) 16 = .ok (.iload_n 2, 1) := by decide +kernel
theorem d_192_17 : decode (am_b 192) 17 = .ok (.baload, 1) := by decide +kernel
theorem d_192_18 : decode (am_b 192) 18 = .ok (.istore_n 3, 1) := by decide +kernel
theorem d_192_19 : decode (am_b 192) 19 = .ok (.iload_n 3, 1) := by decide +kernel
theorem d_192_20 : decode (am_b 192) 20 = .ok (.bipush 32, 2) := by decide +kernel
theorem d_192_22 : decode (am_b 192) 22 = .ok (.if_icmp .ne 9, 3) := by decide +kernel
theorem d_192_25 : decode (am_b 192) 25 = .ok (.iinc 2 1, 3) := by decide +kernel
theorem d_192_28 : decode (am_b 192) 28 = .ok (.goto (-21), 3) := by decide +kernel
theorem d_192_31 : decode (am_b 192) 31 = .ok (.iload_n 2, 1) := by decide +kernel
theorem d_192_32 : decode (am_b 192) 32 = .ok (.iconst 1, 1) := by decide +kernel
theorem d_192_33 : decode (am_b 192) 33 = .ok (.iadd, 1) := by decide +kernel
theorem d_192_34 : decode (am_b 192) 34 = .ok (.istore 4, 2) := by decide +kernel
theorem d_192_36 : decode (am_b 192) 36 = .ok (.iload_n 3, 1) := by decide +kernel
theorem d_192_37 : decode (am_b 192) 37 = .ok (.invokestatic 143, 3) := by decide +kernel
theorem d_192_40 : decode (am_b 192) 40 = .ok (.ifCond .eq 28, 3) := by decide +kernel
theorem d_192_43 : decode (am_b 192) 43 = .ok (.iload 4, 2) := by decide +kernel
theorem d_192_45 : decode (am_b 192) 45 = .ok (.iload_n 1, 1) := by decide +kernel
theorem d_192_46 : decode (am_b 192) 46 = .ok (.if_icmp .ge 22, 3) := by decide +kernel
theorem d_192_49 : decode (am_b 192) 49 = .ok (.aload_n 0, 1) := by decide +kernel
theorem d_192_50 : decode (am_b 192) 50 = .ok (.getfield 33, 3) := by decide +kernel
theorem d_192_53 : decode (am_b 192) 53 = .ok (.iload 4, 2) := by decide +kernel
theorem d_192_55 : decode (am_b 192) 55 = .ok (.baload, 1) := by decide +kernel
theorem d_192_56 : decode (am_b 192) 56 = .ok (.invokestatic 143, 3) := by decide +kernel
theorem d_192_59 : decode (am_b 192) 59 = .ok (.ifCond .eq 9, 3) := by decide +kernel
theorem d_192_62 : decode (am_b 192) 62 = .ok (.iinc 4 1, 3) := by decide +kernel
theorem d_192_65 : decode (am_b 192) 65 = .ok (.goto (-22), 3) := by decide +kernel
theorem d_192_68 : decode (am_b 192) 68 = .ok (.iload_n 3, 1) := by decide +kernel
theorem d_192_69 : decode (am_b 192) 69 = .ok (.invokestatic 146, 3) := by decide +kernel
theorem d_192_72 : decode (am_b 192) 72 = .ok (.ifCond .eq 28, 3) := by decide +kernel
theorem d_192_75 : decode (am_b 192) 75 = .ok (.iload 4, 2) := by decide +kernel
theorem d_192_77 : decode (am_b 192) 77 = .ok (.iload_n 1, 1) := by decide +kernel
theorem d_192_78 : decode (am_b 192) 78 = .ok (.if_icmp .ge 22, 3) := by decide +kernel
theorem d_192_81 : decode (am_b 192) 81 = .ok (.aload_n 0, 1) := by decide +kernel
theorem d_192_82 : decode (am_b 192) 82 = .ok (.getfield 33, 3) := by decide +kernel
theorem d_192_85 : decode (am_b 192) 85 = .ok (.iload 4, 2) := by decide +kernel
theorem d_192_87 : decode (am_b 192) 87 = .ok (.baload, 1) := by decide +kernel
theorem d_192_88 : decode (am_b 192) 88 = .ok (.invokestatic 146, 3) := by decide +kernel
theorem d_192_91 : decode (am_b 192) 91 = .ok (.ifCond .eq 9, 3) := by decide +kernel
theorem d_192_94 : decode (am_b 192) 94 = .ok (.iinc 4 1, 3) := by decide +kernel
theorem d_192_97 : decode (am_b 192) 97 = .ok (.goto (-22), 3) := by decide +kernel
theorem d_192_100 : decode (am_b 192) 100 = .ok (.aload_n 0, 1) := by decide +kernel
theorem d_192_101 : decode (am_b 192) 101 = .ok (.getfield 49, 3) := by decide +kernel
theorem d_192_104 : decode (am_b 192) 104 = .ok (.aload_n 0, 1) := by decide +kernel
theorem d_192_105 : decode (am_b 192) 105 = .ok (.getfield 140, 3) := by decide +kernel
theorem d_192_108 : decode (am_b 192) 108 = .ok (.iload_n 2, 1) := by decide +kernel
theorem d_192_109 : decode (am_b 192) 109 = .ok (.iastore, 1) := by decide +kernel
theorem d_192_110 : decode (am_b 192) 110 = .ok (.aload_n 0, 1) := by decide +kernel
theorem d_192_111 : decode (am_b 192) 111 = .ok (.getfield 46, 3) := by decide +kernel
theorem d_192_114 : decode (am_b 192) 114 = .ok (.aload_n 0, 1) := by decide +kernel
theorem d_192_115 : decode (am_b 192) 115 = .ok (.getfield 140, 3) := by decide +kernel
theorem d_192_118 : decode (am_b 192) 118 = .ok (.iconst 0, 1) := by decide +kernel
theorem d_192_119 : decode (am_b 192) 119 = .ok (.iastore, 1) := by decide +kernel
theorem d_192_120 : decode (am_b 192) 120 = .ok (.aload_n 0, 1) := by decide +kernel
theorem d_192_121 : decode (am_b 192) 121 = .ok (.getfield 43, 3) := by decide +kernel
theorem d_192_124 : decode (am_b 192) 124 = .ok (.aload_n 0, 1) := by decide +kernel
theorem d_192_125 : decode (am_b 192) 125 = .ok (.getfield 140, 3) := by decide +kernel
theorem d_192_128 : decode (am_b 192) 128 = .ok (.iload_n 3, 1) := by decide +kernel
theorem d_192_129 : decode (am_b 192) 129 = .ok (.invokestatic 143, 3) := by decide +kernel
theorem d_192_132 : decode (am_b 192) 132 = .ok (.ifCond .eq 13, 3) := by decide +kernel
theorem d_192_135 : decode (am_b 192) 135 = .ok (.aload_n 0, 1) := by decide +kernel
theorem d_192_136 : decode (am_b 192) 136 = .ok (.iload_n 2, 1) := by decide +kernel
theorem d_192_137 : decode (am_b 192) 137 = .ok (.iload 4, 2) := by decide +kernel
theorem d_192_139 : decode (am_b 192) 139 = .ok (.invokevirtual 149, 3) := by decide +kernel
theorem d_192_142 : decode (am_b 192) 142 = .ok (.goto 23, 3) := by decide +kernel
theorem d_192_145 : decode (am_b 192) 145 = .ok (.iload_n 3, 1) := by decide +kernel
theorem d_192_146 : decode (am_b 192) 146 = .ok (.invokestatic 146, 3) := by decide +kernel
theorem d_192_149 : decode (am_b 192) 149 = .ok (.ifCond .eq 8, 3) := by decide +kernel
theorem d_192_152 : decode (am_b 192) 152 = .ok (.bipush 90, 2) := by decide +kernel
theorem d_192_154 : decode (am_b 192) 154 = .ok (.goto 11, 3) := by decide +kernel
theorem d_192_157 : decode (am_b 192) 157 = .ok (.bipush 100, 2) := by decide +kernel
theorem d_192_159 : decode (am_b 192) 159 = .ok (.iload_n 3, 1) := by decide +kernel
theorem d_192_160 : decode (am_b 192) 160 = .ok (.sipush 255, 3) := by decide +kernel
theorem d_192_163 : decode (am_b 192) 163 = .ok (.iand, 1) := by decide +kernel
theorem d_192_164 : decode (am_b 192) 164 = .ok (.iadd, 1) := by decide +kernel
theorem d_192_165 : decode (am_b 192) 165 = .ok (.iastore, 1) := by decide +kernel
theorem d_192_166 : decode (am_b 192) 166 = .ok (.iload_n 2, 1) := by decide +kernel
theorem d_192_167 : decode (am_b 192) 167 = .ok (.istore 5, 2) := by decide +kernel
theorem d_192_169 : decode (am_b 192) 169 = .ok (.iload 5, 2) := by decide +kernel
theorem d_192_171 : decode (am_b 192) 171 = .ok (.iload 4, 2) := by decide +kernel
theorem d_192_173 : decode (am_b 192) 173 = .ok (.if_icmp .ge 74, 3) := by decide +kernel
theorem d_192_176 : decode (am_b 192) 176 = .ok (.iload_n 3, 1) := by decide +kernel
theorem d_192_177 : decode (am_b 192) 177 = .ok (.invokestatic 146, 3) := by decide +kernel
theorem d_192_180 : decode (am_b 192) 180 = .ok (.ifCond .eq 67, 3) := by decide +kernel
theorem d_192_183 : decode (am_b 192) 183 = .ok (.aload_n 0, 1) := by decide +kernel
theorem d_192_184 : decode (am_b 192) 184 = .ok (.getfield 46, 3) := by decide +kernel
theorem d_192_187 : decode (am_b 192) 187 = .ok (.aload_n 0, 1) := by decide +kernel
theorem d_192_188 : decode (am_b 192) 188 = .ok (.getfield 140, 3) := by decide +kernel
theorem d_192_191 : decode (am_b 192) 191 = .ok (.aload_n 0, 1) := by decide +kernel
theorem d_192_192 : decode (am_b 192) 192 = .ok (.getfield 46, 3) := by decide +kernel
theorem d_192_195 : decode (am_b 192) 195 = .ok (.aload_n 0, 1) := by decide +kernel
theorem d_192_196 : decode (am_b 192) 196 = .ok (.getfield 140, 3) := by decide +kernel
theorem d_192_199 : decode (am_b 192) 199 = .ok (.iaload, 1) := by decide +kernel
theorem d_192_200 : decode (am_b 192) 200 = .ok (.ldc 152, 2) := by decide +kernel
theorem d_192_202 : decode (am_b 192) 202 = .ok (.if_icmp .le 15, 3) := by decide +kernel
theorem d_192_205 : decode (am_b 192) 205 = .ok (.aload_n 0, 1) := by decide +kernel
theorem d_192_206 : decode (am_b 192) 206 = .ok (.getfield 46, 3) := by decide +kernel
theorem d_192_209 : decode (am_b 192) 209 = .ok (.aload_n 0, 1) := by decide +kernel
theorem d_192_210 : decode (am_b 192) 210 = .ok (.getfield 140, 3) := by decide +kernel
theorem d_192_213 : decode (am_b 192) 213 = .ok (.iaload, 1) := by decide +kernel
theorem d_192_214 : decode (am_b 192) 214 = .ok (.goto 26, 3) := by decide +kernel
theorem d_192_217 : decode (am_b 192) 217 = .ok (.bipush 10, 2) := by decide +kernel
theorem d_192_219 : decode (am_b 192) 219 = .ok (.aload_n 0, 1) := by decide +kernel
theorem d_192_220 : decode (am_b 192) 220 = .ok (.getfield 46, 3) := by decide +kernel
theorem d_192_223 : decode (am_b 192) 223 = .ok (.aload_n 0, 1) := by decide +kernel
theorem d_192_224 : decode (am_b 192) 224 = .ok (.getfield 140, 3) := by decide +kernel
theorem d_192_227 : decode (am_b 192) 227 = .ok (.iaload, 1) := by decide +kernel
theorem d_192_228 : decode (am_b 192) 228 = .ok (.imul, 1) := by decide +kernel
theorem d_192_229 : decode (am_b 192) 229 = .ok (.aload_n 0, 1) := by decide +kernel
theorem d_192_230 : decode (am_b 192) 230 = .ok (.getfield 33, 3) := by decide +kernel
theorem d_192_233 : decode (am_b 192) 233 = .ok (.iload 5, 2) := by decide +kernel
theorem d_192_235 : decode (am_b 192) 235 = .ok (.baload, 1) := by decide +kernel
theorem d_192_236 : decode (am_b 192) 236 = .ok (.iadd, 1) := by decide +kernel
theorem d_192_237 : decode (am_b 192) 237 = .ok (.bipush 48, 2) := by decide +kernel
theorem d_192_239 : decode (am_b 192) 239 = .ok (.isub, 1) := by decide +kernel
theorem d_192_240 : decode (am_b 192) 240 = .ok (.iastore, 1) := by decide +kernel
theorem d_192_241 : decode (am_b 192) 241 = .ok (.iinc 5 1, 3) := by decide +kernel
theorem d_192_244 : decode (am_b 192) 244 = .ok (.goto (-75), 3) := by decide +kernel
theorem d_192_247 : decode (am_b 192) 247 = .ok (.aload_n 0, 1) := by decide +kernel
theorem d_192_248 : decode (am_b 192) 248 = .ok (.dup, 1) := by decide +kernel
theorem d_192_249 : decode (am_b 192) 249 = .ok (.getfield 140, 3) := by decide +kernel
theorem d_192_252 : decode (am_b 192) 252 = .ok (.iconst 1, 1) := by decide +kernel
theorem d_192_253 : decode (am_b 192) 253 = .ok (.iadd, 1) := by decide +kernel
theorem d_192_254 : decode (am_b 192) 254 = .ok (.putfield 140, 3) := by decide +kernel
theorem d_192_257 : decode (am_b 192) 257 = .ok (.iload 4, 2) := by decide +kernel
theorem d_192_259 : decode (am_b 192) 259 = .ok (.istore_n 2, 1) := by decide +kernel
theorem d_192_260 : decode (am_b 192) 260 = .ok (.goto (-253), 3) := by decide +kernel
theorem d_192_263 : decode (am_b 192) 263 = .ok (.aload_n 0, 1) := by decide +kernel
theorem d_192_264 : decode (am_b 192) 264 = .ok (.getfield 49, 3) := by decide +kernel
theorem d_192_267 : decode (am_b 192) 267 = .ok (.aload_n 0, 1) := by decide +kernel
theorem d_192_268 : decode (am_b 192) 268 = .ok (.getfield 140, 3) := by decide +kernel
theorem d_192_271 : decode (am_b 192) 271 = .ok (.iload_n 1, 1) := by decide +kernel
theorem d_192_272 : decode (am_b 192) 272 = .ok (.iastore, 1) := by decide +kernel
theorem d_192_273 : decode (am_b 192) 273 = .ok (.aload_n 0, 1) := by decide +kernel
theorem d_192_274 : decode (am_b 192) 274 = .ok (.getfield 43, 3) := by decide +kernel
theorem d_192_277 : decode (am_b 192) 277 = .ok (.aload_n 0, 1) := by decide +kernel
theorem d_192_278 : decode (am_b 192) 278 = .ok (.getfield 140, 3) := by decide +kernel
theorem d_192_281 : decode (am_b 192) 281 = .ok (.iconst 0, 1) := by decide +kernel
theorem d_192_282 : decode (am_b 192) 282 = .ok (.iastore, 1) := by decide +kernel
theorem d_192_283 : decode (am_b 192) 283 = .ok (.aload_n 0, 1) := by decide +kernel
theorem d_192_284 : decode (am_b 192) 284 = .ok (.getfield 46, 3) := by decide +kernel
theorem d_192_287 : decode (am_b 192) 287 = .ok (.aload_n 0, 1) := by decide +kernel
theorem d_192_288 : decode (am_b 192) 288 = .ok (.getfield 140, 3) := by decide +kernel
theorem d_192_291 : decode (am_b 192) 291 = .ok (.iconst 0, 1) := by decide +kernel
theorem d_192_292 : decode (am_b 192) 292 = .ok (.iastore, 1) := by decide +kernel
theorem d_192_293 : decode (am_b 192) 293 = .ok (.return_, 1) := by decide +kernel
theorem d_193_0 : decode (am_b 193) 0 = .ok (.iload_n 0, 1) := by decide +kernel
theorem d_193_1 : decode (am_b 193) 1 = .ok (.bipush 97, 2) := by decide +kernel
theorem d_193_3 : decode (am_b 193) 3 = .ok (.if_icmp .lt 13, 3) := by decide +kernel
theorem d_193_6 : decode (am_b 193) 6 = .ok (.iload_n 0, 1) := by decide +kernel
theorem d_193_7 : decode (am_b 193) 7 = .ok (.bipush 122, 2) := by decide +kernel
theorem d_193_9 : decode (am_b 193) 9 = .ok (.if_icmp .gt 7, 3) := by decide +kernel
theorem d_193_12 : decode (am_b 193) 12 = .ok (.iconst 1, 1) := by decide +kernel
theorem d_193_13 : decode (am_b 193) 13 = .ok (.goto 4, 3) := by decide +kernel
theorem d_193_16 : decode (am_b 193) 16 = .ok (.iconst 0, 1) := by decide +kernel
theorem d_193_17 : decode (am_b 193) 17 = .ok (.ireturn, 1) := by decide +kernel
theorem d_194_0 : decode (am_b 194) 0 = .ok (.iload_n 0, 1) := by decide +kernel
theorem d_194_1 : decode (am_b 194) 1 = .ok (.bipush 48, 2) := by decide +kernel
theorem d_194_3 : decode (am_b 194) 3 = .ok (.if_icmp .lt 13, 3) := by decide +kernel
theorem d_194_6 : decode (am_b 194) 6 = .ok (.iload_n 0, 1) := by decide +kernel
theorem d_194_7 : decode (am_b 194) 7 = .ok (.bipush 57, 2) := by decide +kernel
theorem d_194_9 : decode (am_b 194) 9 = .ok (.if_icmp .gt 7, 3) := by decide +kernel
theorem d_194_12 : decode (am_b 194) 12 = .ok (.iconst 1, 1) := by decide +kernel
theorem d_194_13 : decode (am_b 194) 13 = .ok (.goto 4, 3) := by decide +kernel
theorem d_194_16 : decode (am_b 194) 16 = .ok (.iconst 0, 1) := by decide +kernel
theorem d_194_17 : decode (am_b 194) 17 = .ok (.ireturn, 1) := by decide +kernel
theorem d_195_0 : decode (am_b 195) 0 = .ok (.iconst 1, 1) := by decide +kernel
theorem d_195_1 : decode (am_b 195) 1 = .ok (.istore_n 3, 1) := by decide +kernel
theorem d_195_2 : decode (am_b 195) 2 = .ok (.iconst 0, 1) := by decide +kernel
theorem d_195_3 : decode (am_b 195) 3 = .ok (.istore 4, 2) := by decide +kernel
theorem d_195_5 : decode (am_b 195) 5 = .ok (.iload 4, 2) := by decide +kernel
theorem d_195_7 : decode (am_b 195) 7 = .ok (.aload_n 0, 1) := by decide +kernel
theorem d_195_8 : decode (am_b 195) 8 = .ok (.getfield 29, 3) := by decide +kernel
theorem d_195_11 : decode (am_b 195) 11 = .ok (.arraylength, 1) := by decide +kernel
theorem d_195_12 : decode (am_b 195) 12 = .ok (.if_icmp .ge 114, 3) := by decide +kernel
theorem d_195_15 : decode (am_b 195) 15 = .ok (.iconst 0, 1) := by decide +kernel
theorem d_195_16 : decode (am_b 195) 16 = .ok (.istore 5, 2) := by decide +kernel
theorem d_195_18 : decode (am_b 195) 18 = .ok (.aload_n 0, 1) := by decide +kernel
theorem d_195_19 : decode (am_b 195) 19 = .ok (.getfield 29, 3) := by decide +kernel
theorem d_195_22 : decode (am_b 195) 22 = .ok (.iload 4, 2) := by decide +kernel
theorem d_195_24 : decode (am_b 195) 24 = .ok (.iload 5, 2) := by decide +kernel
theorem d_195_26 : decode (am_b 195) 26 = .ok (.iadd, 1) := by decide +kernel
theorem d_195_27 : decode (am_b 195) 27 = .ok (.baload, 1) := by decide +kernel
theorem d_195_28 : decode (am_b 195) 28 = .ok (.bipush 32, 2) := by decide +kernel
theorem d_195_30 : decode (am_b 195) 30 = .ok (.if_icmp .eq 9, 3) := by decide +kernel
theorem d_195_33 : decode (am_b 195) 33 = .ok (.iinc 5 1, 3) := by decide +kernel
theorem d_195_36 : decode (am_b 195) 36 = .ok (.goto (-18), 3) := by decide +kernel
theorem d_195_39 : decode (am_b 195) 39 = .ok (.iload 5, 2) := by decide +kernel
theorem d_195_41 : decode (am_b 195) 41 = .ok (.iload_n 2, 1) := by decide +kernel
theorem d_195_42 : decode (am_b 195) 42 = .ok (.iload_n 1, 1) := by decide +kernel
theorem d_195_43 : decode (am_b 195) 43 = .ok (.isub, 1) := by decide +kernel
theorem d_195_44 : decode (am_b 195) 44 = .ok (.if_icmp .ne 7, 3) := by decide +kernel
theorem d_195_47 : decode (am_b 195) 47 = .ok (.iconst 1, 1) := by decide +kernel
theorem d_195_48 : decode (am_b 195) 48 = .ok (.goto 4, 3) := by decide +kernel
theorem d_195_51 : decode (am_b 195) 51 = .ok (.iconst 0, 1) := by decide +kernel
theorem d_195_52 : decode (am_b 195) 52 = .ok (.istore 6, 2) := by decide +kernel
theorem d_195_54 : decode (am_b 195) 54 = .ok (.iconst 0, 1) := by decide +kernel
theorem d_195_55 : decode (am_b 195) 55 = .ok (.istore 7, 2) := by decide +kernel
theorem d_195_57 : decode (am_b 195) 57 = .ok (.iload 7, 2) := by decide +kernel
theorem d_195_59 : decode (am_b 195) 59 = .ok (.iload 5, 2) := by decide +kernel
theorem d_195_61 : decode (am_b 195) 61 = .ok (.if_icmp .ge 43, 3) := by decide +kernel
theorem d_195_64 : decode (am_b 195) 64 = .ok (.iload 6, 2) := by decide +kernel
theorem d_195_66 : decode (am_b 195) 66 = .ok (.ifCond .eq 38, 3) := by decide +kernel
theorem d_195_69 : decode (am_b 195) 69 = .ok (.aload_n 0, 1) := by decide +kernel
theorem d_195_70 : decode (am_b 195) 70 = .ok (.getfield 29, 3) := by decide +kernel
theorem d_195_73 : decode (am_b 195) 73 = .ok (.iload 4, 2) := by decide +kernel
theorem d_195_75 : decode (am_b 195) 75 = .ok (.iload 7, 2) := by decide +kernel
theorem d_195_77 : decode (am_b 195) 77 = .ok (.iadd, 1) := by decide +kernel
theorem d_195_78 : decode (am_b 195) 78 = .ok (.baload, 1) := by decide +kernel
theorem d_195_79 : decode (am_b 195) 79 = .ok (.aload_n 0, 1) := by decide +kernel
theorem d_195_80 : decode (am_b 195) 80 = .ok (.getfield 33, 3) := by decide +kernel
theorem d_195_83 : decode (am_b 195) 83 = .ok (.iload_n 1, 1) := by decide +kernel
theorem d_195_84 : decode (am_b 195) 84 = .ok (.iload 7, 2) := by decide +kernel
theorem d_195_86 : decode (am_b 195) 86 = .ok (.iadd, 1) := by decide +kernel
theorem d_195_87 : decode (am_b 195) 87 = .ok (.baload, 1) := by decide +kernel
theorem d_195_88 : decode (am_b 195) 88 = .ok (.if_icmp .ne 7, 3) := by decide +kernel
theorem d_195_91 : decode (am_b 195) 91 = .ok (.iconst 1, 1) := by decide +kernel
theorem d_195_92 : decode (am_b 195) 92 = .ok (.goto 4, 3) := by decide +kernel
theorem d_195_95 : decode (am_b 195) 95 = .ok (.iconst 0, 1) := by decide +kernel
theorem d_195_96 : decode (am_b 195) 96 = .ok (.istore 6, 2) := by decide +kernel
theorem d_195_98 : decode (am_b 195) 98 = .ok (.iinc 7 1, 3) := by decide +kernel
theorem d_195_101 : decode (am_b 195) 101 = .ok (.goto (-44), 3) := by decide +kernel
theorem d_195_104 : decode (am_b 195) 104 = .ok (.iload 6, 2) := by decide +kernel
theorem d_195_106 : decode (am_b 195) 106 = .ok (.ifCond .eq 5, 3) := by decide +kernel
theorem d_195_109 : decode (am_b 195) 109 = .ok (.iload_n 3, 1) := by decide +kernel
theorem d_195_110 : decode (am_b 195) 110 = .ok (.ireturn, 1) := by decide +kernel
theorem d_195_111 : decode (am_b 195) 111 = .ok (.iload 4, 2) := by decide +kernel
theorem d_195_113 : decode (am_b 195) 113 = .ok (.iload 5, 2) := by decide +kernel
theorem d_195_115 : decode (am_b 195) 115 = .ok (.iconst 1, 1) := by decide +kernel
theorem d_195_116 : decode (am_b 195) 116 = .ok (.iadd, 1) := by decide +kernel
theorem d_195_117 : decode (am_b 195) 117 = .ok (.iadd, 1) := by decide +kernel
theorem d_195_118 : decode (am_b 195) 118 = .ok (.istore 4, 2) := by decide +kernel
theorem d_195_120 : decode (am_b 195) 120 = .ok (.iinc 3 1, 3) := by decide +kernel
theorem d_195_123 : decode (am_b 195) 123 = .ok (.goto (-118), 3) := by decide +kernel
theorem d_195_126 : decode (am_b 195) 126 = .ok (.iconst 0, 1) := by decide +kernel
theorem d_195_127 : decode (am_b 195) 127 = .ok (.ireturn, 1) := by decide +kernel
theorem d_196_0 : decode (am_b 196) 0 = .ok (.aload_n 0, 1) := by decide +kernel
theorem d_196_1 : decode (am_b 196) 1 = .ok (.invokevirtual 169, 3) := by decide +kernel
theorem d_196_4 : decode (am_b 196) 4 = .ok (.aload_n 0, 1) := by decide +kernel
theorem d_196_5 : decode (am_b 196) 5 = .ok (.bipush 44, 2) := by decide +kernel
theorem d_196_7 : decode (am_b 196) 7 = .ok (.invokestatic 172, 3) := by decide +kernel
theorem d_196_10 : decode (am_b 196) 10 = .ok (.invokevirtual 163, 3) := by decide +kernel
theorem d_196_13 : decode (am_b 196) 13 = .ok (.ifCond .eq 10, 3) := by decide +kernel
theorem d_196_16 : decode (am_b 196) 16 = .ok (.aload_n 0, 1) := by decide +kernel
theorem d_196_17 : decode (am_b 196) 17 = .ok (.invokevirtual 169, 3) := by decide +kernel
theorem d_196_20 : decode (am_b 196) 20 = .ok (.goto (-16), 3) := by decide +kernel
theorem d_196_23 : decode (am_b 196) 23 = .ok (.return_, 1) := by decide +kernel
theorem d_197_0 : decode (am_b 197) 0 = .ok (.aload_n 0, 1) := by decide +kernel
theorem d_197_1 : decode (am_b 197) 1 = .ok (.iconst 0, 1) := by decide +kernel
theorem d_197_2 : decode (am_b 197) 2 = .ok (.invokevirtual 176, 3) := by decide +kernel
theorem d_197_5 : decode (am_b 197) 5 = .ok (.aload_n 0, 1) := by decide +kernel
theorem d_197_6 : decode (am_b 197) 6 = .ok (.bipush 61, 2) := by decide +kernel
theorem d_197_8 : decode (am_b 197) 8 = .ok (.invokestatic 172, 3) := by decide +kernel
theorem d_197_11 : decode (am_b 197) 11 = .ok (.invokevirtual 180, 3) := by decide +kernel
theorem d_197_14 : decode (am_b 197) 14 = .ok (.aload_n 0, 1) := by decide +kernel
theorem d_197_15 : decode (am_b 197) 15 = .ok (.iconst 0, 1) := by decide +kernel
theorem d_197_16 : decode (am_b 197) 16 = .ok (.invokevirtual 176, 3) := by decide +kernel
theorem d_197_19 : decode (am_b 197) 19 = .ok (.return_, 1) := by decide +kernel
theorem d_198_0 : decode (am_b 198) 0 = .ok (.aload_n 0, 1) := by decide +kernel
theorem d_198_1 : decode (am_b 198) 1 = .ok (.iload_n 1, 1) := by decide +kernel
theorem d_198_2 : decode (am_b 198) 2 = .ok (.invokevirtual 183, 3) := by decide +kernel
theorem d_198_5 : decode (am_b 198) 5 = .ok (.aload_n 0, 1) := by decide +kernel
theorem d_198_6 : decode (am_b 198) 6 = .ok (.bipush 42, 2) := by decide +kernel
theorem d_198_8 : decode (am_b 198) 8 = .ok (.invokestatic 172, 3) := by decide +kernel
theorem d_198_11 : decode (am_b 198) 11 = .ok (.invokevirtual 163, 3) := by decide +kernel
theorem d_198_14 : decode (am_b 198) 14 = .ok (.ifCond .ne 27, 3) := by decide +kernel
theorem d_198_17 : decode (am_b 198) 17 = .ok (.aload_n 0, 1) := by decide +kernel
theorem d_198_18 : decode (am_b 198) 18 = .ok (.bipush 47, 2) := by decide +kernel
theorem d_198_20 : decode (am_b 198) 20 = .ok (.invokestatic 172, 3) := by decide +kernel
theorem d_198_23 : decode (am_b 198) 23 = .ok (.invokevirtual 163, 3) := by decide +kernel
theorem d_198_26 : decode (am_b 198) 26 = .ok (.ifCond .ne 15, 3) := by decide +kernel
theorem d_198_29 : decode (am_b 198) 29 = .ok (.aload_n 0, 1) := by decide +kernel
theorem d_198_30 : decode (am_b 198) 30 = .ok (.bipush 92, 2) := by decide +kernel
theorem d_198_32 : decode (am_b 198) 32 = .ok (.invokestatic 172, 3) := by decide +kernel
theorem d_198_35 : decode (am_b 198) 35 = .ok (.invokevirtual 163, 3) := by decide +kernel
theorem d_198_38 : decode (am_b 198) 38 = .ok (.ifCond .eq 11, 3) := by decide +kernel
theorem d_198_41 : decode (am_b 198) 41 = .ok (.aload_n 0, 1) := by decide +kernel
theorem d_198_42 : decode (am_b 198) 42 = .ok (.iload_n 1, 1) := by decide +kernel
theorem d_198_43 : decode (am_b 198) 43 = .ok (.invokevirtual 183, 3) := by decide +kernel
theorem d_198_46 : decode (am_b 198) 46 = .ok (.goto (-41), 3) := by decide +kernel
theorem d_198_49 : decode (am_b 198) 49 = .ok (.return_, 1) := by decide +kernel
theorem d_199_0 : decode (am_b 199) 0 = .ok (.aload_n 0, 1) := by decide +kernel
theorem d_199_1 : decode (am_b 199) 1 = .ok (.invokevirtual 156, 3) := by decide +kernel
theorem d_199_4 : decode (am_b 199) 4 = .ok (.ifCond .ne 4, 3) := by decide +kernel
theorem d_199_7 : decode (am_b 199) 7 = .ok (.return_, 1) := by decide +kernel
theorem d_199_8 : decode (am_b 199) 8 = .ok (.aload_n 0, 1) := by decide +kernel
theorem d_199_9 : decode (am_b 199) 9 = .ok (.getfield 43, 3) := by decide +kernel
theorem d_199_12 : decode (am_b 199) 12 = .ok (.aload_n 0, 1) := by decide +kernel
theorem d_199_13 : decode (am_b 199) 13 = .ok (.getfield 160, 3) := by decide +kernel
theorem d_199_16 : decode (am_b 199) 16 = .ok (.iaload, 1) := by decide +kernel
theorem d_199_17 : decode (am_b 199) 17 = .ok (.istore_n 2, 1) := by decide +kernel
theorem d_199_18 : decode (am_b 199) 18 = .ok (.iload_n 2, 1) := by decide +kernel
theorem d_199_19 : decode (am_b 199) 19 = .ok (.bipush 40, 2) := by decide +kernel
theorem d_199_21 : decode (am_b 199) 21 = .ok (.invokestatic 172, 3) := by decide +kernel
theorem d_199_24 : decode (am_b 199) 24 = .ok (.if_icmp .ne 50, 3) := by decide +kernel
theorem d_199_27 : decode (am_b 199) 27 = .ok (.iload_n 1, 1) := by decide +kernel
theorem d_199_28 : decode (am_b 199) 28 = .ok (.bipush 8, 2) := by decide +kernel
theorem d_199_30 : decode (am_b 199) 30 = .ok (.if_icmp .ne 7, 3) := by decide +kernel
theorem d_199_33 : decode (am_b 199) 33 = .ok (.aload_n 0, 1) := by decide +kernel
theorem d_199_34 : decode (am_b 199) 34 = .ok (.invokevirtual 166, 3) := by decide +kernel
theorem d_199_37 : decode (am_b 199) 37 = .ok (.aload_n 0, 1) := by decide +kernel
theorem d_199_38 : decode (am_b 199) 38 = .ok (.invokevirtual 156, 3) := by decide +kernel
theorem d_199_41 : decode (am_b 199) 41 = .ok (.ifCond .ne 4, 3) := by decide +kernel
theorem d_199_44 : decode (am_b 199) 44 = .ok (.return_, 1) := by decide +kernel
theorem d_199_45 : decode (am_b 199) 45 = .ok (.aload_n 0, 1) := by decide +kernel
theorem d_199_46 : decode (am_b 199) 46 = .ok (.dup, 1) := by decide +kernel
theorem d_199_47 : decode (am_b 199) 47 = .ok (.getfield 160, 3) := by decide +kernel
theorem d_199_50 : decode (am_b 199) 50 = .ok (.iconst 1, 1) := by decide +kernel
theorem d_199_51 : decode (am_b 199) 51 = .ok (.iadd, 1) := by decide +kernel
theorem d_199_52 : decode (am_b 199) 52 = .ok (.putfield 160, 3) := by decide +kernel
theorem d_199_55 : decode (am_b 199) 55 = .ok (.aload_n 0, 1) := by decide +kernel
theorem d_199_56 : decode (am_b 199) 56 = .ok (.iload_n 1, 1) := by decide +kernel
theorem d_199_57 : decode (am_b 199) 57 = .ok (.iconst 1, 1) := by decide +kernel
theorem d_199_58 : decode (am_b 199) 58 = .ok (.iadd, 1) := by decide +kernel
theorem d_199_59 : decode (am_b 199) 59 = .ok (.invokevirtual 176, 3) := by decide +kernel
theorem d_199_62 : decode (am_b 199) 62 = .ok (.aload_n 0, 1) := by decide +kernel
theorem d_199_63 : decode (am_b 199) 63 = .ok (.bipush 41, 2) := by decide +kernel
theorem d_199_65 : decode (am_b 199) 65 = .ok (.invokestatic 172, 3) := by decide +kernel
theorem d_199_68 : decode (am_b 199) 68 = .ok (.invokevirtual 180, 3) := by decide +kernel
theorem d_199_71 : decode (am_b 199) 71 = .ok (.goto 59, 3) := by decide +kernel
theorem d_199_74 : decode (am_b 199) 74 = .ok (.iload_n 2, 1) := by decide +kernel
theorem d_199_75 : decode (am_b 199) 75 = .ok (.iconst 1, 1) := by decide +kernel
theorem d_199_76 : decode (am_b 199) 76 = .ok (.iconst 4, 1) := by decide +kernel
theorem d_199_77 : decode (am_b 199) 77 = .ok (.invokestatic 106, 3) := by decide +kernel
theorem d_199_80 : decode (am_b 199) 80 = .ok (.ifCond .eq 46, 3) := by decide +kernel
theorem d_199_83 : decode (am_b 199) 83 = .ok (.aload_n 0, 1) := by decide +kernel
theorem d_199_84 : decode (am_b 199) 84 = .ok (.getfield 186, 3) := by decide +kernel
theorem d_199_87 : decode (am_b 199) 87 = .ok (.bipush 32, 2) := by decide +kernel
theorem d_199_89 : decode (am_b 199) 89 = .ok (.if_icmp .ne 7, 3) := by decide +kernel
theorem d_199_92 : decode (am_b 199) 92 = .ok (.aload_n 0, 1) := by decide +kernel
theorem d_199_93 : decode (am_b 199) 93 = .ok (.invokevirtual 166, 3) := by decide +kernel
theorem d_199_96 : decode (am_b 199) 96 = .ok (.aload_n 0, 1) := by decide +kernel
theorem d_199_97 : decode (am_b 199) 97 = .ok (.dup, 1) := by decide +kernel
theorem d_199_98 : decode (am_b 199) 98 = .ok (.getfield 186, 3) := by decide +kernel
theorem d_199_101 : decode (am_b 199) 101 = .ok (.iconst 1, 1) := by decide +kernel
theorem d_199_102 : decode (am_b 199) 102 = .ok (.iadd, 1) := by decide +kernel
theorem d_199_103 : decode (am_b 199) 103 = .ok (.putfield 186, 3) := by decide +kernel
theorem d_199_106 : decode (am_b 199) 106 = .ok (.aload_n 0, 1) := by decide +kernel
theorem d_199_107 : decode (am_b 199) 107 = .ok (.invokevirtual 156, 3) := by decide +kernel
theorem d_199_110 : decode (am_b 199) 110 = .ok (.ifCond .eq 20, 3) := by decide +kernel
theorem d_199_113 : decode (am_b 199) 113 = .ok (.aload_n 0, 1) := by decide +kernel
theorem d_199_114 : decode (am_b 199) 114 = .ok (.dup, 1) := by decide +kernel
theorem d_199_115 : decode (am_b 199) 115 = .ok (.getfield 160, 3) := by decide +kernel
theorem d_199_118 : decode (am_b 199) 118 = .ok (.iconst 1, 1) := by decide +kernel
theorem d_199_119 : decode (am_b 199) 119 = .ok (.iadd, 1) := by decide +kernel
theorem d_199_120 : decode (am_b 199) 120 = .ok (.putfield 160, 3) := by decide +kernel
theorem d_199_123 : decode (am_b 199) 123 = .ok (.goto 7, 3) := by decide +kernel
theorem d_199_126 : decode (am_b 199) 126 = .ok (.aload_n 0, 1) := by decide +kernel
theorem d_199_127 : decode (am_b 199) 127 = .ok (.invokevirtual 166, 3) := by decide +kernel
theorem d_199_130 : decode (am_b 199) 130 = .ok (.return_, 1) := by decide +kernel
theorem d_200_0 : decode (am_b 200) 0 = .ok (.aload_n 0, 1) := by decide +kernel
theorem d_200_1 : decode (am_b 200) 1 = .ok (.getfield 153, 3) := by decide +kernel
theorem d_200_4 : decode (am_b 200) 4 = .ok (.iconst (-1), 1) := by decide +kernel
theorem d_200_5 : decode (am_b 200) 5 = .ok (.if_icmp .ne 7, 3) := by decide +kernel
theorem d_200_8 : decode (am_b 200) 8 = .ok (.iconst 1, 1) := by decide +kernel
theorem d_200_9 : decode (am_b 200) 9 = .ok (.goto 4, 3) := by decide +kernel
theorem d_200_12 : decode (am_b 200) 12 = .ok (.iconst 0, 1) := by decide +kernel
theorem d_200_13 : decode (am_b 200) 13 = .ok (.ireturn, 1) := by decide +kernel
theorem d_201_0 : decode (am_b 201) 0 = .ok (.bipush 100, 2) := by decide +kernel
theorem d_201_2 : decode (am_b 201) 2 = .ok (.iload_n 0, 1) := by decide +kernel
theorem d_201_3 : decode (am_b 201) 3 = .ok (.iadd, 1) := by decide +kernel
theorem d_201_4 : decode (am_b 201) 4 = .ok (.ireturn, 1) := by decide +kernel
theorem d_202_0 : decode (am_b 202) 0 = .ok (.aload_n 0, 1) := by decide +kernel
theorem d_202_1 : decode (am_b 202) 1 = .ok (.invokevirtual 156, 3) := by decide +kernel
theorem d_202_4 : decode (am_b 202) 4 = .ok (.ifCond .eq 16, 3) := by decide +kernel
theorem d_202_7 : decode (am_b 202) 7 = .ok (.aload_n 0, 1) := by decide +kernel
theorem d_202_8 : decode (am_b 202) 8 = .ok (.aload_n 0, 1) := by decide +kernel
theorem d_202_9 : decode (am_b 202) 9 = .ok (.getfield 49, 3) := by decide +kernel
theorem d_202_12 : decode (am_b 202) 12 = .ok (.aload_n 0, 1) := by decide +kernel
theorem d_202_13 : decode (am_b 202) 13 = .ok (.getfield 160, 3) := by decide +kernel
theorem d_202_16 : decode (am_b 202) 16 = .ok (.iaload, 1) := by decide +kernel
theorem d_202_17 : decode (am_b 202) 17 = .ok (.putfield 153, 3) := by decide +kernel
theorem d_202_20 : decode (am_b 202) 20 = .ok (.return_, 1) := by decide +kernel
theorem d_203_0 : decode (am_b 203) 0 = .ok (.aload_n 0, 1) := by decide +kernel
theorem d_203_1 : decode (am_b 203) 1 = .ok (.iload_n 1, 1) := by decide +kernel
theorem d_203_2 : decode (am_b 203) 2 = .ok (.invokevirtual 163, 3) := by decide +kernel
theorem d_203_5 : decode (am_b 203) 5 = .ok (.ifCond .ne 7, 3) := by decide +kernel
theorem d_203_8 : decode (am_b 203) 8 = .ok (.aload_n 0, 1) := by decide +kernel
theorem d_203_9 : decode (am_b 203) 9 = .ok (.invokevirtual 166, 3) := by decide +kernel
theorem d_203_12 : decode (am_b 203) 12 = .ok (.return_, 1) := by decide +kernel
theorem d_204_0 : decode (am_b 204) 0 = .ok (.aload_n 0, 1) := by decide +kernel
theorem d_204_1 : decode (am_b 204) 1 = .ok (.invokevirtual 156, 3) := by decide +kernel
theorem d_204_4 : decode (am_b 204) 4 = .ok (.ifCond .eq 20, 3) := by decide +kernel
theorem d_204_7 : decode (am_b 204) 7 = .ok (.aload_n 0, 1) := by decide +kernel
theorem d_204_8 : decode (am_b 204) 8 = .ok (.getfield 43, 3) := by decide +kernel
theorem d_204_11 : decode (am_b 204) 11 = .ok (.aload_n 0, 1) := by decide +kernel
theorem d_204_12 : decode (am_b 204) 12 = .ok (.getfield 160, 3) := by decide +kernel
theorem d_204_15 : decode (am_b 204) 15 = .ok (.iaload, 1) := by decide +kernel
theorem d_204_16 : decode (am_b 204) 16 = .ok (.iload_n 1, 1) := by decide +kernel
theorem d_204_17 : decode (am_b 204) 17 = .ok (.if_icmp .ne 7, 3) := by decide +kernel
theorem d_204_20 : decode (am_b 204) 20 = .ok (.iconst 1, 1) := by decide +kernel
theorem d_204_21 : decode (am_b 204) 21 = .ok (.goto 4, 3) := by decide +kernel
theorem d_204_24 : decode (am_b 204) 24 = .ok (.iconst 0, 1) := by decide +kernel
theorem d_204_25 : decode (am_b 204) 25 = .ok (.istore_n 2, 1) := by decide +kernel
theorem d_204_26 : decode (am_b 204) 26 = .ok (.iload_n 2, 1) := by decide +kernel
theorem d_204_27 : decode (am_b 204) 27 = .ok (.ifCond .eq 13, 3) := by decide +kernel
theorem d_204_30 : decode (am_b 204) 30 = .ok (.aload_n 0, 1) := by decide +kernel
theorem d_204_31 : decode (am_b 204) 31 = .ok (.dup, 1) := by decide +kernel
theorem d_204_32 : decode (am_b 204) 32 = .ok (.getfield 160, 3) := by decide +kernel
theorem d_204_35 : decode (am_b 204) 35 = .ok (.iconst 1, 1) := by decide +kernel
theorem d_204_36 : decode (am_b 204) 36 = .ok (.iadd, 1) := by decide +kernel
theorem d_204_37 : decode (am_b 204) 37 = .ok (.putfield 160, 3) := by decide +kernel
theorem d_204_40 : decode (am_b 204) 40 = .ok (.iload_n 2, 1) := by decide +kernel
theorem d_204_41 : decode (am_b 204) 41 = .ok (.ireturn, 1) := by decide +kernel
theorem d_205_0 : decode (am_b 205) 0 = .ok (.aload_n 0, 1) := by decide +kernel
theorem d_205_1 : decode (am_b 205) 1 = .ok (.getfield 39, 3) := by decide +kernel
theorem d_205_4 : decode (am_b 205) 4 = .ok (.ireturn, 1) := by decide +kernel
theorem d_206_0 : decode (am_b 206) 0 = .ok (.aload_n 0, 1) := by decide +kernel
theorem d_206_1 : decode (am_b 206) 1 = .ok (.iload_n 1, 1) := by decide +kernel
theorem d_206_2 : decode (am_b 206) 2 = .ok (.invokevirtual 124, 3) := by decide +kernel
theorem d_206_5 : decode (am_b 206) 5 = .ok (.ifCond .eq 11, 3) := by decide +kernel
theorem d_206_8 : decode (am_b 206) 8 = .ok (.aload_n 0, 1) := by decide +kernel
theorem d_206_9 : decode (am_b 206) 9 = .ok (.iload_n 2, 1) := by decide +kernel
theorem d_206_10 : decode (am_b 206) 10 = .ok (.invokevirtual 245, 3) := by decide +kernel
theorem d_206_13 : decode (am_b 206) 13 = .ok (.ifCond .ne 5, 3) := by decide +kernel
theorem d_206_16 : decode (am_b 206) 16 = .ok (.iconst (-1), 1) := by decide +kernel
theorem d_206_17 : decode (am_b 206) 17 = .ok (.ireturn, 1) := by decide +kernel
theorem d_206_18 : decode (am_b 206) 18 = .ok (.aload_n 0, 1) := by decide +kernel
theorem d_206_19 : decode (am_b 206) 19 = .ok (.iload_n 1, 1) := by decide +kernel
theorem d_206_20 : decode (am_b 206) 20 = .ok (.invokevirtual 248, 3) := by decide +kernel
theorem d_206_23 : decode (am_b 206) 23 = .ok (.aload_n 0, 1) := by decide +kernel
theorem d_206_24 : decode (am_b 206) 24 = .ok (.iload_n 2, 1) := by decide +kernel
theorem d_206_25 : decode (am_b 206) 25 = .ok (.invokevirtual 251, 3) := by decide +kernel
theorem d_206_28 : decode (am_b 206) 28 = .ok (.ifCond .eq 7, 3) := by decide +kernel
theorem d_206_31 : decode (am_b 206) 31 = .ok (.iconst 1, 1) := by decide +kernel
theorem d_206_32 : decode (am_b 206) 32 = .ok (.goto 4, 3) := by decide +kernel
theorem d_206_35 : decode (am_b 206) 35 = .ok (.iconst 0, 1) := by decide +kernel
theorem d_206_36 : decode (am_b 206) 36 = .ok (.ireturn, 1) := by decide +kernel
theorem d_207_0 : decode (am_b 207) 0 = .ok (.iload_n 1, 1) := by decide +kernel
theorem d_207_1 : decode (am_b 207) 1 = .ok (.iconst 0, 1) := by decide +kernel
theorem d_207_2 : decode (am_b 207) 2 = .ok (.aload_n 0, 1) := by decide +kernel
theorem d_207_3 : decode (am_b 207) 3 = .ok (.getfield 13, 3) := by decide +kernel
theorem d_207_6 : decode (am_b 207) 6 = .ok (.sipush 2509, 3) := by decide +kernel
theorem d_207_9 : decode (am_b 207) 9 = .ok (.iaload, 1) := by decide +kernel
theorem d_207_10 : decode (am_b 207) 10 = .ok (.iconst 1, 1) := by decide +kernel
theorem d_207_11 : decode (am_b 207) 11 = .ok (.isub, 1) := by decide +kernel
theorem d_207_12 : decode (am_b 207) 12 = .ok (.invokestatic 106, 3) := by decide +kernel
theorem d_207_15 : decode (am_b 207) 15 = .ok (.ireturn, 1) := by decide +kernel
theorem d_208_0 : decode (am_b 208) 0 = .ok (.aload_n 0, 1) := by decide +kernel
theorem d_208_1 : decode (am_b 208) 1 = .ok (.aload_n 0, 1) := by decide +kernel
theorem d_208_2 : decode (am_b 208) 2 = .ok (.iload_n 1, 1) := by decide +kernel
theorem d_208_3 : decode (am_b 208) 3 = .ok (.invokevirtual 121, 3) := by decide +kernel
theorem d_208_6 : decode (am_b 208) 6 = .ok (.putfield 127, 3) := by decide +kernel
theorem d_208_9 : decode (am_b 208) 9 = .ok (.iconst 0, 1) := by decide +kernel
theorem d_208_10 : decode (am_b 208) 10 = .ok (.istore_n 2, 1) := by decide +kernel
theorem d_208_11 : decode (am_b 208) 11 = .ok (.iload_n 2, 1) := by decide +kernel
theorem d_208_12 : decode (am_b 208) 12 = .ok (.aload_n 0, 1) := by decide +kernel
theorem d_208_13 : decode (am_b 208) 13 = .ok (.getfield 127, 3) := by decide +kernel
theorem d_208_16 : decode (am_b 208) 16 = .ok (.aload_n 0, 1) := by decide +kernel
theorem d_208_17 : decode (am_b 208) 17 = .ok (.getfield 127, 3) := by decide +kernel
theorem d_208_20 : decode (am_b 208) 20 = .ok (.imul, 1) := by decide +kernel
theorem d_208_21 : decode (am_b 208) 21 = .ok (.if_icmp .ge 28, 3) := by decide +kernel
theorem d_208_24 : decode (am_b 208) 24 = .ok (.aload_n 0, 1) := by decide +kernel
theorem d_208_25 : decode (am_b 208) 25 = .ok (.getfield 23, 3) := by decide +kernel
theorem d_208_28 : decode (am_b 208) 28 = .ok (.iload_n 2, 1) := by decide +kernel
theorem d_208_29 : decode (am_b 208) 29 = .ok (.aload_n 0, 1) := by decide +kernel
theorem d_208_30 : decode (am_b 208) 30 = .ok (.getfield 13, 3) := by decide +kernel
theorem d_208_33 : decode (am_b 208) 33 = .ok (.bipush 37, 2) := by decide +kernel
theorem d_208_35 : decode (am_b 208) 35 = .ok (.iload_n 1, 1) := by decide +kernel
theorem d_208_36 : decode (am_b 208) 36 = .ok (.imul, 1) := by decide +kernel
theorem d_208_37 : decode (am_b 208) 37 = .ok (.iconst 1, 1) := by decide +kernel
theorem d_208_38 : decode (am_b 208) 38 = .ok (.iadd, 1) := by decide +kernel
theorem d_208_39 : decode (am_b 208) 39 = .ok (.iload_n 2, 1) := by decide +kernel
theorem d_208_40 : decode (am_b 208) 40 = .ok (.iadd, 1) := by decide +kernel
theorem d_208_41 : decode (am_b 208) 41 = .ok (.iaload, 1) := by decide +kernel
theorem d_208_42 : decode (am_b 208) 42 = .ok (.iastore, 1) := by decide +kernel
theorem d_208_43 : decode (am_b 208) 43 = .ok (.iinc 2 1, 3) := by decide +kernel
theorem d_208_46 : decode (am_b 208) 46 = .ok (.goto (-35), 3) := by decide +kernel
theorem d_208_49 : decode (am_b 208) 49 = .ok (.return_, 1) := by decide +kernel
theorem d_209_0 : decode (am_b 209) 0 = .ok (.aload_n 0, 1) := by decide +kernel
theorem d_209_1 : decode (am_b 209) 1 = .ok (.iload_n 1, 1) := by decide +kernel
theorem d_209_2 : decode (am_b 209) 2 = .ok (.iconst 1, 1) := by decide +kernel
theorem d_209_3 : decode (am_b 209) 3 = .ok (.invokevirtual 241, 3) := by decide +kernel
theorem d_209_6 : decode (am_b 209) 6 = .ok (.aload_n 0, 1) := by decide +kernel
theorem d_209_7 : decode (am_b 209) 7 = .ok (.getfield 226, 3) := by decide +kernel
theorem d_209_10 : decode (am_b 209) 10 = .ok (.ifCond .ne 7, 3) := by decide +kernel
theorem d_209_13 : decode (am_b 209) 13 = .ok (.iconst 1, 1) := by decide +kernel
theorem d_209_14 : decode (am_b 209) 14 = .ok (.goto 4, 3) := by decide +kernel
theorem d_209_17 : decode (am_b 209) 17 = .ok (.iconst 0, 1) := by decide +kernel
theorem d_209_18 : decode (am_b 209) 18 = .ok (.ireturn, 1) := by decide +kernel
theorem d_210_0 : decode (am_b 210) 0 = .ok (.aload_n 0, 1) := by decide +kernel
theorem d_210_1 : decode (am_b 210) 1 = .ok (.iload_n 1, 1) := by decide +kernel
theorem d_210_2 : decode (am_b 210) 2 = .ok (.invokevirtual 220, 3) := by decide +kernel
theorem d_210_5 : decode (am_b 210) 5 = .ok (.istore_n 3, 1) := by decide +kernel
theorem d_210_6 : decode (am_b 210) 6 = .ok (.aload_n 0, 1) := by decide +kernel
theorem d_210_7 : decode (am_b 210) 7 = .ok (.getfield 52, 3) := by decide +kernel
theorem d_210_10 : decode (am_b 210) 10 = .ok (.iconst 4, 1) := by decide +kernel
theorem d_210_11 : decode (am_b 210) 11 = .ok (.aload_n 0, 1) := by decide +kernel
theorem d_210_12 : decode (am_b 210) 12 = .ok (.iconst 0, 1) := by decide +kernel
theorem d_210_13 : decode (am_b 210) 13 = .ok (.invokevirtual 223, 3) := by decide +kernel
theorem d_210_16 : decode (am_b 210) 16 = .ok (.iconst (-1), 1) := by decide +kernel
theorem d_210_17 : decode (am_b 210) 17 = .ok (.if_icmp .ne 7, 3) := by decide +kernel
theorem d_210_20 : decode (am_b 210) 20 = .ok (.iconst 0, 1) := by decide +kernel
theorem d_210_21 : decode (am_b 210) 21 = .ok (.goto 8, 3) := by decide +kernel
theorem d_210_24 : decode (am_b 210) 24 = .ok (.aload_n 0, 1) := by decide +kernel
theorem d_210_25 : decode (am_b 210) 25 = .ok (.iconst 0, 1) := by decide +kernel
theorem d_210_26 : decode (am_b 210) 26 = .ok (.invokevirtual 223, 3) := by decide +kernel
theorem d_210_29 : decode (am_b 210) 29 = .ok (.iastore, 1) := by decide +kernel
theorem d_210_30 : decode (am_b 210) 30 = .ok (.aload_n 0, 1) := by decide +kernel
theorem d_210_31 : decode (am_b 210) 31 = .ok (.iconst 0, 1) := by decide +kernel
theorem d_210_32 : decode (am_b 210) 32 = .ok (.putfield 226, 3) := by decide +kernel
theorem d_210_35 : decode (am_b 210) 35 = .ok (.aload_n 0, 1) := by decide +kernel
theorem d_210_36 : decode (am_b 210) 36 = .ok (.iconst (-1), 1) := by decide +kernel
theorem d_210_37 : decode (am_b 210) 37 = .ok (.putfield 229, 3) := by decide +kernel
theorem d_210_40 : decode (am_b 210) 40 = .ok (.aload_n 0, 1) := by decide +kernel
theorem d_210_41 : decode (am_b 210) 41 = .ok (.iconst (-1), 1) := by decide +kernel
theorem d_210_42 : decode (am_b 210) 42 = .ok (.putfield 232, 3) := by decide +kernel
theorem d_210_45 : decode (am_b 210) 45 = .ok (.aload_n 0, 1) := by decide +kernel
theorem d_210_46 : decode (am_b 210) 46 = .ok (.iconst (-1), 1) := by decide +kernel
theorem d_210_47 : decode (am_b 210) 47 = .ok (.putfield 235, 3) := by decide +kernel
theorem d_210_50 : decode (am_b 210) 50 = .ok (.iconst 0, 1) := by decide +kernel
theorem d_210_51 : decode (am_b 210) 51 = .ok (.istore 4, 2) := by decide +kernel
theorem d_210_53 : decode (am_b 210) 53 = .ok (.iload 4, 2) := by decide +kernel
theorem d_210_55 : decode (am_b 210) 55 = .ok (.iload_n 3, 1) := by decide +kernel
theorem d_210_56 : decode (am_b 210) 56 = .ok (.iconst 2, 1) := by decide +kernel
theorem d_210_57 : decode (am_b 210) 57 = .ok (.iand, 1) := by decide +kernel
theorem d_210_58 : decode (am_b 210) 58 = .ok (.ifCond .le 10, 3) := by decide +kernel
theorem d_210_61 : decode (am_b 210) 61 = .ok (.aload_n 0, 1) := by decide +kernel
theorem d_210_62 : decode (am_b 210) 62 = .ok (.getfield 127, 3) := by decide +kernel
theorem d_210_65 : decode (am_b 210) 65 = .ok (.goto 4, 3) := by decide +kernel
theorem d_210_68 : decode (am_b 210) 68 = .ok (.iconst 1, 1) := by decide +kernel
theorem d_210_69 : decode (am_b 210) 69 = .ok (.if_icmp .ge 148, 3) := by decide +kernel
theorem d_210_72 : decode (am_b 210) 72 = .ok (.iconst 0, 1) := by decide +kernel
theorem d_210_73 : decode (am_b 210) 73 = .ok (.istore 5, 2) := by decide +kernel
theorem d_210_75 : decode (am_b 210) 75 = .ok (.iload 5, 2) := by decide +kernel
theorem d_210_77 : decode (am_b 210) 77 = .ok (.iload_n 3, 1) := by decide +kernel
theorem d_210_78 : decode (am_b 210) 78 = .ok (.iconst 4, 1) := by decide +kernel
theorem d_210_79 : decode (am_b 210) 79 = .ok (.iand, 1) := by decide +kernel
theorem d_210_80 : decode (am_b 210) 80 = .ok (.ifCond .le 10, 3) := by decide +kernel
theorem d_210_83 : decode (am_b 210) 83 = .ok (.aload_n 0, 1) := by decide +kernel
theorem d_210_84 : decode (am_b 210) 84 = .ok (.getfield 127, 3) := by decide +kernel
theorem d_210_87 : decode (am_b 210) 87 = .ok (.goto 4, 3) := by decide +kernel
theorem d_210_90 : decode (am_b 210) 90 = .ok (.iconst 1, 1) := by decide +kernel
theorem d_210_91 : decode (am_b 210) 91 = .ok (.if_icmp .ge 120, 3) := by decide +kernel
theorem d_210_94 : decode (am_b 210) 94 = .ok (.iconst 0, 1) := by decide +kernel
theorem d_210_95 : decode (am_b 210) 95 = .ok (.istore 6, 2) := by decide +kernel
theorem d_210_97 : decode (am_b 210) 97 = .ok (.iload 6, 2) := by decide +kernel
theorem d_210_99 : decode (am_b 210) 99 = .ok (.iload_n 3, 1) := by decide +kernel
theorem d_210_100 : decode (am_b 210) 100 = .ok (.bipush 8, 2) := by decide +kernel
theorem d_210_102 : decode (am_b 210) 102 = .ok (.iand, 1) := by decide +kernel
theorem d_210_103 : decode (am_b 210) 103 = .ok (.ifCond .le 10, 3) := by decide +kernel
theorem d_210_106 : decode (am_b 210) 106 = .ok (.aload_n 0, 1) := by decide +kernel
theorem d_210_107 : decode (am_b 210) 107 = .ok (.getfield 127, 3) := by decide +kernel
theorem d_210_110 : decode (am_b 210) 110 = .ok (.goto 4, 3) := by decide +kernel
theorem d_210_113 : decode (am_b 210) 113 = .ok (.iconst 1, 1) := by decide +kernel
theorem d_210_114 : decode (am_b 210) 114 = .ok (.if_icmp .ge 91, 3) := by decide +kernel
theorem d_210_117 : decode (am_b 210) 117 = .ok (.iload_n 2, 1) := by decide +kernel
theorem d_210_118 : decode (am_b 210) 118 = .ok (.ifCond .eq 11, 3) := by decide +kernel
theorem d_210_121 : decode (am_b 210) 121 = .ok (.aload_n 0, 1) := by decide +kernel
theorem d_210_122 : decode (am_b 210) 122 = .ok (.getfield 226, 3) := by decide +kernel
theorem d_210_125 : decode (am_b 210) 125 = .ok (.ifCond .le 4, 3) := by decide +kernel
theorem d_210_128 : decode (am_b 210) 128 = .ok (.return_, 1) := by decide +kernel
theorem d_210_129 : decode (am_b 210) 129 = .ok (.aload_n 0, 1) := by decide +kernel
theorem d_210_130 : decode (am_b 210) 130 = .ok (.getfield 52, 3) := by decide +kernel
theorem d_210_133 : decode (am_b 210) 133 = .ok (.iconst 1, 1) := by decide +kernel
theorem d_210_134 : decode (am_b 210) 134 = .ok (.iload 4, 2) := by decide +kernel
theorem d_210_136 : decode (am_b 210) 136 = .ok (.iastore, 1) := by decide +kernel
theorem d_210_137 : decode (am_b 210) 137 = .ok (.aload_n 0, 1) := by decide +kernel
theorem d_210_138 : decode (am_b 210) 138 = .ok (.getfield 52, 3) := by decide +kernel
theorem d_210_141 : decode (am_b 210) 141 = .ok (.iconst 2, 1) := by decide +kernel
theorem d_210_142 : decode (am_b 210) 142 = .ok (.iload 5, 2) := by decide +kernel
theorem d_210_144 : decode (am_b 210) 144 = .ok (.iastore, 1) := by decide +kernel
theorem d_210_145 : decode (am_b 210) 145 = .ok (.aload_n 0, 1) := by decide +kernel
theorem d_210_146 : decode (am_b 210) 146 = .ok (.getfield 52, 3) := by decide +kernel
theorem d_210_149 : decode (am_b 210) 149 = .ok (.iconst 3, 1) := by decide +kernel
theorem d_210_150 : decode (am_b 210) 150 = .ok (.iload 6, 2) := by decide +kernel
theorem d_210_152 : decode (am_b 210) 152 = .ok (.iastore, 1) := by decide +kernel
theorem d_210_153 : decode (am_b 210) 153 = .ok (.aload_n 0, 1) := by decide +kernel
theorem d_210_154 : decode (am_b 210) 154 = .ok (.iload_n 1, 1) := by decide +kernel
theorem d_210_155 : decode (am_b 210) 155 = .ok (.invokevirtual 238, 3) := by decide +kernel
theorem d_210_158 : decode (am_b 210) 158 = .ok (.ifCond .ne 6, 3) := by decide +kernel
theorem d_210_161 : decode (am_b 210) 161 = .ok (.goto 38, 3) := by decide +kernel
theorem d_210_164 : decode (am_b 210) 164 = .ok (.aload_n 0, 1) := by decide +kernel
theorem d_210_165 : decode (am_b 210) 165 = .ok (.getfield 226, 3) := by decide +kernel
theorem d_210_168 : decode (am_b 210) 168 = .ok (.ifCond .ne 21, 3) := by decide +kernel
theorem d_210_171 : decode (am_b 210) 171 = .ok (.aload_n 0, 1) := by decide +kernel
theorem d_210_172 : decode (am_b 210) 172 = .ok (.iload 4, 2) := by decide +kernel
theorem d_210_174 : decode (am_b 210) 174 = .ok (.putfield 229, 3) := by decide +kernel
theorem d_210_177 : decode (am_b 210) 177 = .ok (.aload_n 0, 1) := by decide +kernel
theorem d_210_178 : decode (am_b 210) 178 = .ok (.iload 5, 2) := by decide +kernel
theorem d_210_180 : decode (am_b 210) 180 = .ok (.putfield 232, 3) := by decide +kernel
theorem d_210_183 : decode (am_b 210) 183 = .ok (.aload_n 0, 1) := by decide +kernel
theorem d_210_184 : decode (am_b 210) 184 = .ok (.iload 6, 2) := by decide +kernel
theorem d_210_186 : decode (am_b 210) 186 = .ok (.putfield 235, 3) := by decide +kernel
theorem d_210_189 : decode (am_b 210) 189 = .ok (.aload_n 0, 1) := by decide +kernel
theorem d_210_190 : decode (am_b 210) 190 = .ok (.dup, 1) := by decide +kernel
theorem d_210_191 : decode (am_b 210) 191 = .ok (.getfield 226, 3) := by decide +kernel
theorem d_210_194 : decode (am_b 210) 194 = .ok (.iconst 1, 1) := by decide +kernel
theorem d_210_195 : decode (am_b 210) 195 = .ok (.iadd, 1) := by decide +kernel
theorem d_210_196 : decode (am_b 210) 196 = .ok (.putfield 226, 3) := by decide +kernel
theorem d_210_199 : decode (am_b 210) 199 = .ok (.iinc 6 1, 3) := by decide +kernel
theorem d_210_202 : decode (am_b 210) 202 = .ok (.goto (-105), 3) := by decide +kernel
theorem d_210_205 : decode (am_b 210) 205 = .ok (.iinc 5 1, 3) := by decide +kernel
theorem d_210_208 : decode (am_b 210) 208 = .ok (.goto (-133), 3) := by decide +kernel
theorem d_210_211 : decode (am_b 210) 211 = .ok (.iinc 4 1, 3) := by decide +kernel
theorem d_210_214 : decode (am_b 210) 214 = .ok (.goto (-161), 3) := by decide +kernel
theorem d_210_217 : decode (am_b 210) 217 = .ok (.return_, 1) := by decide +kernel
theorem d_211_0 : decode (am_b 211) 0 = .ok (.iconst 0, 1) := by decide +kernel
theorem d_211_1 : decode (am_b 211) 1 = .ok (.istore_n 2, 1) := by decide +kernel
theorem d_211_2 : decode (am_b 211) 2 = .ok (.iconst 0, 1) := by decide +kernel
theorem d_211_3 : decode (am_b 211) 3 = .ok (.istore_n 3, 1) := by decide +kernel
theorem d_211_4 : decode (am_b 211) 4 = .ok (.iload_n 3, 1) := by decide +kernel
theorem d_211_5 : decode (am_b 211) 5 = .ok (.aload_n 0, 1) := by decide +kernel
theorem d_211_6 : decode (am_b 211) 6 = .ok (.getfield 13, 3) := by decide +kernel
theorem d_211_9 : decode (am_b 211) 9 = .ok (.sipush 2512, 3) := by decide +kernel
theorem d_211_12 : decode (am_b 211) 12 = .ok (.iload_n 1, 1) := by decide +kernel
theorem d_211_13 : decode (am_b 211) 13 = .ok (.iadd, 1) := by decide +kernel
theorem d_211_14 : decode (am_b 211) 14 = .ok (.iaload, 1) := by decide +kernel
theorem d_211_15 : decode (am_b 211) 15 = .ok (.if_icmp .ge 54, 3) := by decide +kernel
theorem d_211_18 : decode (am_b 211) 18 = .ok (.aload_n 0, 1) := by decide +kernel
theorem d_211_19 : decode (am_b 211) 19 = .ok (.getfield 13, 3) := by decide +kernel
theorem d_211_22 : decode (am_b 211) 22 = .ok (.sipush 2520, 3) := by decide +kernel
theorem d_211_25 : decode (am_b 211) 25 = .ok (.sipush 400, 3) := by decide +kernel
theorem d_211_28 : decode (am_b 211) 28 = .ok (.iload_n 1, 1) := by decide +kernel
theorem d_211_29 : decode (am_b 211) 29 = .ok (.imul, 1) := by decide +kernel
theorem d_211_30 : decode (am_b 211) 30 = .ok (.iadd, 1) := by decide +kernel
theorem d_211_31 : decode (am_b 211) 31 = .ok (.iload_n 3, 1) := by decide +kernel
theorem d_211_32 : decode (am_b 211) 32 = .ok (.iadd, 1) := by decide +kernel
theorem d_211_33 : decode (am_b 211) 33 = .ok (.iaload, 1) := by decide +kernel
theorem d_211_34 : decode (am_b 211) 34 = .ok (.iconst 1, 1) := by decide +kernel
theorem d_211_35 : decode (am_b 211) 35 = .ok (.iconst 3, 1) := by decide +kernel
theorem d_211_36 : decode (am_b 211) 36 = .ok (.invokestatic 106, 3) := by decide +kernel
theorem d_211_39 : decode (am_b 211) 39 = .ok (.ifCond .eq 24, 3) := by decide +kernel
theorem d_211_42 : decode (am_b 211) 42 = .ok (.iload_n 2, 1) := by decide +kernel
theorem d_211_43 : decode (am_b 211) 43 = .ok (.iconst 1, 1) := by decide +kernel
theorem d_211_44 : decode (am_b 211) 44 = .ok (.aload_n 0, 1) := by decide +kernel
theorem d_211_45 : decode (am_b 211) 45 = .ok (.getfield 13, 3) := by decide +kernel
theorem d_211_48 : decode (am_b 211) 48 = .ok (.sipush 2520, 3) := by decide +kernel
theorem d_211_51 : decode (am_b 211) 51 = .ok (.sipush 400, 3) := by decide +kernel
theorem d_211_54 : decode (am_b 211) 54 = .ok (.iload_n 1, 1) := by decide +kernel
theorem d_211_55 : decode (am_b 211) 55 = .ok (.imul, 1) := by decide +kernel
theorem d_211_56 : decode (am_b 211) 56 = .ok (.iadd, 1) := by decide +kernel
theorem d_211_57 : decode (am_b 211) 57 = .ok (.iload_n 3, 1) := by decide +kernel
theorem d_211_58 : decode (am_b 211) 58 = .ok (.iadd, 1) := by decide +kernel
theorem d_211_59 : decode (am_b 211) 59 = .ok (.iaload, 1) := by decide +kernel
theorem d_211_60 : decode (am_b 211) 60 = .ok (.ishl, 1) := by decide +kernel
theorem d_211_61 : decode (am_b 211) 61 = .ok (.ior, 1) := by decide +kernel
theorem d_211_62 : decode (am_b 211) 62 = .ok (.istore_n 2, 1) := by decide +kernel
theorem d_211_63 : decode (am_b 211) 63 = .ok (.iinc 3 1, 3) := by decide +kernel
theorem d_211_66 : decode (am_b 211) 66 = .ok (.goto (-62), 3) := by decide +kernel
theorem d_211_69 : decode (am_b 211) 69 = .ok (.iload_n 2, 1) := by decide +kernel
theorem d_211_70 : decode (am_b 211) 70 = .ok (.ireturn, 1) := by decide +kernel
theorem d_212_0 : decode (am_b 212) 0 = .ok (.iconst 0, 1) := by decide +kernel
theorem d_212_1 : decode (am_b 212) 1 = .ok (.istore_n 2, 1) := by decide +kernel
theorem d_212_2 : decode (am_b 212) 2 = .ok (.iload_n 2, 1) := by decide +kernel
theorem d_212_3 : decode (am_b 212) 3 = .ok (.aload_n 0, 1) := by decide +kernel
theorem d_212_4 : decode (am_b 212) 4 = .ok (.getfield 127, 3) := by decide +kernel
theorem d_212_7 : decode (am_b 212) 7 = .ok (.if_icmp .ge 79, 3) := by decide +kernel
theorem d_212_10 : decode (am_b 212) 10 = .ok (.iconst 1, 1) := by decide +kernel
theorem d_212_11 : decode (am_b 212) 11 = .ok (.istore_n 3, 1) := by decide +kernel
theorem d_212_12 : decode (am_b 212) 12 = .ok (.iconst 0, 1) := by decide +kernel
theorem d_212_13 : decode (am_b 212) 13 = .ok (.istore 4, 2) := by decide +kernel
theorem d_212_15 : decode (am_b 212) 15 = .ok (.iload 4, 2) := by decide +kernel
theorem d_212_17 : decode (am_b 212) 17 = .ok (.aload_n 0, 1) := by decide +kernel
theorem d_212_18 : decode (am_b 212) 18 = .ok (.getfield 127, 3) := by decide +kernel
theorem d_212_21 : decode (am_b 212) 21 = .ok (.if_icmp .ge 53, 3) := by decide +kernel
theorem d_212_24 : decode (am_b 212) 24 = .ok (.iload_n 3, 1) := by decide +kernel
theorem d_212_25 : decode (am_b 212) 25 = .ok (.ifCond .eq 41, 3) := by decide +kernel
theorem d_212_28 : decode (am_b 212) 28 = .ok (.iload_n 1, 1) := by decide +kernel
theorem d_212_29 : decode (am_b 212) 29 = .ok (.iconst 2, 1) := by decide +kernel
theorem d_212_30 : decode (am_b 212) 30 = .ok (.if_icmp .eq 15, 3) := by decide +kernel
theorem d_212_33 : decode (am_b 212) 33 = .ok (.aload_n 0, 1) := by decide +kernel
theorem d_212_34 : decode (am_b 212) 34 = .ok (.iload_n 2, 1) := by decide +kernel
theorem d_212_35 : decode (am_b 212) 35 = .ok (.iload 4, 2) := by decide +kernel
theorem d_212_37 : decode (am_b 212) 37 = .ok (.invokevirtual 130, 3) := by decide +kernel
theorem d_212_40 : decode (am_b 212) 40 = .ok (.iload 4, 2) := by decide +kernel
theorem d_212_42 : decode (am_b 212) 42 = .ok (.if_icmp .ne 24, 3) := by decide +kernel
theorem d_212_45 : decode (am_b 212) 45 = .ok (.iload_n 1, 1) := by decide +kernel
theorem d_212_46 : decode (am_b 212) 46 = .ok (.iconst 1, 1) := by decide +kernel
theorem d_212_47 : decode (am_b 212) 47 = .ok (.if_icmp .eq 15, 3) := by decide +kernel
theorem d_212_50 : decode (am_b 212) 50 = .ok (.aload_n 0, 1) := by decide +kernel
theorem d_212_51 : decode (am_b 212) 51 = .ok (.iload 4, 2) := by decide +kernel
theorem d_212_53 : decode (am_b 212) 53 = .ok (.iload_n 2, 1) := by decide +kernel
theorem d_212_54 : decode (am_b 212) 54 = .ok (.invokevirtual 130, 3) := by decide +kernel
theorem d_212_57 : decode (am_b 212) 57 = .ok (.iload 4, 2) := by decide +kernel
theorem d_212_59 : decode (am_b 212) 59 = .ok (.if_icmp .ne 7, 3) := by decide +kernel
theorem d_212_62 : decode (am_b 212) 62 = .ok (.iconst 1, 1) := by decide +kernel
theorem d_212_63 : decode (am_b 212) 63 = .ok (.goto 4, 3) := by decide +kernel
theorem d_212_66 : decode (am_b 212) 66 = .ok (.iconst 0, 1) := by decide +kernel
theorem d_212_67 : decode (am_b 212) 67 = .ok (.istore_n 3, 1) := by decide +kernel
theorem d_212_68 : decode (am_b 212) 68 = .ok (.iinc 4 1, 3) := by decide +kernel
theorem d_212_71 : decode (am_b 212) 71 = .ok (.goto (-56), 3) := by decide +kernel
theorem d_212_74 : decode (am_b 212) 74 = .ok (.iload_n 3, 1) := by decide +kernel
theorem d_212_75 : decode (am_b 212) 75 = .ok (.ifCond .eq 5, 3) := by decide +kernel
theorem d_212_78 : decode (am_b 212) 78 = .ok (.iload_n 2, 1) := by decide +kernel
theorem d_212_79 : decode (am_b 212) 79 = .ok (.ireturn, 1) := by decide +kernel
theorem d_212_80 : decode (am_b 212) 80 = .ok (.iinc 2 1, 3) := by decide +kernel
theorem d_212_83 : decode (am_b 212) 83 = .ok (.goto (-81), 3) := by decide +kernel
theorem d_212_86 : decode (am_b 212) 86 = .ok (.iconst (-1), 1) := by decide +kernel
theorem d_212_87 : decode (am_b 212) 87 = .ok (.ireturn, 1) := by decide +kernel
theorem d_213_0 : decode (am_b 213) 0 = .ok (.aload_n 0, 1) := by decide +kernel
theorem d_213_1 : decode (am_b 213) 1 = .ok (.getfield 23, 3) := by decide +kernel
theorem d_213_4 : decode (am_b 213) 4 = .ok (.aload_n 0, 1) := by decide +kernel
theorem d_213_5 : decode (am_b 213) 5 = .ok (.getfield 127, 3) := by decide +kernel
theorem d_213_8 : decode (am_b 213) 8 = .ok (.iload_n 1, 1) := by decide +kernel
theorem d_213_9 : decode (am_b 213) 9 = .ok (.imul, 1) := by decide +kernel
theorem d_213_10 : decode (am_b 213) 10 = .ok (.iload_n 2, 1) := by decide +kernel
theorem d_213_11 : decode (am_b 213) 11 = .ok (.iadd, 1) := by decide +kernel
theorem d_213_12 : decode (am_b 213) 12 = .ok (.iaload, 1) := by decide +kernel
theorem d_213_13 : decode (am_b 213) 13 = .ok (.ireturn, 1) := by decide +kernel
theorem d_214_0 : decode (am_b 214) 0 = .ok (.aload_n 0, 1) := by decide +kernel
theorem d_214_1 : decode (am_b 214) 1 = .ok (.sipush 400, 3) := by decide +kernel
theorem d_214_4 : decode (am_b 214) 4 = .ok (.iload_n 1, 1) := by decide +kernel
theorem d_214_5 : decode (am_b 214) 5 = .ok (.imul, 1) := by decide +kernel
theorem d_214_6 : decode (am_b 214) 6 = .ok (.putfield 202, 3) := by decide +kernel
theorem d_214_9 : decode (am_b 214) 9 = .ok (.aload_n 0, 1) := by decide +kernel
theorem d_214_10 : decode (am_b 214) 10 = .ok (.aload_n 0, 1) := by decide +kernel
theorem d_214_11 : decode (am_b 214) 11 = .ok (.getfield 202, 3) := by decide +kernel
theorem d_214_14 : decode (am_b 214) 14 = .ok (.aload_n 0, 1) := by decide +kernel
theorem d_214_15 : decode (am_b 214) 15 = .ok (.getfield 13, 3) := by decide +kernel
theorem d_214_18 : decode (am_b 214) 18 = .ok (.sipush 2512, 3) := by decide +kernel
theorem d_214_21 : decode (am_b 214) 21 = .ok (.iload_n 1, 1) := by decide +kernel
theorem d_214_22 : decode (am_b 214) 22 = .ok (.iadd, 1) := by decide +kernel
theorem d_214_23 : decode (am_b 214) 23 = .ok (.iaload, 1) := by decide +kernel
theorem d_214_24 : decode (am_b 214) 24 = .ok (.iadd, 1) := by decide +kernel
theorem d_214_25 : decode (am_b 214) 25 = .ok (.putfield 195, 3) := by decide +kernel
theorem d_214_28 : decode (am_b 214) 28 = .ok (.aload_n 0, 1) := by decide +kernel
theorem d_214_29 : decode (am_b 214) 29 = .ok (.invokevirtual 217, 3) := by decide +kernel
theorem d_214_32 : decode (am_b 214) 32 = .ok (.istore_n 2, 1) := by decide +kernel
theorem d_214_33 : decode (am_b 214) 33 = .ok (.aload_n 0, 1) := by decide +kernel
theorem d_214_34 : decode (am_b 214) 34 = .ok (.aload_n 0, 1) := by decide +kernel
theorem d_214_35 : decode (am_b 214) 35 = .ok (.getfield 202, 3) := by decide +kernel
theorem d_214_38 : decode (am_b 214) 38 = .ok (.invokevirtual 205, 3) := by decide +kernel
theorem d_214_41 : decode (am_b 214) 41 = .ok (.iconst 5, 1) := by decide +kernel
theorem d_214_42 : decode (am_b 214) 42 = .ok (.if_icmp .eq 13, 3) := by decide +kernel
theorem d_214_45 : decode (am_b 214) 45 = .ok (.iload_n 2, 1) := by decide +kernel
theorem d_214_46 : decode (am_b 214) 46 = .ok (.ifCond .ne 7, 3) := by decide +kernel
theorem d_214_49 : decode (am_b 214) 49 = .ok (.iconst 1, 1) := by decide +kernel
theorem d_214_50 : decode (am_b 214) 50 = .ok (.goto 4, 3) := by decide +kernel
theorem d_214_53 : decode (am_b 214) 53 = .ok (.iconst 0, 1) := by decide +kernel
theorem d_214_54 : decode (am_b 214) 54 = .ok (.ireturn, 1) := by decide +kernel
theorem d_214_55 : decode (am_b 214) 55 = .ok (.aload_n 0, 1) := by decide +kernel
theorem d_214_56 : decode (am_b 214) 56 = .ok (.dup, 1) := by decide +kernel
theorem d_214_57 : decode (am_b 214) 57 = .ok (.getfield 202, 3) := by decide +kernel
theorem d_214_60 : decode (am_b 214) 60 = .ok (.iconst 1, 1) := by decide +kernel
theorem d_214_61 : decode (am_b 214) 61 = .ok (.iadd, 1) := by decide +kernel
theorem d_214_62 : decode (am_b 214) 62 = .ok (.putfield 202, 3) := by decide +kernel
theorem d_214_65 : decode (am_b 214) 65 = .ok (.aload_n 0, 1) := by decide +kernel
theorem d_214_66 : decode (am_b 214) 66 = .ok (.invokevirtual 217, 3) := by decide +kernel
theorem d_214_69 : decode (am_b 214) 69 = .ok (.ifCond .eq 11, 3) := by decide +kernel
theorem d_214_72 : decode (am_b 214) 72 = .ok (.iload_n 2, 1) := by decide +kernel
theorem d_214_73 : decode (am_b 214) 73 = .ok (.ifCond .ne 7, 3) := by decide +kernel
theorem d_214_76 : decode (am_b 214) 76 = .ok (.iconst 1, 1) := by decide +kernel
theorem d_214_77 : decode (am_b 214) 77 = .ok (.goto 4, 3) := by decide +kernel
theorem d_214_80 : decode (am_b 214) 80 = .ok (.iconst 0, 1) := by decide +kernel
theorem d_214_81 : decode (am_b 214) 81 = .ok (.ireturn, 1) := by decide +kernel
theorem d_215_0 : decode (am_b 215) 0 = .ok (.iconst 1, 1) := by decide +kernel
theorem d_215_1 : decode (am_b 215) 1 = .ok (.istore_n 1, 1) := by decide +kernel
theorem d_215_2 : decode (am_b 215) 2 = .ok (.iconst 1, 1) := by decide +kernel
theorem d_215_3 : decode (am_b 215) 3 = .ok (.istore_n 2, 1) := by decide +kernel
theorem d_215_4 : decode (am_b 215) 4 = .ok (.iload_n 2, 1) := by decide +kernel
theorem d_215_5 : decode (am_b 215) 5 = .ok (.ifCond .eq 79, 3) := by decide +kernel
theorem d_215_8 : decode (am_b 215) 8 = .ok (.aload_n 0, 1) := by decide +kernel
theorem d_215_9 : decode (am_b 215) 9 = .ok (.invokevirtual 214, 3) := by decide +kernel
theorem d_215_12 : decode (am_b 215) 12 = .ok (.istore_n 3, 1) := by decide +kernel
theorem d_215_13 : decode (am_b 215) 13 = .ok (.aload_n 0, 1) := by decide +kernel
theorem d_215_14 : decode (am_b 215) 14 = .ok (.dup, 1) := by decide +kernel
theorem d_215_15 : decode (am_b 215) 15 = .ok (.getfield 202, 3) := by decide +kernel
theorem d_215_18 : decode (am_b 215) 18 = .ok (.iconst 1, 1) := by decide +kernel
theorem d_215_19 : decode (am_b 215) 19 = .ok (.iadd, 1) := by decide +kernel
theorem d_215_20 : decode (am_b 215) 20 = .ok (.putfield 202, 3) := by decide +kernel
theorem d_215_23 : decode (am_b 215) 23 = .ok (.iload_n 3, 1) := by decide +kernel
theorem d_215_24 : decode (am_b 215) 24 = .ok (.aload_n 0, 1) := by decide +kernel
theorem d_215_25 : decode (am_b 215) 25 = .ok (.invokevirtual 214, 3) := by decide +kernel
theorem d_215_28 : decode (am_b 215) 28 = .ok (.if_icmp .ne 11, 3) := by decide +kernel
theorem d_215_31 : decode (am_b 215) 31 = .ok (.iload_n 1, 1) := by decide +kernel
theorem d_215_32 : decode (am_b 215) 32 = .ok (.ifCond .eq 7, 3) := by decide +kernel
theorem d_215_35 : decode (am_b 215) 35 = .ok (.iconst 1, 1) := by decide +kernel
theorem d_215_36 : decode (am_b 215) 36 = .ok (.goto 4, 3) := by decide +kernel
theorem d_215_39 : decode (am_b 215) 39 = .ok (.iconst 0, 1) := by decide +kernel
theorem d_215_40 : decode (am_b 215) 40 = .ok (.istore_n 1, 1) := by decide +kernel
theorem d_215_41 : decode (am_b 215) 41 = .ok (.aload_n 0, 1) := by decide +kernel
theorem d_215_42 : decode (am_b 215) 42 = .ok (.aload_n 0, 1) := by decide +kernel
theorem d_215_43 : decode (am_b 215) 43 = .ok (.getfield 202, 3) := by decide +kernel
theorem d_215_46 : decode (am_b 215) 46 = .ok (.invokevirtual 205, 3) := by decide +kernel
theorem d_215_49 : decode (am_b 215) 49 = .ok (.bipush 44, 2) := by decide +kernel
theorem d_215_51 : decode (am_b 215) 51 = .ok (.invokestatic 172, 3) := by decide +kernel
theorem d_215_54 : decode (am_b 215) 54 = .ok (.if_icmp .ne 7, 3) := by decide +kernel
theorem d_215_57 : decode (am_b 215) 57 = .ok (.iconst 1, 1) := by decide +kernel
theorem d_215_58 : decode (am_b 215) 58 = .ok (.goto 4, 3) := by decide +kernel
theorem d_215_61 : decode (am_b 215) 61 = .ok (.iconst 0, 1) := by decide +kernel
theorem d_215_62 : decode (am_b 215) 62 = .ok (.istore_n 2, 1) := by decide +kernel
theorem d_215_63 : decode (am_b 215) 63 = .ok (.aload_n 0, 1) := by decide +kernel
theorem d_215_64 : decode (am_b 215) 64 = .ok (.dup, 1) := by decide +kernel
theorem d_215_65 : decode (am_b 215) 65 = .ok (.getfield 202, 3) := by decide +kernel
theorem d_215_68 : decode (am_b 215) 68 = .ok (.iload_n 2, 1) := by decide +kernel
theorem d_215_69 : decode (am_b 215) 69 = .ok (.ifCond .eq 7, 3) := by decide +kernel
theorem d_215_72 : decode (am_b 215) 72 = .ok (.iconst 1, 1) := by decide +kernel
theorem d_215_73 : decode (am_b 215) 73 = .ok (.goto 4, 3) := by decide +kernel
theorem d_215_76 : decode (am_b 215) 76 = .ok (.iconst 0, 1) := by decide +kernel
theorem d_215_77 : decode (am_b 215) 77 = .ok (.iadd, 1) := by decide +kernel
theorem d_215_78 : decode (am_b 215) 78 = .ok (.putfield 202, 3) := by decide +kernel
theorem d_215_81 : decode (am_b 215) 81 = .ok (.goto (-77), 3) := by decide +kernel
theorem d_215_84 : decode (am_b 215) 84 = .ok (.iload_n 1, 1) := by decide +kernel
theorem d_215_85 : decode (am_b 215) 85 = .ok (.ireturn, 1) := by decide +kernel
theorem d_216_0 : decode (am_b 216) 0 = .ok (.aload_n 0, 1) := by decide +kernel
theorem d_216_1 : decode (am_b 216) 1 = .ok (.invokevirtual 198, 3) := by decide +kernel
theorem d_216_4 : decode (am_b 216) 4 = .ok (.istore_n 1, 1) := by decide +kernel
theorem d_216_5 : decode (am_b 216) 5 = .ok (.aload_n 0, 1) := by decide +kernel
theorem d_216_6 : decode (am_b 216) 6 = .ok (.aload_n 0, 1) := by decide +kernel
theorem d_216_7 : decode (am_b 216) 7 = .ok (.getfield 202, 3) := by decide +kernel
theorem d_216_10 : decode (am_b 216) 10 = .ok (.invokevirtual 205, 3) := by decide +kernel
theorem d_216_13 : decode (am_b 216) 13 = .ok (.istore_n 2, 1) := by decide +kernel
theorem d_216_14 : decode (am_b 216) 14 = .ok (.iload_n 2, 1) := by decide +kernel
theorem d_216_15 : decode (am_b 216) 15 = .ok (.bipush 42, 2) := by decide +kernel
theorem d_216_17 : decode (am_b 216) 17 = .ok (.invokestatic 172, 3) := by decide +kernel
theorem d_216_20 : decode (am_b 216) 20 = .ok (.if_icmp .eq 23, 3) := by decide +kernel
theorem d_216_23 : decode (am_b 216) 23 = .ok (.iload_n 2, 1) := by decide +kernel
theorem d_216_24 : decode (am_b 216) 24 = .ok (.bipush 47, 2) := by decide +kernel
theorem d_216_26 : decode (am_b 216) 26 = .ok (.invokestatic 172, 3) := by decide +kernel
theorem d_216_29 : decode (am_b 216) 29 = .ok (.if_icmp .eq 14, 3) := by decide +kernel
theorem d_216_32 : decode (am_b 216) 32 = .ok (.iload_n 2, 1) := by decide +kernel
theorem d_216_33 : decode (am_b 216) 33 = .ok (.bipush 92, 2) := by decide +kernel
theorem d_216_35 : decode (am_b 216) 35 = .ok (.invokestatic 172, 3) := by decide +kernel
theorem d_216_38 : decode (am_b 216) 38 = .ok (.if_icmp .eq 5, 3) := by decide +kernel
theorem d_216_41 : decode (am_b 216) 41 = .ok (.iload_n 1, 1) := by decide +kernel
theorem d_216_42 : decode (am_b 216) 42 = .ok (.ireturn, 1) := by decide +kernel
theorem d_216_43 : decode (am_b 216) 43 = .ok (.aload_n 0, 1) := by decide +kernel
theorem d_216_44 : decode (am_b 216) 44 = .ok (.dup, 1) := by decide +kernel
theorem d_216_45 : decode (am_b 216) 45 = .ok (.getfield 202, 3) := by decide +kernel
theorem d_216_48 : decode (am_b 216) 48 = .ok (.iconst 1, 1) := by decide +kernel
theorem d_216_49 : decode (am_b 216) 49 = .ok (.iadd, 1) := by decide +kernel
theorem d_216_50 : decode (am_b 216) 50 = .ok (.putfield 202, 3) := by decide +kernel
theorem d_216_53 : decode (am_b 216) 53 = .ok (.aload_n 0, 1) := by decide +kernel
theorem d_216_54 : decode (am_b 216) 54 = .ok (.invokevirtual 198, 3) := by decide +kernel
theorem d_216_57 : decode (am_b 216) 57 = .ok (.istore_n 3, 1) := by decide +kernel
theorem d_216_58 : decode (am_b 216) 58 = .ok (.iload_n 2, 1) := by decide +kernel
theorem d_216_59 : decode (am_b 216) 59 = .ok (.bipush 42, 2) := by decide +kernel
theorem d_216_61 : decode (am_b 216) 61 = .ok (.invokestatic 172, 3) := by decide +kernel
theorem d_216_64 : decode (am_b 216) 64 = .ok (.if_icmp .ne 12, 3) := by decide +kernel
theorem d_216_67 : decode (am_b 216) 67 = .ok (.aload_n 0, 1) := by decide +kernel
theorem d_216_68 : decode (am_b 216) 68 = .ok (.iload_n 1, 1) := by decide +kernel
theorem d_216_69 : decode (am_b 216) 69 = .ok (.iload_n 3, 1) := by decide +kernel
theorem d_216_70 : decode (am_b 216) 70 = .ok (.invokevirtual 130, 3) := by decide +kernel
theorem d_216_73 : decode (am_b 216) 73 = .ok (.goto 27, 3) := by decide +kernel
theorem d_216_76 : decode (am_b 216) 76 = .ok (.iload_n 2, 1) := by decide +kernel
theorem d_216_77 : decode (am_b 216) 77 = .ok (.bipush 47, 2) := by decide +kernel
theorem d_216_79 : decode (am_b 216) 79 = .ok (.invokestatic 172, 3) := by decide +kernel
theorem d_216_82 : decode (am_b 216) 82 = .ok (.if_icmp .ne 12, 3) := by decide +kernel
theorem d_216_85 : decode (am_b 216) 85 = .ok (.aload_n 0, 1) := by decide +kernel
theorem d_216_86 : decode (am_b 216) 86 = .ok (.iload_n 1, 1) := by decide +kernel
theorem d_216_87 : decode (am_b 216) 87 = .ok (.iload_n 3, 1) := by decide +kernel
theorem d_216_88 : decode (am_b 216) 88 = .ok (.invokevirtual 208, 3) := by decide +kernel
theorem d_216_91 : decode (am_b 216) 91 = .ok (.goto 9, 3) := by decide +kernel
theorem d_216_94 : decode (am_b 216) 94 = .ok (.aload_n 0, 1) := by decide +kernel
theorem d_216_95 : decode (am_b 216) 95 = .ok (.iload_n 1, 1) := by decide +kernel
theorem d_216_96 : decode (am_b 216) 96 = .ok (.iload_n 3, 1) := by decide +kernel
theorem d_216_97 : decode (am_b 216) 97 = .ok (.invokevirtual 211, 3) := by decide +kernel
theorem d_216_100 : decode (am_b 216) 100 = .ok (.istore_n 1, 1) := by decide +kernel
theorem d_216_101 : decode (am_b 216) 101 = .ok (.goto (-96), 3) := by decide +kernel
theorem d_217_0 : decode (am_b 217) 0 = .ok (.aload_n 0, 1) := by decide +kernel
theorem d_217_1 : decode (am_b 217) 1 = .ok (.aload_n 0, 1) := by decide +kernel
theorem d_217_2 : decode (am_b 217) 2 = .ok (.getfield 202, 3) := by decide +kernel
theorem d_217_5 : decode (am_b 217) 5 = .ok (.invokevirtual 205, 3) := by decide +kernel
theorem d_217_8 : decode (am_b 217) 8 = .ok (.istore_n 1, 1) := by decide +kernel
theorem d_217_9 : decode (am_b 217) 9 = .ok (.aload_n 0, 1) := by decide +kernel
theorem d_217_10 : decode (am_b 217) 10 = .ok (.dup, 1) := by decide +kernel
theorem d_217_11 : decode (am_b 217) 11 = .ok (.getfield 202, 3) := by decide +kernel
theorem d_217_14 : decode (am_b 217) 14 = .ok (.iconst 1, 1) := by decide +kernel
theorem d_217_15 : decode (am_b 217) 15 = .ok (.iadd, 1) := by decide +kernel
theorem d_217_16 : decode (am_b 217) 16 = .ok (.putfield 202, 3) := by decide +kernel
theorem d_217_19 : decode (am_b 217) 19 = .ok (.iload_n 1, 1) := by decide +kernel
theorem d_217_20 : decode (am_b 217) 20 = .ok (.bipush 40, 2) := by decide +kernel
theorem d_217_22 : decode (am_b 217) 22 = .ok (.invokestatic 172, 3) := by decide +kernel
theorem d_217_25 : decode (am_b 217) 25 = .ok (.if_icmp .eq 10, 3) := by decide +kernel
theorem d_217_28 : decode (am_b 217) 28 = .ok (.aload_n 0, 1) := by decide +kernel
theorem d_217_29 : decode (am_b 217) 29 = .ok (.getfield 52, 3) := by decide +kernel
theorem d_217_32 : decode (am_b 217) 32 = .ok (.iload_n 1, 1) := by decide +kernel
theorem d_217_33 : decode (am_b 217) 33 = .ok (.iaload, 1) := by decide +kernel
theorem d_217_34 : decode (am_b 217) 34 = .ok (.ireturn, 1) := by decide +kernel
theorem d_217_35 : decode (am_b 217) 35 = .ok (.aload_n 0, 1) := by decide +kernel
theorem d_217_36 : decode (am_b 217) 36 = .ok (.invokevirtual 214, 3) := by decide +kernel
theorem d_217_39 : decode (am_b 217) 39 = .ok (.istore_n 2, 1) := by decide +kernel
theorem d_217_40 : decode (am_b 217) 40 = .ok (.aload_n 0, 1) := by decide +kernel
theorem d_217_41 : decode (am_b 217) 41 = .ok (.dup, 1) := by decide +kernel
theorem d_217_42 : decode (am_b 217) 42 = .ok (.getfield 202, 3) := by decide +kernel
theorem d_217_45 : decode (am_b 217) 45 = .ok (.iconst 1, 1) := by decide +kernel
theorem d_217_46 : decode (am_b 217) 46 = .ok (.iadd, 1) := by decide +kernel
theorem d_217_47 : decode (am_b 217) 47 = .ok (.putfield 202, 3) := by decide +kernel
theorem d_217_50 : decode (am_b 217) 50 = .ok (.iload_n 2, 1) := by decide +kernel
theorem d_217_51 : decode (am_b 217) 51 = .ok (.ireturn, 1) := by decide +kernel
theorem d_218_0 : decode (am_b 218) 0 = .ok (.iload_n 1, 1) := by decide +kernel
theorem d_218_1 : decode (am_b 218) 1 = .ok (.aload_n 0, 1) := by decide +kernel
theorem d_218_2 : decode (am_b 218) 2 = .ok (.getfield 195, 3) := by decide +kernel
theorem d_218_5 : decode (am_b 218) 5 = .ok (.if_icmp .ge 16, 3) := by decide +kernel
theorem d_218_8 : decode (am_b 218) 8 = .ok (.aload_n 0, 1) := by decide +kernel
theorem d_218_9 : decode (am_b 218) 9 = .ok (.getfield 13, 3) := by decide +kernel
theorem d_218_12 : decode (am_b 218) 12 = .ok (.sipush 2520, 3) := by decide +kernel
theorem d_218_15 : decode (am_b 218) 15 = .ok (.iload_n 1, 1) := by decide +kernel
theorem d_218_16 : decode (am_b 218) 16 = .ok (.iadd, 1) := by decide +kernel
theorem d_218_17 : decode (am_b 218) 17 = .ok (.iaload, 1) := by decide +kernel
theorem d_218_18 : decode (am_b 218) 18 = .ok (.goto 4, 3) := by decide +kernel
theorem d_218_21 : decode (am_b 218) 21 = .ok (.iconst 0, 1) := by decide +kernel
theorem d_218_22 : decode (am_b 218) 22 = .ok (.ireturn, 1) := by decide +kernel
theorem d_219_0 : decode (am_b 219) 0 = .ok (.iconst 0, 1) := by decide +kernel
theorem d_219_1 : decode (am_b 219) 1 = .ok (.istore_n 3, 1) := by decide +kernel
theorem d_219_2 : decode (am_b 219) 2 = .ok (.aload_n 0, 1) := by decide +kernel
theorem d_219_3 : decode (am_b 219) 3 = .ok (.iload_n 3, 1) := by decide +kernel
theorem d_219_4 : decode (am_b 219) 4 = .ok (.iload_n 2, 1) := by decide +kernel
theorem d_219_5 : decode (am_b 219) 5 = .ok (.invokevirtual 130, 3) := by decide +kernel
theorem d_219_8 : decode (am_b 219) 8 = .ok (.iload_n 1, 1) := by decide +kernel
theorem d_219_9 : decode (am_b 219) 9 = .ok (.if_icmp .eq 9, 3) := by decide +kernel
theorem d_219_12 : decode (am_b 219) 12 = .ok (.iinc 3 1, 3) := by decide +kernel
theorem d_219_15 : decode (am_b 219) 15 = .ok (.goto (-13), 3) := by decide +kernel
theorem d_219_18 : decode (am_b 219) 18 = .ok (.iload_n 3, 1) := by decide +kernel
theorem d_219_19 : decode (am_b 219) 19 = .ok (.ireturn, 1) := by decide +kernel
theorem d_220_0 : decode (am_b 220) 0 = .ok (.iconst 0, 1) := by decide +kernel
theorem d_220_1 : decode (am_b 220) 1 = .ok (.istore_n 3, 1) := by decide +kernel
theorem d_220_2 : decode (am_b 220) 2 = .ok (.aload_n 0, 1) := by decide +kernel
theorem d_220_3 : decode (am_b 220) 3 = .ok (.iload_n 1, 1) := by decide +kernel
theorem d_220_4 : decode (am_b 220) 4 = .ok (.iload_n 3, 1) := by decide +kernel
theorem d_220_5 : decode (am_b 220) 5 = .ok (.invokevirtual 130, 3) := by decide +kernel
theorem d_220_8 : decode (am_b 220) 8 = .ok (.iload_n 2, 1) := by decide +kernel
theorem d_220_9 : decode (am_b 220) 9 = .ok (.if_icmp .eq 9, 3) := by decide +kernel
theorem d_220_12 : decode (am_b 220) 12 = .ok (.iinc 3 1, 3) := by decide +kernel
theorem d_220_15 : decode (am_b 220) 15 = .ok (.goto (-13), 3) := by decide +kernel
theorem d_220_18 : decode (am_b 220) 18 = .ok (.iload_n 3, 1) := by decide +kernel
theorem d_220_19 : decode (am_b 220) 19 = .ok (.ireturn, 1) := by decide +kernel
theorem d_221_0 : decode (am_b 221) 0 = .ok (.aload_n 0, 1) := by decide +kernel
theorem d_221_1 : decode (am_b 221) 1 = .ok (.iload_n 1, 1) := by decide +kernel
theorem d_221_2 : decode (am_b 221) 2 = .ok (.invokevirtual 124, 3) := by decide +kernel
theorem d_221_5 : decode (am_b 221) 5 = .ok (.ifCond .eq 20, 3) := by decide +kernel
theorem d_221_8 : decode (am_b 221) 8 = .ok (.aload_n 0, 1) := by decide +kernel
theorem d_221_9 : decode (am_b 221) 9 = .ok (.iload_n 2, 1) := by decide +kernel
theorem d_221_10 : decode (am_b 221) 10 = .ok (.invokevirtual 245, 3) := by decide +kernel
theorem d_221_13 : decode (am_b 221) 13 = .ok (.ifCond .eq 12, 3) := by decide +kernel
theorem d_221_16 : decode (am_b 221) 16 = .ok (.iload_n 3, 1) := by decide +kernel
theorem d_221_17 : decode (am_b 221) 17 = .ok (.iconst 0, 1) := by decide +kernel
theorem d_221_18 : decode (am_b 221) 18 = .ok (.iconst 3, 1) := by decide +kernel
theorem d_221_19 : decode (am_b 221) 19 = .ok (.invokestatic 106, 3) := by decide +kernel
theorem d_221_22 : decode (am_b 221) 22 = .ok (.ifCond .ne 5, 3) := by decide +kernel
theorem d_221_25 : decode (am_b 221) 25 = .ok (.iconst (-1), 1) := by decide +kernel
theorem d_221_26 : decode (am_b 221) 26 = .ok (.ireturn, 1) := by decide +kernel
theorem d_221_27 : decode (am_b 221) 27 = .ok (.aload_n 0, 1) := by decide +kernel
theorem d_221_28 : decode (am_b 221) 28 = .ok (.iload_n 1, 1) := by decide +kernel
theorem d_221_29 : decode (am_b 221) 29 = .ok (.invokevirtual 248, 3) := by decide +kernel
theorem d_221_32 : decode (am_b 221) 32 = .ok (.aload_n 0, 1) := by decide +kernel
theorem d_221_33 : decode (am_b 221) 33 = .ok (.iload_n 2, 1) := by decide +kernel
theorem d_221_34 : decode (am_b 221) 34 = .ok (.iconst 0, 1) := by decide +kernel
theorem d_221_35 : decode (am_b 221) 35 = .ok (.invokevirtual 241, 3) := by decide +kernel
theorem d_221_38 : decode (am_b 221) 38 = .ok (.iload_n 3, 1) := by decide +kernel
theorem d_221_39 : decode (am_b 221) 39 = .ok (.ifCond .ne 10, 3) := by decide +kernel
theorem d_221_42 : decode (am_b 221) 42 = .ok (.aload_n 0, 1) := by decide +kernel
theorem d_221_43 : decode (am_b 221) 43 = .ok (.getfield 226, 3) := by decide +kernel
theorem d_221_46 : decode (am_b 221) 46 = .ok (.goto 31, 3) := by decide +kernel
theorem d_221_49 : decode (am_b 221) 49 = .ok (.iload_n 3, 1) := by decide +kernel
theorem d_221_50 : decode (am_b 221) 50 = .ok (.iconst 1, 1) := by decide +kernel
theorem d_221_51 : decode (am_b 221) 51 = .ok (.if_icmp .ne 10, 3) := by decide +kernel
theorem d_221_54 : decode (am_b 221) 54 = .ok (.aload_n 0, 1) := by decide +kernel
theorem d_221_55 : decode (am_b 221) 55 = .ok (.getfield 229, 3) := by decide +kernel
theorem d_221_58 : decode (am_b 221) 58 = .ok (.goto 19, 3) := by decide +kernel
theorem d_221_61 : decode (am_b 221) 61 = .ok (.iload_n 3, 1) := by decide +kernel
theorem d_221_62 : decode (am_b 221) 62 = .ok (.iconst 2, 1) := by decide +kernel
theorem d_221_63 : decode (am_b 221) 63 = .ok (.if_icmp .ne 10, 3) := by decide +kernel
theorem d_221_66 : decode (am_b 221) 66 = .ok (.aload_n 0, 1) := by decide +kernel
theorem d_221_67 : decode (am_b 221) 67 = .ok (.getfield 232, 3) := by decide +kernel
theorem d_221_70 : decode (am_b 221) 70 = .ok (.goto 7, 3) := by decide +kernel
theorem d_221_73 : decode (am_b 221) 73 = .ok (.aload_n 0, 1) := by decide +kernel
theorem d_221_74 : decode (am_b 221) 74 = .ok (.getfield 235, 3) := by decide +kernel
theorem d_221_77 : decode (am_b 221) 77 = .ok (.ireturn, 1) := by decide +kernel
theorem d_222_0 : decode (am_b 222) 0 = .ok (.iload_n 1, 1) := by decide +kernel
theorem d_222_1 : decode (am_b 222) 1 = .ok (.invokestatic 117, 3) := by decide +kernel
theorem d_222_4 : decode (am_b 222) 4 = .ok (.ifCond .ne 9, 3) := by decide +kernel
theorem d_222_7 : decode (am_b 222) 7 = .ok (.aload_n 0, 1) := by decide +kernel
theorem d_222_8 : decode (am_b 222) 8 = .ok (.iconst (-1), 1) := by decide +kernel
theorem d_222_9 : decode (am_b 222) 9 = .ok (.invokevirtual 110, 3) := by decide +kernel
theorem d_222_12 : decode (am_b 222) 12 = .ok (.ireturn, 1) := by decide +kernel
theorem d_222_13 : decode (am_b 222) 13 = .ok (.aload_n 0, 1) := by decide +kernel
theorem d_222_14 : decode (am_b 222) 14 = .ok (.getfield 137, 3) := by decide +kernel
theorem d_222_17 : decode (am_b 222) 17 = .ok (.istore_n 2, 1) := by decide +kernel
theorem d_222_18 : decode (am_b 222) 18 = .ok (.aload_n 0, 1) := by decide +kernel
theorem d_222_19 : decode (am_b 222) 19 = .ok (.iconst 0, 1) := by decide +kernel
theorem d_222_20 : decode (am_b 222) 20 = .ok (.putfield 137, 3) := by decide +kernel
theorem d_222_23 : decode (am_b 222) 23 = .ok (.aload_n 0, 1) := by decide +kernel
theorem d_222_24 : decode (am_b 222) 24 = .ok (.iload_n 2, 1) := by decide +kernel
theorem d_222_25 : decode (am_b 222) 25 = .ok (.ifCond .ne 7, 3) := by decide +kernel
theorem d_222_28 : decode (am_b 222) 28 = .ok (.iconst 0, 1) := by decide +kernel
theorem d_222_29 : decode (am_b 222) 29 = .ok (.goto 9, 3) := by decide +kernel
theorem d_222_32 : decode (am_b 222) 32 = .ok (.aload_n 0, 1) := by decide +kernel
theorem d_222_33 : decode (am_b 222) 33 = .ok (.getfield 33, 3) := by decide +kernel
theorem d_222_36 : decode (am_b 222) 36 = .ok (.iconst 0, 1) := by decide +kernel
theorem d_222_37 : decode (am_b 222) 37 = .ok (.baload, 1) := by decide +kernel
theorem d_222_38 : decode (am_b 222) 38 = .ok (.putfield 134, 3) := by decide +kernel
theorem d_222_41 : decode (am_b 222) 41 = .ok (.aload_n 0, 1) := by decide +kernel
theorem d_222_42 : decode (am_b 222) 42 = .ok (.getfield 134, 3) := by decide +kernel
theorem d_222_45 : decode (am_b 222) 45 = .ok (.iconst 1, 1) := by decide +kernel
theorem d_222_46 : decode (am_b 222) 46 = .ok (.bipush 6, 2) := by decide +kernel
theorem d_222_48 : decode (am_b 222) 48 = .ok (.invokestatic 106, 3) := by decide +kernel
theorem d_222_51 : decode (am_b 222) 51 = .ok (.ifCond .eq 18, 3) := by decide +kernel
theorem d_222_54 : decode (am_b 222) 54 = .ok (.iload_n 2, 1) := by decide +kernel
theorem d_222_55 : decode (am_b 222) 55 = .ok (.iconst 1, 1) := by decide +kernel
theorem d_222_56 : decode (am_b 222) 56 = .ok (.aload_n 0, 1) := by decide +kernel
theorem d_222_57 : decode (am_b 222) 57 = .ok (.getfield 134, 3) := by decide +kernel
theorem d_222_60 : decode (am_b 222) 60 = .ok (.aload_n 0, 1) := by decide +kernel
theorem d_222_61 : decode (am_b 222) 61 = .ok (.getfield 134, 3) := by decide +kernel
theorem d_222_64 : decode (am_b 222) 64 = .ok (.imul, 1) := by decide +kernel
theorem d_222_65 : decode (am_b 222) 65 = .ok (.iadd, 1) := by decide +kernel
theorem d_222_66 : decode (am_b 222) 66 = .ok (.if_icmp .eq 10, 3) := by decide +kernel
theorem d_222_69 : decode (am_b 222) 69 = .ok (.aload_n 0, 1) := by decide +kernel
theorem d_222_70 : decode (am_b 222) 70 = .ok (.bipush (-6), 2) := by decide +kernel
theorem d_222_72 : decode (am_b 222) 72 = .ok (.invokevirtual 110, 3) := by decide +kernel
theorem d_222_75 : decode (am_b 222) 75 = .ok (.ireturn, 1) := by decide +kernel
theorem d_222_76 : decode (am_b 222) 76 = .ok (.iconst 0, 1) := by decide +kernel
theorem d_222_77 : decode (am_b 222) 77 = .ok (.istore_n 3, 1) := by decide +kernel
theorem d_222_78 : decode (am_b 222) 78 = .ok (.iload_n 3, 1) := by decide +kernel
theorem d_222_79 : decode (am_b 222) 79 = .ok (.aload_n 0, 1) := by decide +kernel
theorem d_222_80 : decode (am_b 222) 80 = .ok (.getfield 134, 3) := by decide +kernel
theorem d_222_83 : decode (am_b 222) 83 = .ok (.aload_n 0, 1) := by decide +kernel
theorem d_222_84 : decode (am_b 222) 84 = .ok (.getfield 134, 3) := by decide +kernel
theorem d_222_87 : decode (am_b 222) 87 = .ok (.imul, 1) := by decide +kernel
theorem d_222_88 : decode (am_b 222) 88 = .ok (.if_icmp .ge 23, 3) := by decide +kernel
theorem d_222_91 : decode (am_b 222) 91 = .ok (.aload_n 0, 1) := by decide +kernel
theorem d_222_92 : decode (am_b 222) 92 = .ok (.getfield 26, 3) := by decide +kernel
theorem d_222_95 : decode (am_b 222) 95 = .ok (.iload_n 3, 1) := by decide +kernel
theorem d_222_96 : decode (am_b 222) 96 = .ok (.aload_n 0, 1) := by decide +kernel
theorem d_222_97 : decode (am_b 222) 97 = .ok (.getfield 33, 3) := by decide +kernel
theorem d_222_100 : decode (am_b 222) 100 = .ok (.iconst 1, 1) := by decide +kernel
theorem d_222_101 : decode (am_b 222) 101 = .ok (.iload_n 3, 1) := by decide +kernel
theorem d_222_102 : decode (am_b 222) 102 = .ok (.iadd, 1) := by decide +kernel
theorem d_222_103 : decode (am_b 222) 103 = .ok (.baload, 1) := by decide +kernel
theorem d_222_104 : decode (am_b 222) 104 = .ok (.iastore, 1) := by decide +kernel
theorem d_222_105 : decode (am_b 222) 105 = .ok (.iinc 3 1, 3) := by decide +kernel
theorem d_222_108 : decode (am_b 222) 108 = .ok (.goto (-30), 3) := by decide +kernel
theorem d_222_111 : decode (am_b 222) 111 = .ok (.aload_n 0, 1) := by decide +kernel
theorem d_222_112 : decode (am_b 222) 112 = .ok (.invokevirtual 254, 3) := by decide +kernel
theorem d_222_115 : decode (am_b 222) 115 = .ok (.ifCond .ne 10, 3) := by decide +kernel
theorem d_222_118 : decode (am_b 222) 118 = .ok (.aload_n 0, 1) := by decide +kernel
theorem d_222_119 : decode (am_b 222) 119 = .ok (.bipush (-6), 2) := by decide +kernel
theorem d_222_121 : decode (am_b 222) 121 = .ok (.invokevirtual 110, 3) := by decide +kernel
theorem d_222_124 : decode (am_b 222) 124 = .ok (.ireturn, 1) := by decide +kernel
theorem d_222_125 : decode (am_b 222) 125 = .ok (.aload_n 0, 1) := by decide +kernel
theorem d_222_126 : decode (am_b 222) 126 = .ok (.iload_n 1, 1) := by decide +kernel
theorem d_222_127 : decode (am_b 222) 127 = .ok (.invokevirtual 257, 3) := by decide +kernel
theorem d_222_130 : decode (am_b 222) 130 = .ok (.aload_n 0, 1) := by decide +kernel
theorem d_222_131 : decode (am_b 222) 131 = .ok (.aload_n 0, 1) := by decide +kernel
theorem d_222_132 : decode (am_b 222) 132 = .ok (.getfield 134, 3) := by decide +kernel
theorem d_222_135 : decode (am_b 222) 135 = .ok (.invokevirtual 114, 3) := by decide +kernel
theorem d_222_138 : decode (am_b 222) 138 = .ok (.ireturn, 1) := by decide +kernel
theorem d_223_0 : decode (am_b 223) 0 = .ok (.iconst 0, 1) := by decide +kernel
theorem d_223_1 : decode (am_b 223) 1 = .ok (.istore_n 1, 1) := by decide +kernel
theorem d_223_2 : decode (am_b 223) 2 = .ok (.iload_n 1, 1) := by decide +kernel
theorem d_223_3 : decode (am_b 223) 3 = .ok (.aload_n 0, 1) := by decide +kernel
theorem d_223_4 : decode (am_b 223) 4 = .ok (.getfield 134, 3) := by decide +kernel
theorem d_223_7 : decode (am_b 223) 7 = .ok (.if_icmp .ge 148, 3) := by decide +kernel
theorem d_223_10 : decode (am_b 223) 10 = .ok (.iconst 0, 1) := by decide +kernel
theorem d_223_11 : decode (am_b 223) 11 = .ok (.istore_n 2, 1) := by decide +kernel
theorem d_223_12 : decode (am_b 223) 12 = .ok (.iconst 0, 1) := by decide +kernel
theorem d_223_13 : decode (am_b 223) 13 = .ok (.istore_n 3, 1) := by decide +kernel
theorem d_223_14 : decode (am_b 223) 14 = .ok (.iconst 0, 1) := by decide +kernel
theorem d_223_15 : decode (am_b 223) 15 = .ok (.istore 4, 2) := by decide +kernel
theorem d_223_17 : decode (am_b 223) 17 = .ok (.iload 4, 2) := by decide +kernel
theorem d_223_19 : decode (am_b 223) 19 = .ok (.aload_n 0, 1) := by decide +kernel
theorem d_223_20 : decode (am_b 223) 20 = .ok (.getfield 134, 3) := by decide +kernel
theorem d_223_23 : decode (am_b 223) 23 = .ok (.if_icmp .ge 107, 3) := by decide +kernel
theorem d_223_26 : decode (am_b 223) 26 = .ok (.aload_n 0, 1) := by decide +kernel
theorem d_223_27 : decode (am_b 223) 27 = .ok (.getfield 26, 3) := by decide +kernel
theorem d_223_30 : decode (am_b 223) 30 = .ok (.aload_n 0, 1) := by decide +kernel
theorem d_223_31 : decode (am_b 223) 31 = .ok (.getfield 134, 3) := by decide +kernel
theorem d_223_34 : decode (am_b 223) 34 = .ok (.iload_n 1, 1) := by decide +kernel
theorem d_223_35 : decode (am_b 223) 35 = .ok (.imul, 1) := by decide +kernel
theorem d_223_36 : decode (am_b 223) 36 = .ok (.iload 4, 2) := by decide +kernel
theorem d_223_38 : decode (am_b 223) 38 = .ok (.iadd, 1) := by decide +kernel
theorem d_223_39 : decode (am_b 223) 39 = .ok (.iaload, 1) := by decide +kernel
theorem d_223_40 : decode (am_b 223) 40 = .ok (.iconst 0, 1) := by decide +kernel
theorem d_223_41 : decode (am_b 223) 41 = .ok (.aload_n 0, 1) := by decide +kernel
theorem d_223_42 : decode (am_b 223) 42 = .ok (.getfield 134, 3) := by decide +kernel
theorem d_223_45 : decode (am_b 223) 45 = .ok (.iconst 1, 1) := by decide +kernel
theorem d_223_46 : decode (am_b 223) 46 = .ok (.isub, 1) := by decide +kernel
theorem d_223_47 : decode (am_b 223) 47 = .ok (.invokestatic 106, 3) := by decide +kernel
theorem d_223_50 : decode (am_b 223) 50 = .ok (.ifCond .ne 5, 3) := by decide +kernel
theorem d_223_53 : decode (am_b 223) 53 = .ok (.iconst 0, 1) := by decide +kernel
theorem d_223_54 : decode (am_b 223) 54 = .ok (.ireturn, 1) := by decide +kernel
theorem d_223_55 : decode (am_b 223) 55 = .ok (.iload_n 2, 1) := by decide +kernel
theorem d_223_56 : decode (am_b 223) 56 = .ok (.iconst 1, 1) := by decide +kernel
theorem d_223_57 : decode (am_b 223) 57 = .ok (.aload_n 0, 1) := by decide +kernel
theorem d_223_58 : decode (am_b 223) 58 = .ok (.getfield 26, 3) := by decide +kernel
theorem d_223_61 : decode (am_b 223) 61 = .ok (.aload_n 0, 1) := by decide +kernel
theorem d_223_62 : decode (am_b 223) 62 = .ok (.getfield 134, 3) := by decide +kernel
theorem d_223_65 : decode (am_b 223) 65 = .ok (.iload_n 1, 1) := by decide +kernel
theorem d_223_66 : decode (am_b 223) 66 = .ok (.imul, 1) := by decide +kernel
theorem d_223_67 : decode (am_b 223) 67 = .ok (.iload 4, 2) := by decide +kernel
theorem d_223_69 : decode (am_b 223) 69 = .ok (.iadd, 1) := by decide +kernel
theorem d_223_70 : decode (am_b 223) 70 = .ok (.iaload, 1) := by decide +kernel
theorem d_223_71 : decode (am_b 223) 71 = .ok (.ishl, 1) := by decide +kernel
theorem d_223_72 : decode (am_b 223) 72 = .ok (.ior, 1) := by decide +kernel
theorem d_223_73 : decode (am_b 223) 73 = .ok (.istore_n 2, 1) := by decide +kernel
theorem d_223_74 : decode (am_b 223) 74 = .ok (.iload_n 3, 1) := by decide +kernel
theorem d_223_75 : decode (am_b 223) 75 = .ok (.aload_n 0, 1) := by decide +kernel
theorem d_223_76 : decode (am_b 223) 76 = .ok (.getfield 26, 3) := by decide +kernel
theorem d_223_79 : decode (am_b 223) 79 = .ok (.aload_n 0, 1) := by decide +kernel
theorem d_223_80 : decode (am_b 223) 80 = .ok (.getfield 134, 3) := by decide +kernel
theorem d_223_83 : decode (am_b 223) 83 = .ok (.iload 4, 2) := by decide +kernel
theorem d_223_85 : decode (am_b 223) 85 = .ok (.imul, 1) := by decide +kernel
theorem d_223_86 : decode (am_b 223) 86 = .ok (.iload_n 1, 1) := by decide +kernel
theorem d_223_87 : decode (am_b 223) 87 = .ok (.iadd, 1) := by decide +kernel
theorem d_223_88 : decode (am_b 223) 88 = .ok (.iaload, 1) := by decide +kernel
theorem d_223_89 : decode (am_b 223) 89 = .ok (.iconst 0, 1) := by decide +kernel
theorem d_223_90 : decode (am_b 223) 90 = .ok (.aload_n 0, 1) := by decide +kernel
theorem d_223_91 : decode (am_b 223) 91 = .ok (.getfield 134, 3) := by decide +kernel
theorem d_223_94 : decode (am_b 223) 94 = .ok (.iconst 1, 1) := by decide +kernel
theorem d_223_95 : decode (am_b 223) 95 = .ok (.isub, 1) := by decide +kernel
theorem d_223_96 : decode (am_b 223) 96 = .ok (.invokestatic 106, 3) := by decide +kernel
theorem d_223_99 : decode (am_b 223) 99 = .ok (.ifCond .eq 22, 3) := by decide +kernel
theorem d_223_102 : decode (am_b 223) 102 = .ok (.iconst 1, 1) := by decide +kernel
theorem d_223_103 : decode (am_b 223) 103 = .ok (.aload_n 0, 1) := by decide +kernel
theorem d_223_104 : decode (am_b 223) 104 = .ok (.getfield 26, 3) := by decide +kernel
theorem d_223_107 : decode (am_b 223) 107 = .ok (.aload_n 0, 1) := by decide +kernel
theorem d_223_108 : decode (am_b 223) 108 = .ok (.getfield 134, 3) := by decide +kernel
theorem d_223_111 : decode (am_b 223) 111 = .ok (.iload 4, 2) := by decide +kernel
theorem d_223_113 : decode (am_b 223) 113 = .ok (.imul, 1) := by decide +kernel
theorem d_223_114 : decode (am_b 223) 114 = .ok (.iload_n 1, 1) := by decide +kernel
theorem d_223_115 : decode (am_b 223) 115 = .ok (.iadd, 1) := by decide +kernel
theorem d_223_116 : decode (am_b 223) 116 = .ok (.iaload, 1) := by decide +kernel
theorem d_223_117 : decode (am_b 223) 117 = .ok (.ishl, 1) := by decide +kernel
theorem d_223_118 : decode (am_b 223) 118 = .ok (.goto 4, 3) := by decide +kernel
theorem d_223_121 : decode (am_b 223) 121 = .ok (.iconst 0, 1) := by decide +kernel
theorem d_223_122 : decode (am_b 223) 122 = .ok (.ior, 1) := by decide +kernel
theorem d_223_123 : decode (am_b 223) 123 = .ok (.istore_n 3, 1) := by decide +kernel
theorem d_223_124 : decode (am_b 223) 124 = .ok (.iinc 4 1, 3) := by decide +kernel
theorem d_223_127 : decode (am_b 223) 127 = .ok (.goto (-110), 3) := by decide +kernel
theorem d_223_130 : decode (am_b 223) 130 = .ok (.iload_n 2, 1) := by decide +kernel
theorem d_223_131 : decode (am_b 223) 131 = .ok (.iconst 1, 1) := by decide +kernel
theorem d_223_132 : decode (am_b 223) 132 = .ok (.aload_n 0, 1) := by decide +kernel
theorem d_223_133 : decode (am_b 223) 133 = .ok (.getfield 134, 3) := by decide +kernel
theorem d_223_136 : decode (am_b 223) 136 = .ok (.ishl, 1) := by decide +kernel
theorem d_223_137 : decode (am_b 223) 137 = .ok (.iconst 1, 1) := by decide +kernel
theorem d_223_138 : decode (am_b 223) 138 = .ok (.isub, 1) := by decide +kernel
theorem d_223_139 : decode (am_b 223) 139 = .ok (.if_icmp .ne 8, 3) := by decide +kernel
theorem d_223_142 : decode (am_b 223) 142 = .ok (.iload_n 3, 1) := by decide +kernel
theorem d_223_143 : decode (am_b 223) 143 = .ok (.iload_n 2, 1) := by decide +kernel
theorem d_223_144 : decode (am_b 223) 144 = .ok (.if_icmp .eq 5, 3) := by decide +kernel
theorem d_223_147 : decode (am_b 223) 147 = .ok (.iconst 0, 1) := by decide +kernel
theorem d_223_148 : decode (am_b 223) 148 = .ok (.ireturn, 1) := by decide +kernel
theorem d_223_149 : decode (am_b 223) 149 = .ok (.iinc 1 1, 3) := by decide +kernel
theorem d_223_152 : decode (am_b 223) 152 = .ok (.goto (-150), 3) := by decide +kernel
theorem d_223_155 : decode (am_b 223) 155 = .ok (.iconst 1, 1) := by decide +kernel
theorem d_223_156 : decode (am_b 223) 156 = .ok (.ireturn, 1) := by decide +kernel
theorem d_224_0 : decode (am_b 224) 0 = .ok (.aload_n 0, 1) := by decide +kernel
theorem d_224_1 : decode (am_b 224) 1 = .ok (.getfield 13, 3) := by decide +kernel
theorem d_224_4 : decode (am_b 224) 4 = .ok (.sipush 2510, 3) := by decide +kernel
theorem d_224_7 : decode (am_b 224) 7 = .ok (.iaload, 1) := by decide +kernel
theorem d_224_8 : decode (am_b 224) 8 = .ok (.istore_n 2, 1) := by decide +kernel
theorem d_224_9 : decode (am_b 224) 9 = .ok (.iload_n 2, 1) := by decide +kernel
theorem d_224_10 : decode (am_b 224) 10 = .ok (.bipush 30, 2) := by decide +kernel
theorem d_224_12 : decode (am_b 224) 12 = .ok (.if_icmp .ne 41, 3) := by decide +kernel
theorem d_224_15 : decode (am_b 224) 15 = .ok (.iconst 0, 1) := by decide +kernel
theorem d_224_16 : decode (am_b 224) 16 = .ok (.istore_n 3, 1) := by decide +kernel
theorem d_224_17 : decode (am_b 224) 17 = .ok (.iload_n 3, 1) := by decide +kernel
theorem d_224_18 : decode (am_b 224) 18 = .ok (.sipush 2175, 3) := by decide +kernel
theorem d_224_21 : decode (am_b 224) 21 = .ok (.if_icmp .ge 29, 3) := by decide +kernel
theorem d_224_24 : decode (am_b 224) 24 = .ok (.aload_n 0, 1) := by decide +kernel
theorem d_224_25 : decode (am_b 224) 25 = .ok (.getfield 13, 3) := by decide +kernel
theorem d_224_28 : decode (am_b 224) 28 = .ok (.sipush 259, 3) := by decide +kernel
theorem d_224_31 : decode (am_b 224) 31 = .ok (.iload_n 3, 1) := by decide +kernel
theorem d_224_32 : decode (am_b 224) 32 = .ok (.iadd, 1) := by decide +kernel
theorem d_224_33 : decode (am_b 224) 33 = .ok (.aload_n 0, 1) := by decide +kernel
theorem d_224_34 : decode (am_b 224) 34 = .ok (.getfield 13, 3) := by decide +kernel
theorem d_224_37 : decode (am_b 224) 37 = .ok (.sipush 334, 3) := by decide +kernel
theorem d_224_40 : decode (am_b 224) 40 = .ok (.iload_n 3, 1) := by decide +kernel
theorem d_224_41 : decode (am_b 224) 41 = .ok (.iadd, 1) := by decide +kernel
theorem d_224_42 : decode (am_b 224) 42 = .ok (.iaload, 1) := by decide +kernel
theorem d_224_43 : decode (am_b 224) 43 = .ok (.iastore, 1) := by decide +kernel
theorem d_224_44 : decode (am_b 224) 44 = .ok (.iinc 3 1, 3) := by decide +kernel
theorem d_224_47 : decode (am_b 224) 47 = .ok (.goto (-30), 3) := by decide +kernel
theorem d_224_50 : decode (am_b 224) 50 = .ok (.iinc 2 (-1), 3) := by decide +kernel
theorem d_224_53 : decode (am_b 224) 53 = .ok (.sipush 259, 3) := by decide +kernel
theorem d_224_56 : decode (am_b 224) 56 = .ok (.bipush 75, 2) := by decide +kernel
theorem d_224_58 : decode (am_b 224) 58 = .ok (.iload_n 2, 1) := by decide +kernel
theorem d_224_59 : decode (am_b 224) 59 = .ok (.imul, 1) := by decide +kernel
theorem d_224_60 : decode (am_b 224) 60 = .ok (.iadd, 1) := by decide +kernel
theorem d_224_61 : decode (am_b 224) 61 = .ok (.istore_n 3, 1) := by decide +kernel
theorem d_224_62 : decode (am_b 224) 62 = .ok (.aload_n 0, 1) := by decide +kernel
theorem d_224_63 : decode (am_b 224) 63 = .ok (.getfield 13, 3) := by decide +kernel
theorem d_224_66 : decode (am_b 224) 66 = .ok (.iload_n 3, 1) := by decide +kernel
theorem d_224_67 : decode (am_b 224) 67 = .ok (.iload_n 1, 1) := by decide +kernel
theorem d_224_68 : decode (am_b 224) 68 = .ok (.iastore, 1) := by decide +kernel
theorem d_224_69 : decode (am_b 224) 69 = .ok (.iconst 0, 1) := by decide +kernel
theorem d_224_70 : decode (am_b 224) 70 = .ok (.istore 4, 2) := by decide +kernel
theorem d_224_72 : decode (am_b 224) 72 = .ok (.iload 4, 2) := by decide +kernel
theorem d_224_74 : decode (am_b 224) 74 = .ok (.bipush 37, 2) := by decide +kernel
theorem d_224_76 : decode (am_b 224) 76 = .ok (.if_icmp .ge 32, 3) := by decide +kernel
theorem d_224_79 : decode (am_b 224) 79 = .ok (.aload_n 0, 1) := by decide +kernel
theorem d_224_80 : decode (am_b 224) 80 = .ok (.getfield 13, 3) := by decide +kernel
theorem d_224_83 : decode (am_b 224) 83 = .ok (.iload_n 3, 1) := by decide +kernel
theorem d_224_84 : decode (am_b 224) 84 = .ok (.iconst 1, 1) := by decide +kernel
theorem d_224_85 : decode (am_b 224) 85 = .ok (.iadd, 1) := by decide +kernel
theorem d_224_86 : decode (am_b 224) 86 = .ok (.iload 4, 2) := by decide +kernel
theorem d_224_88 : decode (am_b 224) 88 = .ok (.iadd, 1) := by decide +kernel
theorem d_224_89 : decode (am_b 224) 89 = .ok (.aload_n 0, 1) := by decide +kernel
theorem d_224_90 : decode (am_b 224) 90 = .ok (.getfield 13, 3) := by decide +kernel
theorem d_224_93 : decode (am_b 224) 93 = .ok (.bipush 37, 2) := by decide +kernel
theorem d_224_95 : decode (am_b 224) 95 = .ok (.iload_n 1, 1) := by decide +kernel
theorem d_224_96 : decode (am_b 224) 96 = .ok (.imul, 1) := by decide +kernel
theorem d_224_97 : decode (am_b 224) 97 = .ok (.iload 4, 2) := by decide +kernel
theorem d_224_99 : decode (am_b 224) 99 = .ok (.iadd, 1) := by decide +kernel
theorem d_224_100 : decode (am_b 224) 100 = .ok (.iaload, 1) := by decide +kernel
theorem d_224_101 : decode (am_b 224) 101 = .ok (.iastore, 1) := by decide +kernel
theorem d_224_102 : decode (am_b 224) 102 = .ok (.iinc 4 1, 3) := by decide +kernel
theorem d_224_105 : decode (am_b 224) 105 = .ok (.goto (-33), 3) := by decide +kernel
theorem d_224_108 : decode (am_b 224) 108 = .ok (.aload_n 0, 1) := by decide +kernel
theorem d_224_109 : decode (am_b 224) 109 = .ok (.getfield 13, 3) := by decide +kernel
theorem d_224_112 : decode (am_b 224) 112 = .ok (.bipush 37, 2) := by decide +kernel
theorem d_224_114 : decode (am_b 224) 114 = .ok (.iload_n 1, 1) := by decide +kernel
theorem d_224_115 : decode (am_b 224) 115 = .ok (.imul, 1) := by decide +kernel
theorem d_224_116 : decode (am_b 224) 116 = .ok (.aload_n 0, 1) := by decide +kernel
theorem d_224_117 : decode (am_b 224) 117 = .ok (.getfield 134, 3) := by decide +kernel
theorem d_224_120 : decode (am_b 224) 120 = .ok (.iastore, 1) := by decide +kernel
theorem d_224_121 : decode (am_b 224) 121 = .ok (.iconst 0, 1) := by decide +kernel
theorem d_224_122 : decode (am_b 224) 122 = .ok (.istore 4, 2) := by decide +kernel
theorem d_224_124 : decode (am_b 224) 124 = .ok (.iload 4, 2) := by decide +kernel
theorem d_224_126 : decode (am_b 224) 126 = .ok (.bipush 36, 2) := by decide +kernel
theorem d_224_128 : decode (am_b 224) 128 = .ok (.if_icmp .ge 48, 3) := by decide +kernel
theorem d_224_131 : decode (am_b 224) 131 = .ok (.aload_n 0, 1) := by decide +kernel
theorem d_224_132 : decode (am_b 224) 132 = .ok (.getfield 13, 3) := by decide +kernel
theorem d_224_135 : decode (am_b 224) 135 = .ok (.bipush 37, 2) := by decide +kernel
theorem d_224_137 : decode (am_b 224) 137 = .ok (.iload_n 1, 1) := by decide +kernel
theorem d_224_138 : decode (am_b 224) 138 = .ok (.imul, 1) := by decide +kernel
theorem d_224_139 : decode (am_b 224) 139 = .ok (.iconst 1, 1) := by decide +kernel
theorem d_224_140 : decode (am_b 224) 140 = .ok (.iadd, 1) := by decide +kernel
theorem d_224_141 : decode (am_b 224) 141 = .ok (.iload 4, 2) := by decide +kernel
theorem d_224_143 : decode (am_b 224) 143 = .ok (.iadd, 1) := by decide +kernel
theorem d_224_144 : decode (am_b 224) 144 = .ok (.iload 4, 2) := by decide +kernel
theorem d_224_146 : decode (am_b 224) 146 = .ok (.aload_n 0, 1) := by decide +kernel
theorem d_224_147 : decode (am_b 224) 147 = .ok (.getfield 134, 3) := by decide +kernel
theorem d_224_150 : decode (am_b 224) 150 = .ok (.aload_n 0, 1) := by decide +kernel
theorem d_224_151 : decode (am_b 224) 151 = .ok (.getfield 134, 3) := by decide +kernel
theorem d_224_154 : decode (am_b 224) 154 = .ok (.imul, 1) := by decide +kernel
theorem d_224_155 : decode (am_b 224) 155 = .ok (.if_icmp .ge 13, 3) := by decide +kernel
theorem d_224_158 : decode (am_b 224) 158 = .ok (.aload_n 0, 1) := by decide +kernel
theorem d_224_159 : decode (am_b 224) 159 = .ok (.getfield 26, 3) := by decide +kernel
theorem d_224_162 : decode (am_b 224) 162 = .ok (.iload 4, 2) := by decide +kernel
theorem d_224_164 : decode (am_b 224) 164 = .ok (.iaload, 1) := by decide +kernel
theorem d_224_165 : decode (am_b 224) 165 = .ok (.goto 4, 3) := by decide +kernel
theorem d_224_168 : decode (am_b 224) 168 = .ok (.iconst 0, 1) := by decide +kernel
theorem d_224_169 : decode (am_b 224) 169 = .ok (.iastore, 1) := by decide +kernel
theorem d_224_170 : decode (am_b 224) 170 = .ok (.iinc 4 1, 3) := by decide +kernel
theorem d_224_173 : decode (am_b 224) 173 = .ok (.goto (-49), 3) := by decide +kernel
theorem d_224_176 : decode (am_b 224) 176 = .ok (.iconst 0, 1) := by decide +kernel
theorem d_224_177 : decode (am_b 224) 177 = .ok (.istore 4, 2) := by decide +kernel
theorem d_224_179 : decode (am_b 224) 179 = .ok (.iload 4, 2) := by decide +kernel
theorem d_224_181 : decode (am_b 224) 181 = .ok (.bipush 37, 2) := by decide +kernel
theorem d_224_183 : decode (am_b 224) 183 = .ok (.if_icmp .ge 35, 3) := by decide +kernel
theorem d_224_186 : decode (am_b 224) 186 = .ok (.aload_n 0, 1) := by decide +kernel
theorem d_224_187 : decode (am_b 224) 187 = .ok (.getfield 13, 3) := by decide +kernel
theorem d_224_190 : decode (am_b 224) 190 = .ok (.iload_n 3, 1) := by decide +kernel
theorem d_224_191 : decode (am_b 224) 191 = .ok (.iconst 1, 1) := by decide +kernel
theorem d_224_192 : decode (am_b 224) 192 = .ok (.iadd, 1) := by decide +kernel
theorem d_224_193 : decode (am_b 224) 193 = .ok (.bipush 37, 2) := by decide +kernel
theorem d_224_195 : decode (am_b 224) 195 = .ok (.iadd, 1) := by decide +kernel
theorem d_224_196 : decode (am_b 224) 196 = .ok (.iload 4, 2) := by decide +kernel
theorem d_224_198 : decode (am_b 224) 198 = .ok (.iadd, 1) := by decide +kernel
theorem d_224_199 : decode (am_b 224) 199 = .ok (.aload_n 0, 1) := by decide +kernel
theorem d_224_200 : decode (am_b 224) 200 = .ok (.getfield 13, 3) := by decide +kernel
theorem d_224_203 : decode (am_b 224) 203 = .ok (.bipush 37, 2) := by decide +kernel
theorem d_224_205 : decode (am_b 224) 205 = .ok (.iload_n 1, 1) := by decide +kernel
theorem d_224_206 : decode (am_b 224) 206 = .ok (.imul, 1) := by decide +kernel
theorem d_224_207 : decode (am_b 224) 207 = .ok (.iload 4, 2) := by decide +kernel
theorem d_224_209 : decode (am_b 224) 209 = .ok (.iadd, 1) := by decide +kernel
theorem d_224_210 : decode (am_b 224) 210 = .ok (.iaload, 1) := by decide +kernel
theorem d_224_211 : decode (am_b 224) 211 = .ok (.iastore, 1) := by decide +kernel
theorem d_224_212 : decode (am_b 224) 212 = .ok (.iinc 4 1, 3) := by decide +kernel
theorem d_224_215 : decode (am_b 224) 215 = .ok (.goto (-36), 3) := by decide +kernel
theorem d_224_218 : decode (am_b 224) 218 = .ok (.aload_n 0, 1) := by decide +kernel
theorem d_224_219 : decode (am_b 224) 219 = .ok (.getfield 13, 3) := by decide +kernel
theorem d_224_222 : decode (am_b 224) 222 = .ok (.sipush 2510, 3) := by decide +kernel
theorem d_224_225 : decode (am_b 224) 225 = .ok (.iload_n 2, 1) := by decide +kernel
theorem d_224_226 : decode (am_b 224) 226 = .ok (.iconst 1, 1) := by decide +kernel
theorem d_224_227 : decode (am_b 224) 227 = .ok (.iadd, 1) := by decide +kernel
theorem d_224_228 : decode (am_b 224) 228 = .ok (.iastore, 1) := by decide +kernel
theorem d_224_229 : decode (am_b 224) 229 = .ok (.aload_n 0, 1) := by decide +kernel
theorem d_224_230 : decode (am_b 224) 230 = .ok (.getfield 13, 3) := by decide +kernel
theorem d_224_233 : decode (am_b 224) 233 = .ok (.sipush 2511, 3) := by decide +kernel
theorem d_224_236 : decode (am_b 224) 236 = .ok (.iload_n 2, 1) := by decide +kernel
theorem d_224_237 : decode (am_b 224) 237 = .ok (.iconst 1, 1) := by decide +kernel
theorem d_224_238 : decode (am_b 224) 238 = .ok (.iadd, 1) := by decide +kernel
theorem d_224_239 : decode (am_b 224) 239 = .ok (.iastore, 1) := by decide +kernel
theorem d_224_240 : decode (am_b 224) 240 = .ok (.return_, 1) := by decide +kernel
theorem d_225_0 : decode (am_b 225) 0 = .ok (.iload_n 1, 1) := by decide +kernel
theorem d_225_1 : decode (am_b 225) 1 = .ok (.invokestatic 117, 3) := by decide +kernel
theorem d_225_4 : decode (am_b 225) 4 = .ok (.ifCond .eq 13, 3) := by decide +kernel
theorem d_225_7 : decode (am_b 225) 7 = .ok (.iload_n 2, 1) := by decide +kernel
theorem d_225_8 : decode (am_b 225) 8 = .ok (.iconst 1, 1) := by decide +kernel
theorem d_225_9 : decode (am_b 225) 9 = .ok (.bipush 6, 2) := by decide +kernel
theorem d_225_11 : decode (am_b 225) 11 = .ok (.invokestatic 106, 3) := by decide +kernel
theorem d_225_14 : decode (am_b 225) 14 = .ok (.ifCond .ne 9, 3) := by decide +kernel
theorem d_225_17 : decode (am_b 225) 17 = .ok (.aload_n 0, 1) := by decide +kernel
theorem d_225_18 : decode (am_b 225) 18 = .ok (.iconst (-1), 1) := by decide +kernel
theorem d_225_19 : decode (am_b 225) 19 = .ok (.invokevirtual 110, 3) := by decide +kernel
theorem d_225_22 : decode (am_b 225) 22 = .ok (.ireturn, 1) := by decide +kernel
theorem d_225_23 : decode (am_b 225) 23 = .ok (.aload_n 0, 1) := by decide +kernel
theorem d_225_24 : decode (am_b 225) 24 = .ok (.iload_n 2, 1) := by decide +kernel
theorem d_225_25 : decode (am_b 225) 25 = .ok (.putfield 134, 3) := by decide +kernel
theorem d_225_28 : decode (am_b 225) 28 = .ok (.iconst 0, 1) := by decide +kernel
theorem d_225_29 : decode (am_b 225) 29 = .ok (.istore_n 3, 1) := by decide +kernel
theorem d_225_30 : decode (am_b 225) 30 = .ok (.iload_n 3, 1) := by decide +kernel
theorem d_225_31 : decode (am_b 225) 31 = .ok (.aload_n 0, 1) := by decide +kernel
theorem d_225_32 : decode (am_b 225) 32 = .ok (.getfield 134, 3) := by decide +kernel
theorem d_225_35 : decode (am_b 225) 35 = .ok (.aload_n 0, 1) := by decide +kernel
theorem d_225_36 : decode (am_b 225) 36 = .ok (.getfield 134, 3) := by decide +kernel
theorem d_225_39 : decode (am_b 225) 39 = .ok (.imul, 1) := by decide +kernel
theorem d_225_40 : decode (am_b 225) 40 = .ok (.if_icmp .ge 33, 3) := by decide +kernel
theorem d_225_43 : decode (am_b 225) 43 = .ok (.aload_n 0, 1) := by decide +kernel
theorem d_225_44 : decode (am_b 225) 44 = .ok (.getfield 26, 3) := by decide +kernel
theorem d_225_47 : decode (am_b 225) 47 = .ok (.iload_n 3, 1) := by decide +kernel
theorem d_225_48 : decode (am_b 225) 48 = .ok (.iload_n 3, 1) := by decide +kernel
theorem d_225_49 : decode (am_b 225) 49 = .ok (.aload_n 0, 1) := by decide +kernel
theorem d_225_50 : decode (am_b 225) 50 = .ok (.getfield 134, 3) := by decide +kernel
theorem d_225_53 : decode (am_b 225) 53 = .ok (.idiv, 1) := by decide +kernel
theorem d_225_54 : decode (am_b 225) 54 = .ok (.iload_n 3, 1) := by decide +kernel
theorem d_225_55 : decode (am_b 225) 55 = .ok (.aload_n 0, 1) := by decide +kernel
theorem d_225_56 : decode (am_b 225) 56 = .ok (.getfield 134, 3) := by decide +kernel
theorem d_225_59 : decode (am_b 225) 59 = .ok (.irem, 1) := by decide +kernel
theorem d_225_60 : decode (am_b 225) 60 = .ok (.iadd, 1) := by decide +kernel
theorem d_225_61 : decode (am_b 225) 61 = .ok (.aload_n 0, 1) := by decide +kernel
theorem d_225_62 : decode (am_b 225) 62 = .ok (.getfield 134, 3) := by decide +kernel
theorem d_225_65 : decode (am_b 225) 65 = .ok (.irem, 1) := by decide +kernel
theorem d_225_66 : decode (am_b 225) 66 = .ok (.iastore, 1) := by decide +kernel
theorem d_225_67 : decode (am_b 225) 67 = .ok (.iinc 3 1, 3) := by decide +kernel
theorem d_225_70 : decode (am_b 225) 70 = .ok (.goto (-40), 3) := by decide +kernel
theorem d_225_73 : decode (am_b 225) 73 = .ok (.aload_n 0, 1) := by decide +kernel
theorem d_225_74 : decode (am_b 225) 74 = .ok (.iload_n 1, 1) := by decide +kernel
theorem d_225_75 : decode (am_b 225) 75 = .ok (.invokevirtual 257, 3) := by decide +kernel
theorem d_225_78 : decode (am_b 225) 78 = .ok (.aload_n 0, 1) := by decide +kernel
theorem d_225_79 : decode (am_b 225) 79 = .ok (.aload_n 0, 1) := by decide +kernel
theorem d_225_80 : decode (am_b 225) 80 = .ok (.getfield 134, 3) := by decide +kernel
theorem d_225_83 : decode (am_b 225) 83 = .ok (.invokevirtual 114, 3) := by decide +kernel
theorem d_225_86 : decode (am_b 225) 86 = .ok (.ireturn, 1) := by decide +kernel
theorem d_226_0 : decode (am_b 226) 0 = .ok (.iload_n 1, 1) := by decide +kernel
theorem d_226_1 : decode (am_b 226) 1 = .ok (.invokestatic 117, 3) := by decide +kernel
theorem d_226_4 : decode (am_b 226) 4 = .ok (.ifCond .ne 9, 3) := by decide +kernel
theorem d_226_7 : decode (am_b 226) 7 = .ok (.aload_n 0, 1) := by decide +kernel
theorem d_226_8 : decode (am_b 226) 8 = .ok (.iconst (-1), 1) := by decide +kernel
theorem d_226_9 : decode (am_b 226) 9 = .ok (.invokevirtual 110, 3) := by decide +kernel
theorem d_226_12 : decode (am_b 226) 12 = .ok (.ireturn, 1) := by decide +kernel
theorem d_226_13 : decode (am_b 226) 13 = .ok (.aload_n 0, 1) := by decide +kernel
theorem d_226_14 : decode (am_b 226) 14 = .ok (.iload_n 2, 1) := by decide +kernel
theorem d_226_15 : decode (am_b 226) 15 = .ok (.invokevirtual 124, 3) := by decide +kernel
theorem d_226_18 : decode (am_b 226) 18 = .ok (.ifCond .ne 10, 3) := by decide +kernel
theorem d_226_21 : decode (am_b 226) 21 = .ok (.aload_n 0, 1) := by decide +kernel
theorem d_226_22 : decode (am_b 226) 22 = .ok (.bipush (-2), 2) := by decide +kernel
theorem d_226_24 : decode (am_b 226) 24 = .ok (.invokevirtual 110, 3) := by decide +kernel
theorem d_226_27 : decode (am_b 226) 27 = .ok (.ireturn, 1) := by decide +kernel
theorem d_226_28 : decode (am_b 226) 28 = .ok (.aload_n 0, 1) := by decide +kernel
theorem d_226_29 : decode (am_b 226) 29 = .ok (.iload_n 2, 1) := by decide +kernel
theorem d_226_30 : decode (am_b 226) 30 = .ok (.invokevirtual 248, 3) := by decide +kernel
theorem d_226_33 : decode (am_b 226) 33 = .ok (.aload_n 0, 1) := by decide +kernel
theorem d_226_34 : decode (am_b 226) 34 = .ok (.aload_n 0, 1) := by decide +kernel
theorem d_226_35 : decode (am_b 226) 35 = .ok (.getfield 127, 3) := by decide +kernel
theorem d_226_38 : decode (am_b 226) 38 = .ok (.putfield 134, 3) := by decide +kernel
theorem d_226_41 : decode (am_b 226) 41 = .ok (.iconst 0, 1) := by decide +kernel
theorem d_226_42 : decode (am_b 226) 42 = .ok (.istore_n 3, 1) := by decide +kernel
theorem d_226_43 : decode (am_b 226) 43 = .ok (.iload_n 3, 1) := by decide +kernel
theorem d_226_44 : decode (am_b 226) 44 = .ok (.aload_n 0, 1) := by decide +kernel
theorem d_226_45 : decode (am_b 226) 45 = .ok (.getfield 127, 3) := by decide +kernel
theorem d_226_48 : decode (am_b 226) 48 = .ok (.aload_n 0, 1) := by decide +kernel
theorem d_226_49 : decode (am_b 226) 49 = .ok (.getfield 127, 3) := by decide +kernel
theorem d_226_52 : decode (am_b 226) 52 = .ok (.imul, 1) := by decide +kernel
theorem d_226_53 : decode (am_b 226) 53 = .ok (.if_icmp .ge 21, 3) := by decide +kernel
theorem d_226_56 : decode (am_b 226) 56 = .ok (.aload_n 0, 1) := by decide +kernel
theorem d_226_57 : decode (am_b 226) 57 = .ok (.getfield 26, 3) := by decide +kernel
theorem d_226_60 : decode (am_b 226) 60 = .ok (.iload_n 3, 1) := by decide +kernel
theorem d_226_61 : decode (am_b 226) 61 = .ok (.aload_n 0, 1) := by decide +kernel
theorem d_226_62 : decode (am_b 226) 62 = .ok (.getfield 23, 3) := by decide +kernel
theorem d_226_65 : decode (am_b 226) 65 = .ok (.iload_n 3, 1) := by decide +kernel
theorem d_226_66 : decode (am_b 226) 66 = .ok (.iaload, 1) := by decide +kernel
theorem d_226_67 : decode (am_b 226) 67 = .ok (.iastore, 1) := by decide +kernel
theorem d_226_68 : decode (am_b 226) 68 = .ok (.iinc 3 1, 3) := by decide +kernel
theorem d_226_71 : decode (am_b 226) 71 = .ok (.goto (-28), 3) := by decide +kernel
theorem d_226_74 : decode (am_b 226) 74 = .ok (.aload_n 0, 1) := by decide +kernel
theorem d_226_75 : decode (am_b 226) 75 = .ok (.iload_n 1, 1) := by decide +kernel
theorem d_226_76 : decode (am_b 226) 76 = .ok (.invokevirtual 257, 3) := by decide +kernel
theorem d_226_79 : decode (am_b 226) 79 = .ok (.aload_n 0, 1) := by decide +kernel
theorem d_226_80 : decode (am_b 226) 80 = .ok (.aload_n 0, 1) := by decide +kernel
theorem d_226_81 : decode (am_b 226) 81 = .ok (.getfield 134, 3) := by decide +kernel
theorem d_226_84 : decode (am_b 226) 84 = .ok (.invokevirtual 114, 3) := by decide +kernel
theorem d_226_87 : decode (am_b 226) 87 = .ok (.ireturn, 1) := by decide +kernel
theorem d_227_0 : decode (am_b 227) 0 = .ok (.aload_n 0, 1) := by decide +kernel
theorem d_227_1 : decode (am_b 227) 1 = .ok (.iload_n 1, 1) := by decide +kernel
theorem d_227_2 : decode (am_b 227) 2 = .ok (.invokevirtual 124, 3) := by decide +kernel
theorem d_227_5 : decode (am_b 227) 5 = .ok (.ifCond .ne 10, 3) := by decide +kernel
theorem d_227_8 : decode (am_b 227) 8 = .ok (.aload_n 0, 1) := by decide +kernel
theorem d_227_9 : decode (am_b 227) 9 = .ok (.bipush (-2), 2) := by decide +kernel
theorem d_227_11 : decode (am_b 227) 11 = .ok (.invokevirtual 110, 3) := by decide +kernel
theorem d_227_14 : decode (am_b 227) 14 = .ok (.ireturn, 1) := by decide +kernel
theorem d_227_15 : decode (am_b 227) 15 = .ok (.aload_n 0, 1) := by decide +kernel
theorem d_227_16 : decode (am_b 227) 16 = .ok (.iload_n 1, 1) := by decide +kernel
theorem d_227_17 : decode (am_b 227) 17 = .ok (.invokevirtual 248, 3) := by decide +kernel
theorem d_227_20 : decode (am_b 227) 20 = .ok (.aload_n 0, 1) := by decide +kernel
theorem d_227_21 : decode (am_b 227) 21 = .ok (.iload_n 2, 1) := by decide +kernel
theorem d_227_22 : decode (am_b 227) 22 = .ok (.invokevirtual 260, 3) := by decide +kernel
theorem d_227_25 : decode (am_b 227) 25 = .ok (.ifCond .eq 11, 3) := by decide +kernel
theorem d_227_28 : decode (am_b 227) 28 = .ok (.aload_n 0, 1) := by decide +kernel
theorem d_227_29 : decode (am_b 227) 29 = .ok (.iload_n 3, 1) := by decide +kernel
theorem d_227_30 : decode (am_b 227) 30 = .ok (.invokevirtual 260, 3) := by decide +kernel
theorem d_227_33 : decode (am_b 227) 33 = .ok (.ifCond .ne 9, 3) := by decide +kernel
theorem d_227_36 : decode (am_b 227) 36 = .ok (.aload_n 0, 1) := by decide +kernel
theorem d_227_37 : decode (am_b 227) 37 = .ok (.iconst (-1), 1) := by decide +kernel
theorem d_227_38 : decode (am_b 227) 38 = .ok (.invokevirtual 110, 3) := by decide +kernel
theorem d_227_41 : decode (am_b 227) 41 = .ok (.ireturn, 1) := by decide +kernel
theorem d_227_42 : decode (am_b 227) 42 = .ok (.aload_n 0, 1) := by decide +kernel
theorem d_227_43 : decode (am_b 227) 43 = .ok (.iload_n 2, 1) := by decide +kernel
theorem d_227_44 : decode (am_b 227) 44 = .ok (.iload_n 3, 1) := by decide +kernel
theorem d_227_45 : decode (am_b 227) 45 = .ok (.invokevirtual 263, 3) := by decide +kernel
theorem d_227_48 : decode (am_b 227) 48 = .ok (.aload_n 0, 1) := by decide +kernel
theorem d_227_49 : decode (am_b 227) 49 = .ok (.iload_n 1, 1) := by decide +kernel
theorem d_227_50 : decode (am_b 227) 50 = .ok (.invokevirtual 257, 3) := by decide +kernel
theorem d_227_53 : decode (am_b 227) 53 = .ok (.aload_n 0, 1) := by decide +kernel
theorem d_227_54 : decode (am_b 227) 54 = .ok (.aload_n 0, 1) := by decide +kernel
theorem d_227_55 : decode (am_b 227) 55 = .ok (.iload_n 2, 1) := by decide +kernel
theorem d_227_56 : decode (am_b 227) 56 = .ok (.iload_n 3, 1) := by decide +kernel
theorem d_227_57 : decode (am_b 227) 57 = .ok (.invokevirtual 130, 3) := by decide +kernel
theorem d_227_60 : decode (am_b 227) 60 = .ok (.invokevirtual 114, 3) := by decide +kernel
theorem d_227_63 : decode (am_b 227) 63 = .ok (.ireturn, 1) := by decide +kernel
theorem d_228_0 : decode (am_b 228) 0 = .ok (.iload_n 1, 1) := by decide +kernel
theorem d_228_1 : decode (am_b 228) 1 = .ok (.iconst 0, 1) := by decide +kernel
theorem d_228_2 : decode (am_b 228) 2 = .ok (.aload_n 0, 1) := by decide +kernel
theorem d_228_3 : decode (am_b 228) 3 = .ok (.getfield 127, 3) := by decide +kernel
theorem d_228_6 : decode (am_b 228) 6 = .ok (.iconst 1, 1) := by decide +kernel
theorem d_228_7 : decode (am_b 228) 7 = .ok (.isub, 1) := by decide +kernel
theorem d_228_8 : decode (am_b 228) 8 = .ok (.invokestatic 106, 3) := by decide +kernel
theorem d_228_11 : decode (am_b 228) 11 = .ok (.ireturn, 1) := by decide +kernel
theorem d_229_0 : decode (am_b 229) 0 = .ok (.aload_n 0, 1) := by decide +kernel
theorem d_229_1 : decode (am_b 229) 1 = .ok (.aload_n 0, 1) := by decide +kernel
theorem d_229_2 : decode (am_b 229) 2 = .ok (.getfield 127, 3) := by decide +kernel
theorem d_229_5 : decode (am_b 229) 5 = .ok (.putfield 134, 3) := by decide +kernel
theorem d_229_8 : decode (am_b 229) 8 = .ok (.iconst 0, 1) := by decide +kernel
theorem d_229_9 : decode (am_b 229) 9 = .ok (.istore_n 3, 1) := by decide +kernel
theorem d_229_10 : decode (am_b 229) 10 = .ok (.iload_n 3, 1) := by decide +kernel
theorem d_229_11 : decode (am_b 229) 11 = .ok (.aload_n 0, 1) := by decide +kernel
theorem d_229_12 : decode (am_b 229) 12 = .ok (.getfield 127, 3) := by decide +kernel
theorem d_229_15 : decode (am_b 229) 15 = .ok (.if_icmp .ge 58, 3) := by decide +kernel
theorem d_229_18 : decode (am_b 229) 18 = .ok (.iconst 0, 1) := by decide +kernel
theorem d_229_19 : decode (am_b 229) 19 = .ok (.istore 4, 2) := by decide +kernel
theorem d_229_21 : decode (am_b 229) 21 = .ok (.iload 4, 2) := by decide +kernel
theorem d_229_23 : decode (am_b 229) 23 = .ok (.aload_n 0, 1) := by decide +kernel
theorem d_229_24 : decode (am_b 229) 24 = .ok (.getfield 127, 3) := by decide +kernel
theorem d_229_27 : decode (am_b 229) 27 = .ok (.if_icmp .ge 40, 3) := by decide +kernel
theorem d_229_30 : decode (am_b 229) 30 = .ok (.aload_n 0, 1) := by decide +kernel
theorem d_229_31 : decode (am_b 229) 31 = .ok (.getfield 26, 3) := by decide +kernel
theorem d_229_34 : decode (am_b 229) 34 = .ok (.aload_n 0, 1) := by decide +kernel
theorem d_229_35 : decode (am_b 229) 35 = .ok (.getfield 127, 3) := by decide +kernel
theorem d_229_38 : decode (am_b 229) 38 = .ok (.iload_n 3, 1) := by decide +kernel
theorem d_229_39 : decode (am_b 229) 39 = .ok (.imul, 1) := by decide +kernel
theorem d_229_40 : decode (am_b 229) 40 = .ok (.iload 4, 2) := by decide +kernel
theorem d_229_42 : decode (am_b 229) 42 = .ok (.iadd, 1) := by decide +kernel
theorem d_229_43 : decode (am_b 229) 43 = .ok (.aload_n 0, 1) := by decide +kernel
theorem d_229_44 : decode (am_b 229) 44 = .ok (.aload_n 0, 1) := by decide +kernel
theorem d_229_45 : decode (am_b 229) 45 = .ok (.iload_n 3, 1) := by decide +kernel
theorem d_229_46 : decode (am_b 229) 46 = .ok (.iload_n 2, 1) := by decide +kernel
theorem d_229_47 : decode (am_b 229) 47 = .ok (.invokevirtual 208, 3) := by decide +kernel
theorem d_229_50 : decode (am_b 229) 50 = .ok (.aload_n 0, 1) := by decide +kernel
theorem d_229_51 : decode (am_b 229) 51 = .ok (.iload_n 1, 1) := by decide +kernel
theorem d_229_52 : decode (am_b 229) 52 = .ok (.iload 4, 2) := by decide +kernel
theorem d_229_54 : decode (am_b 229) 54 = .ok (.invokevirtual 211, 3) := by decide +kernel
theorem d_229_57 : decode (am_b 229) 57 = .ok (.invokevirtual 130, 3) := by decide +kernel
theorem d_229_60 : decode (am_b 229) 60 = .ok (.iastore, 1) := by decide +kernel
theorem d_229_61 : decode (am_b 229) 61 = .ok (.iinc 4 1, 3) := by decide +kernel
theorem d_229_64 : decode (am_b 229) 64 = .ok (.goto (-43), 3) := by decide +kernel
theorem d_229_67 : decode (am_b 229) 67 = .ok (.iinc 3 1, 3) := by decide +kernel
theorem d_229_70 : decode (am_b 229) 70 = .ok (.goto (-60), 3) := by decide +kernel
theorem d_229_73 : decode (am_b 229) 73 = .ok (.return_, 1) := by decide +kernel
theorem d_230_0 : decode (am_b 230) 0 = .ok (.aload_n 0, 1) := by decide +kernel
theorem d_230_1 : decode (am_b 230) 1 = .ok (.iload_n 1, 1) := by decide +kernel
theorem d_230_2 : decode (am_b 230) 2 = .ok (.invokevirtual 124, 3) := by decide +kernel
theorem d_230_5 : decode (am_b 230) 5 = .ok (.ifCond .ne 10, 3) := by decide +kernel
theorem d_230_8 : decode (am_b 230) 8 = .ok (.aload_n 0, 1) := by decide +kernel
theorem d_230_9 : decode (am_b 230) 9 = .ok (.bipush (-2), 2) := by decide +kernel
theorem d_230_11 : decode (am_b 230) 11 = .ok (.invokevirtual 110, 3) := by decide +kernel
theorem d_230_14 : decode (am_b 230) 14 = .ok (.ireturn, 1) := by decide +kernel
theorem d_230_15 : decode (am_b 230) 15 = .ok (.iload_n 2, 1) := by decide +kernel
theorem d_230_16 : decode (am_b 230) 16 = .ok (.iconst 0, 1) := by decide +kernel
theorem d_230_17 : decode (am_b 230) 17 = .ok (.iconst 5, 1) := by decide +kernel
theorem d_230_18 : decode (am_b 230) 18 = .ok (.invokestatic 106, 3) := by decide +kernel
theorem d_230_21 : decode (am_b 230) 21 = .ok (.ifCond .ne 9, 3) := by decide +kernel
theorem d_230_24 : decode (am_b 230) 24 = .ok (.aload_n 0, 1) := by decide +kernel
theorem d_230_25 : decode (am_b 230) 25 = .ok (.iconst (-1), 1) := by decide +kernel
theorem d_230_26 : decode (am_b 230) 26 = .ok (.invokevirtual 110, 3) := by decide +kernel
theorem d_230_29 : decode (am_b 230) 29 = .ok (.ireturn, 1) := by decide +kernel
theorem d_230_30 : decode (am_b 230) 30 = .ok (.aload_n 0, 1) := by decide +kernel
theorem d_230_31 : decode (am_b 230) 31 = .ok (.iload_n 1, 1) := by decide +kernel
theorem d_230_32 : decode (am_b 230) 32 = .ok (.invokevirtual 248, 3) := by decide +kernel
theorem d_230_35 : decode (am_b 230) 35 = .ok (.aload_n 0, 1) := by decide +kernel
theorem d_230_36 : decode (am_b 230) 36 = .ok (.iload_n 2, 1) := by decide +kernel
theorem d_230_37 : decode (am_b 230) 37 = .ok (.invokevirtual 267, 3) := by decide +kernel
theorem d_230_40 : decode (am_b 230) 40 = .ok (.aload_n 0, 1) := by decide +kernel
theorem d_230_41 : decode (am_b 230) 41 = .ok (.iload_n 1, 1) := by decide +kernel
theorem d_230_42 : decode (am_b 230) 42 = .ok (.invokevirtual 257, 3) := by decide +kernel
theorem d_230_45 : decode (am_b 230) 45 = .ok (.aload_n 0, 1) := by decide +kernel
theorem d_230_46 : decode (am_b 230) 46 = .ok (.iconst 0, 1) := by decide +kernel
theorem d_230_47 : decode (am_b 230) 47 = .ok (.invokevirtual 114, 3) := by decide +kernel
theorem d_230_50 : decode (am_b 230) 50 = .ok (.ireturn, 1) := by decide +kernel
theorem d_231_0 : decode (am_b 231) 0 = .ok (.aload_n 0, 1) := by decide +kernel
theorem d_231_1 : decode (am_b 231) 1 = .ok (.aload_n 0, 1) := by decide +kernel
theorem d_231_2 : decode (am_b 231) 2 = .ok (.getfield 127, 3) := by decide +kernel
theorem d_231_5 : decode (am_b 231) 5 = .ok (.putfield 134, 3) := by decide +kernel
theorem d_231_8 : decode (am_b 231) 8 = .ok (.iconst 0, 1) := by decide +kernel
theorem d_231_9 : decode (am_b 231) 9 = .ok (.istore_n 2, 1) := by decide +kernel
theorem d_231_10 : decode (am_b 231) 10 = .ok (.iload_n 2, 1) := by decide +kernel
theorem d_231_11 : decode (am_b 231) 11 = .ok (.aload_n 0, 1) := by decide +kernel
theorem d_231_12 : decode (am_b 231) 12 = .ok (.getfield 127, 3) := by decide +kernel
theorem d_231_15 : decode (am_b 231) 15 = .ok (.if_icmp .ge 174, 3) := by decide +kernel
theorem d_231_18 : decode (am_b 231) 18 = .ok (.iconst 0, 1) := by decide +kernel
theorem d_231_19 : decode (am_b 231) 19 = .ok (.istore_n 3, 1) := by decide +kernel
theorem d_231_20 : decode (am_b 231) 20 = .ok (.iload_n 3, 1) := by decide +kernel
theorem d_231_21 : decode (am_b 231) 21 = .ok (.aload_n 0, 1) := by decide +kernel
theorem d_231_22 : decode (am_b 231) 22 = .ok (.getfield 127, 3) := by decide +kernel
theorem d_231_25 : decode (am_b 231) 25 = .ok (.if_icmp .ge 158, 3) := by decide +kernel
theorem d_231_28 : decode (am_b 231) 28 = .ok (.aload_n 0, 1) := by decide +kernel
theorem d_231_29 : decode (am_b 231) 29 = .ok (.iload_n 2, 1) := by decide +kernel
theorem d_231_30 : decode (am_b 231) 30 = .ok (.iload_n 3, 1) := by decide +kernel
theorem d_231_31 : decode (am_b 231) 31 = .ok (.invokevirtual 130, 3) := by decide +kernel
theorem d_231_34 : decode (am_b 231) 34 = .ok (.istore 4, 2) := by decide +kernel
theorem d_231_36 : decode (am_b 231) 36 = .ok (.iload_n 1, 1) := by decide +kernel
theorem d_231_37 : decode (am_b 231) 37 = .ok (.tableswitch 125 0 4 #[35, 53, 71, 89, 107], 35) := by decide +kernel
theorem d_231_72 : decode (am_b 231) 72 = .ok (.aload_n 0, 1) := by decide +kernel
theorem d_231_73 : decode (am_b 231) 73 = .ok (.getfield 26, 3) := by decide +kernel
theorem d_231_76 : decode (am_b 231) 76 = .ok (.aload_n 0, 1) := by decide +kernel
theorem d_231_77 : decode (am_b 231) 77 = .ok (.getfield 127, 3) := by decide +kernel
theorem d_231_80 : decode (am_b 231) 80 = .ok (.iload_n 2, 1) := by decide +kernel
theorem d_231_81 : decode (am_b 231) 81 = .ok (.imul, 1) := by decide +kernel
theorem d_231_82 : decode (am_b 231) 82 = .ok (.iload_n 3, 1) := by decide +kernel
theorem d_231_83 : decode (am_b 231) 83 = .ok (.iadd, 1) := by decide +kernel
theorem d_231_84 : decode (am_b 231) 84 = .ok (.iload 4, 2) := by decide +kernel
theorem d_231_86 : decode (am_b 231) 86 = .ok (.iastore, 1) := by decide +kernel
theorem d_231_87 : decode (am_b 231) 87 = .ok (.goto 90, 3) := by decide +kernel
theorem d_231_90 : decode (am_b 231) 90 = .ok (.aload_n 0, 1) := by decide +kernel
theorem d_231_91 : decode (am_b 231) 91 = .ok (.getfield 26, 3) := by decide +kernel
theorem d_231_94 : decode (am_b 231) 94 = .ok (.aload_n 0, 1) := by decide +kernel
theorem d_231_95 : decode (am_b 231) 95 = .ok (.getfield 127, 3) := by decide +kernel
theorem d_231_98 : decode (am_b 231) 98 = .ok (.iload_n 3, 1) := by decide +kernel
theorem d_231_99 : decode (am_b 231) 99 = .ok (.imul, 1) := by decide +kernel
theorem d_231_100 : decode (am_b 231) 100 = .ok (.iload_n 2, 1) := by decide +kernel
theorem d_231_101 : decode (am_b 231) 101 = .ok (.iadd, 1) := by decide +kernel
theorem d_231_102 : decode (am_b 231) 102 = .ok (.iload 4, 2) := by decide +kernel
theorem d_231_104 : decode (am_b 231) 104 = .ok (.iastore, 1) := by decide +kernel
theorem d_231_105 : decode (am_b 231) 105 = .ok (.goto 72, 3) := by decide +kernel
theorem d_231_108 : decode (am_b 231) 108 = .ok (.aload_n 0, 1) := by decide +kernel
theorem d_231_109 : decode (am_b 231) 109 = .ok (.getfield 26, 3) := by decide +kernel
theorem d_231_112 : decode (am_b 231) 112 = .ok (.aload_n 0, 1) := by decide +kernel
theorem d_231_113 : decode (am_b 231) 113 = .ok (.getfield 127, 3) := by decide +kernel
theorem d_231_116 : decode (am_b 231) 116 = .ok (.iload_n 2, 1) := by decide +kernel
theorem d_231_117 : decode (am_b 231) 117 = .ok (.imul, 1) := by decide +kernel
theorem d_231_118 : decode (am_b 231) 118 = .ok (.iload 4, 2) := by decide +kernel
theorem d_231_120 : decode (am_b 231) 120 = .ok (.iadd, 1) := by decide +kernel
theorem d_231_121 : decode (am_b 231) 121 = .ok (.iload_n 3, 1) := by decide +kernel
theorem d_231_122 : decode (am_b 231) 122 = .ok (.iastore, 1) := by decide +kernel
theorem d_231_123 : decode (am_b 231) 123 = .ok (.goto 54, 3) := by decide +kernel
theorem d_231_126 : decode (am_b 231) 126 = .ok (.aload_n 0, 1) := by decide +kernel
theorem d_231_127 : decode (am_b 231) 127 = .ok (.getfield 26, 3) := by decide +kernel
theorem d_231_130 : decode (am_b 231) 130 = .ok (.aload_n 0, 1) := by decide +kernel
theorem d_231_131 : decode (am_b 231) 131 = .ok (.getfield 127, 3) := by decide +kernel
theorem d_231_134 : decode (am_b 231) 134 = .ok (.iload 4, 2) := by decide +kernel
theorem d_231_136 : decode (am_b 231) 136 = .ok (.imul, 1) := by decide +kernel
theorem d_231_137 : decode (am_b 231) 137 = .ok (.iload_n 2, 1) := by decide +kernel
theorem d_231_138 : decode (am_b 231) 138 = .ok (.iadd, 1) := by decide +kernel
theorem d_231_139 : decode (am_b 231) 139 = .ok (.iload_n 3, 1) := by decide +kernel
theorem d_231_140 : decode (am_b 231) 140 = .ok (.iastore, 1) := by decide +kernel
theorem d_231_141 : decode (am_b 231) 141 = .ok (.goto 36, 3) := by decide +kernel
theorem d_231_144 : decode (am_b 231) 144 = .ok (.aload_n 0, 1) := by decide +kernel
theorem d_231_145 : decode (am_b 231) 145 = .ok (.getfield 26, 3) := by decide +kernel
theorem d_231_148 : decode (am_b 231) 148 = .ok (.aload_n 0, 1) := by decide +kernel
theorem d_231_149 : decode (am_b 231) 149 = .ok (.getfield 127, 3) := by decide +kernel
theorem d_231_152 : decode (am_b 231) 152 = .ok (.iload_n 3, 1) := by decide +kernel
theorem d_231_153 : decode (am_b 231) 153 = .ok (.imul, 1) := by decide +kernel
theorem d_231_154 : decode (am_b 231) 154 = .ok (.iload 4, 2) := by decide +kernel
theorem d_231_156 : decode (am_b 231) 156 = .ok (.iadd, 1) := by decide +kernel
theorem d_231_157 : decode (am_b 231) 157 = .ok (.iload_n 2, 1) := by decide +kernel
theorem d_231_158 : decode (am_b 231) 158 = .ok (.iastore, 1) := by decide +kernel
theorem d_231_159 : decode (am_b 231) 159 = .ok (.goto 18, 3) := by decide +kernel
theorem d_231_162 : decode (am_b 231) 162 = .ok (.aload_n 0, 1) := by decide +kernel
theorem d_231_163 : decode (am_b 231) 163 = .ok (.getfield 26, 3) := by decide +kernel
theorem d_231_166 : decode (am_b 231) 166 = .ok (.aload_n 0, 1) := by decide +kernel
theorem d_231_167 : decode (am_b 231) 167 = .ok (.getfield 127, 3) := by decide +kernel
theorem d_231_170 : decode (am_b 231) 170 = .ok (.iload 4, 2) := by decide +kernel
theorem d_231_172 : decode (am_b 231) 172 = .ok (.imul, 1) := by decide +kernel
theorem d_231_173 : decode (am_b 231) 173 = .ok (.iload_n 3, 1) := by decide +kernel
theorem d_231_174 : decode (am_b 231) 174 = .ok (.iadd, 1) := by decide +kernel
theorem d_231_175 : decode (am_b 231) 175 = .ok (.iload_n 2, 1) := by decide +kernel
theorem d_231_176 : decode (am_b 231) 176 = .ok (.iastore, 1) := by decide +kernel
theorem d_231_177 : decode (am_b 231) 177 = .ok (.iinc 3 1, 3) := by decide +kernel
theorem d_231_180 : decode (am_b 231) 180 = .ok (.goto (-160), 3) := by decide +kernel
theorem d_231_183 : decode (am_b 231) 183 = .ok (.iinc 2 1, 3) := by decide +kernel
theorem d_231_186 : decode (am_b 231) 186 = .ok (.goto (-176), 3) := by decide +kernel
theorem d_231_189 : decode (am_b 231) 189 = .ok (.return_, 1) := by decide +kernel
theorem d_232_0 : decode (am_b 232) 0 = .ok (.aload_n 0, 1) := by decide +kernel
theorem d_232_1 : decode (am_b 232) 1 = .ok (.iload_n 1, 1) := by decide +kernel
theorem d_232_2 : decode (am_b 232) 2 = .ok (.invokevirtual 124, 3) := by decide +kernel
theorem d_232_5 : decode (am_b 232) 5 = .ok (.ifCond .ne 10, 3) := by decide +kernel
theorem d_232_8 : decode (am_b 232) 8 = .ok (.aload_n 0, 1) := by decide +kernel
theorem d_232_9 : decode (am_b 232) 9 = .ok (.bipush (-2), 2) := by decide +kernel
theorem d_232_11 : decode (am_b 232) 11 = .ok (.invokevirtual 110, 3) := by decide +kernel
theorem d_232_14 : decode (am_b 232) 14 = .ok (.ireturn, 1) := by decide +kernel
theorem d_232_15 : decode (am_b 232) 15 = .ok (.aload_n 0, 1) := by decide +kernel
theorem d_232_16 : decode (am_b 232) 16 = .ok (.iload_n 1, 1) := by decide +kernel
theorem d_232_17 : decode (am_b 232) 17 = .ok (.invokevirtual 248, 3) := by decide +kernel
theorem d_232_20 : decode (am_b 232) 20 = .ok (.iload_n 2, 1) := by decide +kernel
theorem d_232_21 : decode (am_b 232) 21 = .ok (.iconst 0, 1) := by decide +kernel
theorem d_232_22 : decode (am_b 232) 22 = .ok (.aload_n 0, 1) := by decide +kernel
theorem d_232_23 : decode (am_b 232) 23 = .ok (.getfield 127, 3) := by decide +kernel
theorem d_232_26 : decode (am_b 232) 26 = .ok (.invokestatic 270, 3) := by decide +kernel
theorem d_232_29 : decode (am_b 232) 29 = .ok (.iconst 1, 1) := by decide +kernel
theorem d_232_30 : decode (am_b 232) 30 = .ok (.isub, 1) := by decide +kernel
theorem d_232_31 : decode (am_b 232) 31 = .ok (.invokestatic 106, 3) := by decide +kernel
theorem d_232_34 : decode (am_b 232) 34 = .ok (.ifCond .ne 9, 3) := by decide +kernel
theorem d_232_37 : decode (am_b 232) 37 = .ok (.aload_n 0, 1) := by decide +kernel
theorem d_232_38 : decode (am_b 232) 38 = .ok (.iconst (-1), 1) := by decide +kernel
theorem d_232_39 : decode (am_b 232) 39 = .ok (.invokevirtual 110, 3) := by decide +kernel
theorem d_232_42 : decode (am_b 232) 42 = .ok (.ireturn, 1) := by decide +kernel
theorem d_232_43 : decode (am_b 232) 43 = .ok (.aload_n 0, 1) := by decide +kernel
theorem d_232_44 : decode (am_b 232) 44 = .ok (.iload_n 2, 1) := by decide +kernel
theorem d_232_45 : decode (am_b 232) 45 = .ok (.aload_n 0, 1) := by decide +kernel
theorem d_232_46 : decode (am_b 232) 46 = .ok (.getfield 127, 3) := by decide +kernel
theorem d_232_49 : decode (am_b 232) 49 = .ok (.invokevirtual 273, 3) := by decide +kernel
theorem d_232_52 : decode (am_b 232) 52 = .ok (.aload_n 0, 1) := by decide +kernel
theorem d_232_53 : decode (am_b 232) 53 = .ok (.invokevirtual 276, 3) := by decide +kernel
theorem d_232_56 : decode (am_b 232) 56 = .ok (.aload_n 0, 1) := by decide +kernel
theorem d_232_57 : decode (am_b 232) 57 = .ok (.iload_n 1, 1) := by decide +kernel
theorem d_232_58 : decode (am_b 232) 58 = .ok (.invokevirtual 257, 3) := by decide +kernel
theorem d_232_61 : decode (am_b 232) 61 = .ok (.aload_n 0, 1) := by decide +kernel
theorem d_232_62 : decode (am_b 232) 62 = .ok (.iconst 0, 1) := by decide +kernel
theorem d_232_63 : decode (am_b 232) 63 = .ok (.invokevirtual 114, 3) := by decide +kernel
theorem d_232_66 : decode (am_b 232) 66 = .ok (.ireturn, 1) := by decide +kernel
theorem d_233_0 : decode (am_b 233) 0 = .ok (.iconst 1, 1) := by decide +kernel
theorem d_233_1 : decode (am_b 233) 1 = .ok (.istore_n 1, 1) := by decide +kernel
theorem d_233_2 : decode (am_b 233) 2 = .ok (.iconst 2, 1) := by decide +kernel
theorem d_233_3 : decode (am_b 233) 3 = .ok (.istore_n 2, 1) := by decide +kernel
theorem d_233_4 : decode (am_b 233) 4 = .ok (.iload_n 2, 1) := by decide +kernel
theorem d_233_5 : decode (am_b 233) 5 = .ok (.iload_n 0, 1) := by decide +kernel
theorem d_233_6 : decode (am_b 233) 6 = .ok (.if_icmp .gt 13, 3) := by decide +kernel
theorem d_233_9 : decode (am_b 233) 9 = .ok (.iload_n 1, 1) := by decide +kernel
theorem d_233_10 : decode (am_b 233) 10 = .ok (.iload_n 2, 1) := by decide +kernel
theorem d_233_11 : decode (am_b 233) 11 = .ok (.imul, 1) := by decide +kernel
theorem d_233_12 : decode (am_b 233) 12 = .ok (.istore_n 1, 1) := by decide +kernel
theorem d_233_13 : decode (am_b 233) 13 = .ok (.iinc 2 1, 3) := by decide +kernel
theorem d_233_16 : decode (am_b 233) 16 = .ok (.goto (-12), 3) := by decide +kernel
theorem d_233_19 : decode (am_b 233) 19 = .ok (.iload_n 1, 1) := by decide +kernel
theorem d_233_20 : decode (am_b 233) 20 = .ok (.ireturn, 1) := by decide +kernel
