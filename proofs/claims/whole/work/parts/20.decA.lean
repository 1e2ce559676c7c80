/-! decode rows, printed by wip/whole/gen_decparts.py -/
theorem d_177_0 : decode (am_b 177) 0 = .ok (.aload_n 0, 1) := by decide +kernel
theorem d_177_1 : decode (am_b 177) 1 = .ok (.invokespecial 3, 3) := by decide +kernel
theorem d_177_4 : decode (am_b 177) 4 = .ok (.aload_n 0, 1) := by decide +kernel
theorem d_177_5 : decode (am_b 177) 5 = .ok (.bipush 7, 2) := by decide +kernel
theorem d_177_7 : decode (am_b 177) 7 = .ok (.newarray .int, 2) := by decide +kernel
theorem d_177_9 : decode (am_b 177) 9 = .ok (.putfield 9, 3) := by decide +kernel
theorem d_177_12 : decode (am_b 177) 12 = .ok (.aload_n 0, 1) := by decide +kernel
theorem d_177_13 : decode (am_b 177) 13 = .ok (.sipush 5720, 3) := by decide +kernel
theorem d_177_16 : decode (am_b 177) 16 = .ok (.newarray .int, 2) := by decide +kernel
theorem d_177_18 : decode (am_b 177) 18 = .ok (.putfield 13, 3) := by decide +kernel
theorem d_177_21 : decode (am_b 177) 21 = .ok (.aload_n 0, 1) := by decide +kernel
theorem d_177_22 : decode (am_b 177) 22 = .ok (.sipush 11440, 3) := by decide +kernel
theorem d_177_25 : decode (am_b 177) 25 = .ok (.newarray .int, 2) := by decide +kernel
theorem d_177_27 : decode (am_b 177) 27 = .ok (.putfield 16, 3) := by decide +kernel
theorem d_177_30 : decode (am_b 177) 30 = .ok (.aload_n 0, 1) := by decide +kernel
theorem d_177_31 : decode (am_b 177) 31 = .ok (.iconst 2, 1) := by decide +kernel
theorem d_177_32 : decode (am_b 177) 32 = .ok (.newarray .boolean, 2) := by decide +kernel
theorem d_177_34 : decode (am_b 177) 34 = .ok (.putfield 19, 3) := by decide +kernel
theorem d_177_37 : decode (am_b 177) 37 = .ok (.aload_n 0, 1) := by decide +kernel
theorem d_177_38 : decode (am_b 177) 38 = .ok (.bipush 36, 2) := by decide +kernel
theorem d_177_40 : decode (am_b 177) 40 = .ok (.newarray .int, 2) := by decide +kernel
theorem d_177_42 : decode (am_b 177) 42 = .ok (.putfield 23, 3) := by decide +kernel
theorem d_177_45 : decode (am_b 177) 45 = .ok (.aload_n 0, 1) := by decide +kernel
theorem d_177_46 : decode (am_b 177) 46 = .ok (.bipush 36, 2) := by decide +kernel
theorem d_177_48 : decode (am_b 177) 48 = .ok (.newarray .int, 2) := by decide +kernel
theorem d_177_50 : decode (am_b 177) 50 = .ok (.putfield 26, 3) := by decide +kernel
theorem d_177_53 : decode (am_b 177) 53 = .ok (.aload_n 0, 1) := by decide +kernel
theorem d_177_54 : decode (am_b 177) 54 = .ok (.bipush 11, 2) := by decide +kernel
theorem d_177_56 : decode (am_b 177) 56 = .ok (.newarray .byte, 2) := by decide +kernel
theorem d_177_58 : decode (am_b 177) 58 = .ok (.dup, 1) := by decide +kernel
theorem d_177_59 : decode (am_b 177) 59 = .ok (.iconst 0, 1) := by decide +kernel
theorem d_177_60 : decode (am_b 177) 60 = .ok (.bipush 120, 2) := by decide +kernel
theorem d_177_62 : decode (am_b 177) 62 = .ok (.bastore, 1) := by decide +kernel
theorem d_177_63 : decode (am_b 177) 63 = .ok (.dup, 1) := by decide +kernel
theorem d_177_64 : decode (am_b 177) 64 = .ok (.iconst 1, 1) := by decide +kernel
theorem d_177_65 : decode (am_b 177) 65 = .ok (.bipush 32, 2) := by decide +kernel
theorem d_177_67 : decode (am_b 177) 67 = .ok (.bastore, 1) := by decide +kernel
theorem d_177_68 : decode (am_b 177) 68 = .ok (.dup, 1) := by decide +kernel
theorem d_177_69 : decode (am_b 177) 69 = .ok (.iconst 2, 1) := by decide +kernel
theorem d_177_70 : decode (am_b 177) 70 = .ok (.bipush 121, 2) := by decide +kernel
theorem d_177_72 : decode (am_b 177) 72 = .ok (.bastore, 1) := by decide +kernel
theorem d_177_73 : decode (am_b 177) 73 = .ok (.dup, 1) := by decide +kernel
theorem d_177_74 : decode (am_b 177) 74 = .ok (.iconst 3, 1) := by decide +kernel
theorem d_177_75 : decode (am_b 177) 75 = .ok (.bipush 32, 2) := by decide +kernel
theorem d_177_77 : decode (am_b 177) 77 = .ok (.bastore, 1) := by decide +kernel
theorem d_177_78 : decode (am_b 177) 78 = .ok (.dup, 1) := by decide +kernel
theorem d_177_79 : decode (am_b 177) 79 = .ok (.iconst 4, 1) := by decide +kernel
theorem d_177_80 : decode (am_b 177) 80 = .ok (.bipush 122, 2) := by decide +kernel
theorem d_177_82 : decode (am_b 177) 82 = .ok (.bastore, 1) := by decide +kernel
theorem d_177_83 : decode (am_b 177) 83 = .ok (.dup, 1) := by decide +kernel
theorem d_177_84 : decode (am_b 177) 84 = .ok (.iconst 5, 1) := by decide +kernel
theorem d_177_85 : decode (am_b 177) 85 = .ok (.bipush 32, 2) := by decide +kernel
theorem d_177_87 : decode (am_b 177) 87 = .ok (.bastore, 1) := by decide +kernel
theorem d_177_88 : decode (am_b 177) 88 = .ok (.dup, 1) := by decide +kernel
theorem d_177_89 : decode (am_b 177) 89 = .ok (.bipush 6, 2) := by decide +kernel
theorem d_177_91 : decode (am_b 177) 91 = .ok (.bipush 101, 2) := by decide +kernel
theorem d_177_93 : decode (am_b 177) 93 = .ok (.bastore, 1) := by decide +kernel
theorem d_177_94 : decode (am_b 177) 94 = .ok (.dup, 1) := by decide +kernel
theorem d_177_95 : decode (am_b 177) 95 = .ok (.bipush 7, 2) := by decide +kernel
theorem d_177_97 : decode (am_b 177) 97 = .ok (.bipush 32, 2) := by decide +kernel
theorem d_177_99 : decode (am_b 177) 99 = .ok (.bastore, 1) := by decide +kernel
theorem d_177_100 : decode (am_b 177) 100 = .ok (.dup, 1) := by decide +kernel
theorem d_177_101 : decode (am_b 177) 101 = .ok (.bipush 8, 2) := by decide +kernel
theorem d_177_103 : decode (am_b 177) 103 = .ok (.bipush 105, 2) := by decide +kernel
theorem d_177_105 : decode (am_b 177) 105 = .ok (.bastore, 1) := by decide +kernel
theorem d_177_106 : decode (am_b 177) 106 = .ok (.dup, 1) := by decide +kernel
theorem d_177_107 : decode (am_b 177) 107 = .ok (.bipush 9, 2) := by decide +kernel
theorem d_177_109 : decode (am_b 177) 109 = .ok (.bipush 102, 2) := by decide +kernel
theorem d_177_111 : decode (am_b 177) 111 = .ok (.bastore, 1) := by decide +kernel
theorem d_177_112 : decode (am_b 177) 112 = .ok (.dup, 1) := by decide +kernel
theorem d_177_113 : decode (am_b 177) 113 = .ok (.bipush 10, 2) := by decide +kernel
theorem d_177_115 : decode (am_b 177) 115 = .ok (.bipush 32, 2) := by decide +kernel
theorem d_177_117 : decode (am_b 177) 117 = .ok (.bastore, 1) := by decide +kernel
theorem d_177_118 : decode (am_b 177) 118 = .ok (.putfield 29, 3) := by decide +kernel
theorem d_177_121 : decode (am_b 177) 121 = .ok (.aload_n 0, 1) := by decide +kernel
theorem d_177_122 : decode (am_b 177) 122 = .ok (.sipush 400, 3) := by decide +kernel
theorem d_177_125 : decode (am_b 177) 125 = .ok (.newarray .byte, 2) := by decide +kernel
theorem d_177_127 : decode (am_b 177) 127 = .ok (.putfield 33, 3) := by decide +kernel
theorem d_177_130 : decode (am_b 177) 130 = .ok (.aload_n 0, 1) := by decide +kernel
theorem d_177_131 : decode (am_b 177) 131 = .ok (.iconst 5, 1) := by decide +kernel
theorem d_177_132 : decode (am_b 177) 132 = .ok (.newarray .int, 2) := by decide +kernel
theorem d_177_134 : decode (am_b 177) 134 = .ok (.putfield 36, 3) := by decide +kernel
theorem d_177_137 : decode (am_b 177) 137 = .ok (.aload_n 0, 1) := by decide +kernel
theorem d_177_138 : decode (am_b 177) 138 = .ok (.iconst (-1), 1) := by decide +kernel
theorem d_177_139 : decode (am_b 177) 139 = .ok (.putfield 39, 3) := by decide +kernel
theorem d_177_142 : decode (am_b 177) 142 = .ok (.aload_n 0, 1) := by decide +kernel
theorem d_177_143 : decode (am_b 177) 143 = .ok (.sipush 401, 3) := by decide +kernel
theorem d_177_146 : decode (am_b 177) 146 = .ok (.newarray .int, 2) := by decide +kernel
theorem d_177_148 : decode (am_b 177) 148 = .ok (.putfield 43, 3) := by decide +kernel
theorem d_177_151 : decode (am_b 177) 151 = .ok (.aload_n 0, 1) := by decide +kernel
theorem d_177_152 : decode (am_b 177) 152 = .ok (.sipush 401, 3) := by decide +kernel
theorem d_177_155 : decode (am_b 177) 155 = .ok (.newarray .int, 2) := by decide +kernel
theorem d_177_157 : decode (am_b 177) 157 = .ok (.putfield 46, 3) := by decide +kernel
theorem d_177_160 : decode (am_b 177) 160 = .ok (.aload_n 0, 1) := by decide +kernel
theorem d_177_161 : decode (am_b 177) 161 = .ok (.sipush 401, 3) := by decide +kernel
theorem d_177_164 : decode (am_b 177) 164 = .ok (.newarray .int, 2) := by decide +kernel
theorem d_177_166 : decode (am_b 177) 166 = .ok (.putfield 49, 3) := by decide +kernel
theorem d_177_169 : decode (am_b 177) 169 = .ok (.aload_n 0, 1) := by decide +kernel
theorem d_177_170 : decode (am_b 177) 170 = .ok (.iconst 5, 1) := by decide +kernel
theorem d_177_171 : decode (am_b 177) 171 = .ok (.newarray .int, 2) := by decide +kernel
theorem d_177_173 : decode (am_b 177) 173 = .ok (.putfield 52, 3) := by decide +kernel
theorem d_177_176 : decode (am_b 177) 176 = .ok (.aload_n 0, 1) := by decide +kernel
theorem d_177_177 : decode (am_b 177) 177 = .ok (.bipush 6, 2) := by decide +kernel
theorem d_177_179 : decode (am_b 177) 179 = .ok (.newarray .int, 2) := by decide +kernel
theorem d_177_181 : decode (am_b 177) 181 = .ok (.putfield 55, 3) := by decide +kernel
theorem d_177_184 : decode (am_b 177) 184 = .ok (.aload_n 0, 1) := by decide +kernel
theorem d_177_185 : decode (am_b 177) 185 = .ok (.bipush 6, 2) := by decide +kernel
theorem d_177_187 : decode (am_b 177) 187 = .ok (.newarray .int, 2) := by decide +kernel
theorem d_177_189 : decode (am_b 177) 189 = .ok (.putfield 58, 3) := by decide +kernel
theorem d_177_192 : decode (am_b 177) 192 = .ok (.aload_n 0, 1) := by decide +kernel
theorem d_177_193 : decode (am_b 177) 193 = .ok (.sipush 720, 3) := by decide +kernel
theorem d_177_196 : decode (am_b 177) 196 = .ok (.newarray .boolean, 2) := by decide +kernel
theorem d_177_198 : decode (am_b 177) 198 = .ok (.putfield 61, 3) := by decide +kernel
theorem d_177_201 : decode (am_b 177) 201 = .ok (.aload_n 0, 1) := by decide +kernel
theorem d_177_202 : decode (am_b 177) 202 = .ok (.sipush 720, 3) := by decide +kernel
theorem d_177_205 : decode (am_b 177) 205 = .ok (.newarray .int, 2) := by decide +kernel
theorem d_177_207 : decode (am_b 177) 207 = .ok (.putfield 64, 3) := by decide +kernel
theorem d_177_210 : decode (am_b 177) 210 = .ok (.aload_n 0, 1) := by decide +kernel
theorem d_177_211 : decode (am_b 177) 211 = .ok (.bipush 6, 2) := by decide +kernel
theorem d_177_213 : decode (am_b 177) 213 = .ok (.newarray .int, 2) := by decide +kernel
theorem d_177_215 : decode (am_b 177) 215 = .ok (.putfield 67, 3) := by decide +kernel
theorem d_177_218 : decode (am_b 177) 218 = .ok (.aload_n 0, 1) := by decide +kernel
theorem d_177_219 : decode (am_b 177) 219 = .ok (.bipush 6, 2) := by decide +kernel
theorem d_177_221 : decode (am_b 177) 221 = .ok (.newarray .int, 2) := by decide +kernel
theorem d_177_223 : decode (am_b 177) 223 = .ok (.putfield 70, 3) := by decide +kernel
theorem d_177_226 : decode (am_b 177) 226 = .ok (.aload_n 0, 1) := by decide +kernel
theorem d_177_227 : decode (am_b 177) 227 = .ok (.bipush 36, 2) := by decide +kernel
theorem d_177_229 : decode (am_b 177) 229 = .ok (.newarray .int, 2) := by decide +kernel
theorem d_177_231 : decode (am_b 177) 231 = .ok (.putfield 73, 3) := by decide +kernel
theorem d_177_234 : decode (am_b 177) 234 = .ok (.aload_n 0, 1) := by decide +kernel
theorem d_177_235 : decode (am_b 177) 235 = .ok (.bipush 36, 2) := by decide +kernel
theorem d_177_237 : decode (am_b 177) 237 = .ok (.newarray .int, 2) := by decide +kernel
theorem d_177_239 : decode (am_b 177) 239 = .ok (.putfield 76, 3) := by decide +kernel
theorem d_177_242 : decode (am_b 177) 242 = .ok (.aload_n 0, 1) := by decide +kernel
theorem d_177_243 : decode (am_b 177) 243 = .ok (.sipush 720, 3) := by decide +kernel
theorem d_177_246 : decode (am_b 177) 246 = .ok (.newarray .int, 2) := by decide +kernel
theorem d_177_248 : decode (am_b 177) 248 = .ok (.putfield 79, 3) := by decide +kernel
theorem d_177_251 : decode (am_b 177) 251 = .ok (.aload_n 0, 1) := by decide +kernel
theorem d_177_252 : decode (am_b 177) 252 = .ok (.bipush 6, 2) := by decide +kernel
theorem d_177_254 : decode (am_b 177) 254 = .ok (.newarray .int, 2) := by decide +kernel
theorem d_177_256 : decode (am_b 177) 256 = .ok (.putfield 82, 3) := by decide +kernel
theorem d_177_259 : decode (am_b 177) 259 = .ok (.aload_n 0, 1) := by decide +kernel
theorem d_177_260 : decode (am_b 177) 260 = .ok (.bipush 6, 2) := by decide +kernel
theorem d_177_262 : decode (am_b 177) 262 = .ok (.newarray .int, 2) := by decide +kernel
theorem d_177_264 : decode (am_b 177) 264 = .ok (.putfield 85, 3) := by decide +kernel
theorem d_177_267 : decode (am_b 177) 267 = .ok (.aload_n 0, 1) := by decide +kernel
theorem d_177_268 : decode (am_b 177) 268 = .ok (.bipush 6, 2) := by decide +kernel
theorem d_177_270 : decode (am_b 177) 270 = .ok (.newarray .int, 2) := by decide +kernel
theorem d_177_272 : decode (am_b 177) 272 = .ok (.putfield 88, 3) := by decide +kernel
theorem d_177_275 : decode (am_b 177) 275 = .ok (.aload_n 0, 1) := by decide +kernel
theorem d_177_276 : decode (am_b 177) 276 = .ok (.bipush 36, 2) := by decide +kernel
theorem d_177_278 : decode (am_b 177) 278 = .ok (.newarray .int, 2) := by decide +kernel
theorem d_177_280 : decode (am_b 177) 280 = .ok (.putfield 91, 3) := by decide +kernel
theorem d_177_283 : decode (am_b 177) 283 = .ok (.aload_n 0, 1) := by decide +kernel
theorem d_177_284 : decode (am_b 177) 284 = .ok (.iconst (-1), 1) := by decide +kernel
theorem d_177_285 : decode (am_b 177) 285 = .ok (.putfield 94, 3) := by decide +kernel
theorem d_177_288 : decode (am_b 177) 288 = .ok (.aload_n 0, 1) := by decide +kernel
theorem d_177_289 : decode (am_b 177) 289 = .ok (.bipush 36, 2) := by decide +kernel
theorem d_177_291 : decode (am_b 177) 291 = .ok (.newarray .int, 2) := by decide +kernel
theorem d_177_293 : decode (am_b 177) 293 = .ok (.putfield 97, 3) := by decide +kernel
theorem d_177_296 : decode (am_b 177) 296 = .ok (.return_, 1) := by decide +kernel
theorem d_178_0 : decode (am_b 178) 0 = .ok (.iload_n 1, 1) := by decide +kernel
theorem d_178_1 : decode (am_b 178) 1 = .ok (.iconst 0, 1) := by decide +kernel
theorem d_178_2 : decode (am_b 178) 2 = .ok (.iconst 1, 1) := by decide +kernel
theorem d_178_3 : decode (am_b 178) 3 = .ok (.invokestatic 106, 3) := by decide +kernel
theorem d_178_6 : decode (am_b 178) 6 = .ok (.ifCond .ne 9, 3) := by decide +kernel
theorem d_178_9 : decode (am_b 178) 9 = .ok (.aload_n 0, 1) := by decide +kernel
theorem d_178_10 : decode (am_b 178) 10 = .ok (.iconst (-1), 1) := by decide +kernel
theorem d_178_11 : decode (am_b 178) 11 = .ok (.invokevirtual 110, 3) := by decide +kernel
theorem d_178_14 : decode (am_b 178) 14 = .ok (.ireturn, 1) := by decide +kernel
theorem d_178_15 : decode (am_b 178) 15 = .ok (.iconst 0, 1) := by decide +kernel
theorem d_178_16 : decode (am_b 178) 16 = .ok (.istore_n 2, 1) := by decide +kernel
theorem d_178_17 : decode (am_b 178) 17 = .ok (.iload_n 2, 1) := by decide +kernel
theorem d_178_18 : decode (am_b 178) 18 = .ok (.sipush 5720, 3) := by decide +kernel
theorem d_178_21 : decode (am_b 178) 21 = .ok (.if_icmp .ge 27, 3) := by decide +kernel
theorem d_178_24 : decode (am_b 178) 24 = .ok (.aload_n 0, 1) := by decide +kernel
theorem d_178_25 : decode (am_b 178) 25 = .ok (.getfield 16, 3) := by decide +kernel
theorem d_178_28 : decode (am_b 178) 28 = .ok (.sipush 5720, 3) := by decide +kernel
theorem d_178_31 : decode (am_b 178) 31 = .ok (.iload_n 1, 1) := by decide +kernel
theorem d_178_32 : decode (am_b 178) 32 = .ok (.imul, 1) := by decide +kernel
theorem d_178_33 : decode (am_b 178) 33 = .ok (.iload_n 2, 1) := by decide +kernel
theorem d_178_34 : decode (am_b 178) 34 = .ok (.iadd, 1) := by decide +kernel
theorem d_178_35 : decode (am_b 178) 35 = .ok (.aload_n 0, 1) := by decide +kernel
theorem d_178_36 : decode (am_b 178) 36 = .ok (.getfield 13, 3) := by decide +kernel
theorem d_178_39 : decode (am_b 178) 39 = .ok (.iload_n 2, 1) := by decide +kernel
theorem d_178_40 : decode (am_b 178) 40 = .ok (.iaload, 1) := by decide +kernel
theorem d_178_41 : decode (am_b 178) 41 = .ok (.iastore, 1) := by decide +kernel
theorem d_178_42 : decode (am_b 178) 42 = .ok (.iinc 2 1, 3) := by decide +kernel
theorem d_178_45 : decode (am_b 178) 45 = .ok (.goto (-28), 3) := by decide +kernel
theorem d_178_48 : decode (am_b 178) 48 = .ok (.aload_n 0, 1) := by decide +kernel
theorem d_178_49 : decode (am_b 178) 49 = .ok (.getfield 19, 3) := by decide +kernel
theorem d_178_52 : decode (am_b 178) 52 = .ok (.iload_n 1, 1) := by decide +kernel
theorem d_178_53 : decode (am_b 178) 53 = .ok (.iconst 1, 1) := by decide +kernel
theorem d_178_54 : decode (am_b 178) 54 = .ok (.bastore, 1) := by decide +kernel
theorem d_178_55 : decode (am_b 178) 55 = .ok (.aload_n 0, 1) := by decide +kernel
theorem d_178_56 : decode (am_b 178) 56 = .ok (.iconst 0, 1) := by decide +kernel
theorem d_178_57 : decode (am_b 178) 57 = .ok (.invokevirtual 114, 3) := by decide +kernel
theorem d_178_60 : decode (am_b 178) 60 = .ok (.ireturn, 1) := by decide +kernel
theorem d_179_0 : decode (am_b 179) 0 = .ok (.iload_n 0, 1) := by decide +kernel
theorem d_179_1 : decode (am_b 179) 1 = .ok (.iload_n 1, 1) := by decide +kernel
theorem d_179_2 : decode (am_b 179) 2 = .ok (.if_icmp .lt 12, 3) := by decide +kernel
theorem d_179_5 : decode (am_b 179) 5 = .ok (.iload_n 0, 1) := by decide +kernel
theorem d_179_6 : decode (am_b 179) 6 = .ok (.iload_n 2, 1) := by decide +kernel
theorem d_179_7 : decode (am_b 179) 7 = .ok (.if_icmp .gt 7, 3) := by decide +kernel
theorem d_179_10 : decode (am_b 179) 10 = .ok (.iconst 1, 1) := by decide +kernel
theorem d_179_11 : decode (am_b 179) 11 = .ok (.goto 4, 3) := by decide +kernel
theorem d_179_14 : decode (am_b 179) 14 = .ok (.iconst 0, 1) := by decide +kernel
theorem d_179_15 : decode (am_b 179) 15 = .ok (.ireturn, 1) := by decide +kernel
theorem d_180_0 : decode (am_b 180) 0 = .ok (.aload_n 0, 1) := by decide +kernel
theorem d_180_1 : decode (am_b 180) 1 = .ok (.iload_n 1, 1) := by decide +kernel
theorem d_180_2 : decode (am_b 180) 2 = .ok (.putfield 100, 3) := by decide +kernel
theorem d_180_5 : decode (am_b 180) 5 = .ok (.aload_n 0, 1) := by decide +kernel
theorem d_180_6 : decode (am_b 180) 6 = .ok (.getfield 9, 3) := by decide +kernel
theorem d_180_9 : decode (am_b 180) 9 = .ok (.iload_n 1, 1) := by decide +kernel
theorem d_180_10 : decode (am_b 180) 10 = .ok (.ineg, 1) := by decide +kernel
theorem d_180_11 : decode (am_b 180) 11 = .ok (.dup2, 1) := by decide +kernel
theorem d_180_12 : decode (am_b 180) 12 = .ok (.iaload, 1) := by decide +kernel
theorem d_180_13 : decode (am_b 180) 13 = .ok (.iconst 1, 1) := by decide +kernel
theorem d_180_14 : decode (am_b 180) 14 = .ok (.iadd, 1) := by decide +kernel
theorem d_180_15 : decode (am_b 180) 15 = .ok (.iastore, 1) := by decide +kernel
theorem d_180_16 : decode (am_b 180) 16 = .ok (.iload_n 1, 1) := by decide +kernel
theorem d_180_17 : decode (am_b 180) 17 = .ok (.ireturn, 1) := by decide +kernel
theorem d_181_0 : decode (am_b 181) 0 = .ok (.aload_n 0, 1) := by decide +kernel
theorem d_181_1 : decode (am_b 181) 1 = .ok (.iconst 0, 1) := by decide +kernel
theorem d_181_2 : decode (am_b 181) 2 = .ok (.putfield 100, 3) := by decide +kernel
theorem d_181_5 : decode (am_b 181) 5 = .ok (.aload_n 0, 1) := by decide +kernel
theorem d_181_6 : decode (am_b 181) 6 = .ok (.dup, 1) := by decide +kernel
theorem d_181_7 : decode (am_b 181) 7 = .ok (.getfield 103, 3) := by decide +kernel
theorem d_181_10 : decode (am_b 181) 10 = .ok (.iconst 1, 1) := by decide +kernel
theorem d_181_11 : decode (am_b 181) 11 = .ok (.iadd, 1) := by decide +kernel
theorem d_181_12 : decode (am_b 181) 12 = .ok (.putfield 103, 3) := by decide +kernel
theorem d_181_15 : decode (am_b 181) 15 = .ok (.iload_n 1, 1) := by decide +kernel
theorem d_181_16 : decode (am_b 181) 16 = .ok (.ireturn, 1) := by decide +kernel
theorem d_182_0 : decode (am_b 182) 0 = .ok (.iload_n 1, 1) := by decide +kernel
theorem d_182_1 : decode (am_b 182) 1 = .ok (.iconst 0, 1) := by decide +kernel
theorem d_182_2 : decode (am_b 182) 2 = .ok (.iconst 1, 1) := by decide +kernel
theorem d_182_3 : decode (am_b 182) 3 = .ok (.invokestatic 106, 3) := by decide +kernel
theorem d_182_6 : decode (am_b 182) 6 = .ok (.ifCond .ne 9, 3) := by decide +kernel
theorem d_182_9 : decode (am_b 182) 9 = .ok (.aload_n 0, 1) := by decide +kernel
theorem d_182_10 : decode (am_b 182) 10 = .ok (.iconst (-1), 1) := by decide +kernel
theorem d_182_11 : decode (am_b 182) 11 = .ok (.invokevirtual 110, 3) := by decide +kernel
theorem d_182_14 : decode (am_b 182) 14 = .ok (.ireturn, 1) := by decide +kernel
theorem d_182_15 : decode (am_b 182) 15 = .ok (.aload_n 0, 1) := by decide +kernel
theorem d_182_16 : decode (am_b 182) 16 = .ok (.getfield 19, 3) := by decide +kernel
theorem d_182_19 : decode (am_b 182) 19 = .ok (.iload_n 1, 1) := by decide +kernel
theorem d_182_20 : decode (am_b 182) 20 = .ok (.baload, 1) := by decide +kernel
theorem d_182_21 : decode (am_b 182) 21 = .ok (.ifCond .ne 10, 3) := by decide +kernel
theorem d_182_24 : decode (am_b 182) 24 = .ok (.aload_n 0, 1) := by decide +kernel
theorem d_182_25 : decode (am_b 182) 25 = .ok (.bipush (-2), 2) := by decide +kernel
theorem d_182_27 : decode (am_b 182) 27 = .ok (.invokevirtual 110, 3) := by decide +kernel
theorem d_182_30 : decode (am_b 182) 30 = .ok (.ireturn, 1) := by decide +kernel
theorem d_182_31 : decode (am_b 182) 31 = .ok (.iconst 0, 1) := by decide +kernel
theorem d_182_32 : decode (am_b 182) 32 = .ok (.istore_n 2, 1) := by decide +kernel
theorem d_182_33 : decode (am_b 182) 33 = .ok (.iload_n 2, 1) := by decide +kernel
theorem d_182_34 : decode (am_b 182) 34 = .ok (.sipush 5720, 3) := by decide +kernel
theorem d_182_37 : decode (am_b 182) 37 = .ok (.if_icmp .ge 27, 3) := by decide +kernel
theorem d_182_40 : decode (am_b 182) 40 = .ok (.aload_n 0, 1) := by decide +kernel
theorem d_182_41 : decode (am_b 182) 41 = .ok (.getfield 13, 3) := by decide +kernel
theorem d_182_44 : decode (am_b 182) 44 = .ok (.iload_n 2, 1) := by decide +kernel
theorem d_182_45 : decode (am_b 182) 45 = .ok (.aload_n 0, 1) := by decide +kernel
theorem d_182_46 : decode (am_b 182) 46 = .ok (.getfield 16, 3) := by decide +kernel
theorem d_182_49 : decode (am_b 182) 49 = .ok (.sipush 5720, 3) := by decide +kernel
theorem d_182_52 : decode (am_b 182) 52 = .ok (.iload_n 1, 1) := by decide +kernel
theorem d_182_53 : decode (am_b 182) 53 = .ok (.imul, 1) := by decide +kernel
theorem d_182_54 : decode (am_b 182) 54 = .ok (.iload_n 2, 1) := by decide +kernel
theorem d_182_55 : decode (am_b 182) 55 = .ok (.iadd, 1) := by decide +kernel
theorem d_182_56 : decode (am_b 182) 56 = .ok (.iaload, 1) := by decide +kernel
theorem d_182_57 : decode (am_b 182) 57 = .ok (.iastore, 1) := by decide +kernel
theorem d_182_58 : decode (am_b 182) 58 = .ok (.iinc 2 1, 3) := by decide +kernel
theorem d_182_61 : decode (am_b 182) 61 = .ok (.goto (-28), 3) := by decide +kernel
theorem d_182_64 : decode (am_b 182) 64 = .ok (.aload_n 0, 1) := by decide +kernel
theorem d_182_65 : decode (am_b 182) 65 = .ok (.iconst 0, 1) := by decide +kernel
theorem d_182_66 : decode (am_b 182) 66 = .ok (.invokevirtual 114, 3) := by decide +kernel
theorem d_182_69 : decode (am_b 182) 69 = .ok (.ireturn, 1) := by decide +kernel
theorem d_183_0 : decode (am_b 183) 0 = .ok (.aload_n 0, 1) := by decide +kernel
theorem d_183_1 : decode (am_b 183) 1 = .ok (.iload_n 1, 1) := by decide +kernel
theorem d_183_2 : decode (am_b 183) 2 = .ok (.invokevirtual 124, 3) := by decide +kernel
theorem d_183_5 : decode (am_b 183) 5 = .ok (.ifCond .eq 11, 3) := by decide +kernel
theorem d_183_8 : decode (am_b 183) 8 = .ok (.aload_n 0, 1) := by decide +kernel
theorem d_183_9 : decode (am_b 183) 9 = .ok (.iload_n 1, 1) := by decide +kernel
theorem d_183_10 : decode (am_b 183) 10 = .ok (.invokevirtual 121, 3) := by decide +kernel
theorem d_183_13 : decode (am_b 183) 13 = .ok (.goto 4, 3) := by decide +kernel
theorem d_183_16 : decode (am_b 183) 16 = .ok (.iconst (-1), 1) := by decide +kernel
theorem d_183_17 : decode (am_b 183) 17 = .ok (.ireturn, 1) := by decide +kernel
theorem d_184_0 : decode (am_b 184) 0 = .ok (.iload_n 1, 1) := by decide +kernel
theorem d_184_1 : decode (am_b 184) 1 = .ok (.invokestatic 117, 3) := by decide +kernel
theorem d_184_4 : decode (am_b 184) 4 = .ok (.ifCond .eq 15, 3) := by decide +kernel
theorem d_184_7 : decode (am_b 184) 7 = .ok (.aload_n 0, 1) := by decide +kernel
theorem d_184_8 : decode (am_b 184) 8 = .ok (.iload_n 1, 1) := by decide +kernel
theorem d_184_9 : decode (am_b 184) 9 = .ok (.invokevirtual 121, 3) := by decide +kernel
theorem d_184_12 : decode (am_b 184) 12 = .ok (.ifCond .le 7, 3) := by decide +kernel
theorem d_184_15 : decode (am_b 184) 15 = .ok (.iconst 1, 1) := by decide +kernel
theorem d_184_16 : decode (am_b 184) 16 = .ok (.goto 4, 3) := by decide +kernel
theorem d_184_19 : decode (am_b 184) 19 = .ok (.iconst 0, 1) := by decide +kernel
theorem d_184_20 : decode (am_b 184) 20 = .ok (.ireturn, 1) := by decide +kernel
theorem d_185_0 : decode (am_b 185) 0 = .ok (.iload_n 0, 1) := by decide +kernel
theorem d_185_1 : decode (am_b 185) 1 = .ok (.iconst 0, 1) := by decide +kernel
theorem d_185_2 : decode (am_b 185) 2 = .ok (.iconst 5, 1) := by decide +kernel
theorem d_185_3 : decode (am_b 185) 3 = .ok (.invokestatic 106, 3) := by decide +kernel
theorem d_185_6 : decode (am_b 185) 6 = .ok (.ireturn, 1) := by decide +kernel
theorem d_186_0 : decode (am_b 186) 0 = .ok (.aload_n 0, 1) := by decide +kernel
theorem d_186_1 : decode (am_b 186) 1 = .ok (.getfield 13, 3) := by decide +kernel
theorem d_186_4 : decode (am_b 186) 4 = .ok (.bipush 37, 2) := by decide +kernel
theorem d_186_6 : decode (am_b 186) 6 = .ok (.iload_n 1, 1) := by decide +kernel
theorem d_186_7 : decode (am_b 186) 7 = .ok (.imul, 1) := by decide +kernel
theorem d_186_8 : decode (am_b 186) 8 = .ok (.iaload, 1) := by decide +kernel
theorem d_186_9 : decode (am_b 186) 9 = .ok (.ireturn, 1) := by decide +kernel
theorem d_187_0 : decode (am_b 187) 0 = .ok (.aload_n 0, 1) := by decide +kernel
theorem d_187_1 : decode (am_b 187) 1 = .ok (.getfield 13, 3) := by decide +kernel
theorem d_187_4 : decode (am_b 187) 4 = .ok (.sipush 2510, 3) := by decide +kernel
theorem d_187_7 : decode (am_b 187) 7 = .ok (.iaload, 1) := by decide +kernel
theorem d_187_8 : decode (am_b 187) 8 = .ok (.ifCond .ne 10, 3) := by decide +kernel
theorem d_187_11 : decode (am_b 187) 11 = .ok (.aload_n 0, 1) := by decide +kernel
theorem d_187_12 : decode (am_b 187) 12 = .ok (.bipush (-3), 2) := by decide +kernel
theorem d_187_14 : decode (am_b 187) 14 = .ok (.invokevirtual 110, 3) := by decide +kernel
theorem d_187_17 : decode (am_b 187) 17 = .ok (.ireturn, 1) := by decide +kernel
theorem d_187_18 : decode (am_b 187) 18 = .ok (.aload_n 0, 1) := by decide +kernel
theorem d_187_19 : decode (am_b 187) 19 = .ok (.getfield 13, 3) := by decide +kernel
theorem d_187_22 : decode (am_b 187) 22 = .ok (.sipush 2510, 3) := by decide +kernel
theorem d_187_25 : decode (am_b 187) 25 = .ok (.dup2, 1) := by decide +kernel
theorem d_187_26 : decode (am_b 187) 26 = .ok (.iaload, 1) := by decide +kernel
theorem d_187_27 : decode (am_b 187) 27 = .ok (.iconst 1, 1) := by decide +kernel
theorem d_187_28 : decode (am_b 187) 28 = .ok (.isub, 1) := by decide +kernel
theorem d_187_29 : decode (am_b 187) 29 = .ok (.iastore, 1) := by decide +kernel
theorem d_187_30 : decode (am_b 187) 30 = .ok (.sipush 259, 3) := by decide +kernel
theorem d_187_33 : decode (am_b 187) 33 = .ok (.bipush 75, 2) := by decide +kernel
theorem d_187_35 : decode (am_b 187) 35 = .ok (.aload_n 0, 1) := by decide +kernel
theorem d_187_36 : decode (am_b 187) 36 = .ok (.getfield 13, 3) := by decide +kernel
theorem d_187_39 : decode (am_b 187) 39 = .ok (.sipush 2510, 3) := by decide +kernel
theorem d_187_42 : decode (am_b 187) 42 = .ok (.iaload, 1) := by decide +kernel
theorem d_187_43 : decode (am_b 187) 43 = .ok (.imul, 1) := by decide +kernel
theorem d_187_44 : decode (am_b 187) 44 = .ok (.iadd, 1) := by decide +kernel
theorem d_187_45 : decode (am_b 187) 45 = .ok (.istore_n 1, 1) := by decide +kernel
theorem d_187_46 : decode (am_b 187) 46 = .ok (.iconst 0, 1) := by decide +kernel
theorem d_187_47 : decode (am_b 187) 47 = .ok (.istore_n 2, 1) := by decide +kernel
theorem d_187_48 : decode (am_b 187) 48 = .ok (.iload_n 2, 1) := by decide +kernel
theorem d_187_49 : decode (am_b 187) 49 = .ok (.bipush 37, 2) := by decide +kernel
theorem d_187_51 : decode (am_b 187) 51 = .ok (.if_icmp .ge 35, 3) := by decide +kernel
theorem d_187_54 : decode (am_b 187) 54 = .ok (.aload_n 0, 1) := by decide +kernel
theorem d_187_55 : decode (am_b 187) 55 = .ok (.getfield 13, 3) := by decide +kernel
theorem d_187_58 : decode (am_b 187) 58 = .ok (.bipush 37, 2) := by decide +kernel
theorem d_187_60 : decode (am_b 187) 60 = .ok (.aload_n 0, 1) := by decide +kernel
theorem d_187_61 : decode (am_b 187) 61 = .ok (.getfield 13, 3) := by decide +kernel
theorem d_187_64 : decode (am_b 187) 64 = .ok (.iload_n 1, 1) := by decide +kernel
theorem d_187_65 : decode (am_b 187) 65 = .ok (.iaload, 1) := by decide +kernel
theorem d_187_66 : decode (am_b 187) 66 = .ok (.imul, 1) := by decide +kernel
theorem d_187_67 : decode (am_b 187) 67 = .ok (.iload_n 2, 1) := by decide +kernel
theorem d_187_68 : decode (am_b 187) 68 = .ok (.iadd, 1) := by decide +kernel
theorem d_187_69 : decode (am_b 187) 69 = .ok (.aload_n 0, 1) := by decide +kernel
theorem d_187_70 : decode (am_b 187) 70 = .ok (.getfield 13, 3) := by decide +kernel
theorem d_187_73 : decode (am_b 187) 73 = .ok (.iload_n 1, 1) := by decide +kernel
theorem d_187_74 : decode (am_b 187) 74 = .ok (.iconst 1, 1) := by decide +kernel
theorem d_187_75 : decode (am_b 187) 75 = .ok (.iadd, 1) := by decide +kernel
theorem d_187_76 : decode (am_b 187) 76 = .ok (.iload_n 2, 1) := by decide +kernel
theorem d_187_77 : decode (am_b 187) 77 = .ok (.iadd, 1) := by decide +kernel
theorem d_187_78 : decode (am_b 187) 78 = .ok (.iaload, 1) := by decide +kernel
theorem d_187_79 : decode (am_b 187) 79 = .ok (.iastore, 1) := by decide +kernel
theorem d_187_80 : decode (am_b 187) 80 = .ok (.iinc 2 1, 3) := by decide +kernel
theorem d_187_83 : decode (am_b 187) 83 = .ok (.goto (-35), 3) := by decide +kernel
theorem d_187_86 : decode (am_b 187) 86 = .ok (.aload_n 0, 1) := by decide +kernel
theorem d_187_87 : decode (am_b 187) 87 = .ok (.aload_n 0, 1) := by decide +kernel
theorem d_187_88 : decode (am_b 187) 88 = .ok (.getfield 13, 3) := by decide +kernel
theorem d_187_91 : decode (am_b 187) 91 = .ok (.sipush 2510, 3) := by decide +kernel
theorem d_187_94 : decode (am_b 187) 94 = .ok (.iaload, 1) := by decide +kernel
theorem d_187_95 : decode (am_b 187) 95 = .ok (.invokevirtual 114, 3) := by decide +kernel
theorem d_187_98 : decode (am_b 187) 98 = .ok (.ireturn, 1) := by decide +kernel
theorem d_188_0 : decode (am_b 188) 0 = .ok (.aload_n 0, 1) := by decide +kernel
theorem d_188_1 : decode (am_b 188) 1 = .ok (.getfield 13, 3) := by decide +kernel
theorem d_188_4 : decode (am_b 188) 4 = .ok (.sipush 2510, 3) := by decide +kernel
theorem d_188_7 : decode (am_b 188) 7 = .ok (.iaload, 1) := by decide +kernel
theorem d_188_8 : decode (am_b 188) 8 = .ok (.aload_n 0, 1) := by decide +kernel
theorem d_188_9 : decode (am_b 188) 9 = .ok (.getfield 13, 3) := by decide +kernel
theorem d_188_12 : decode (am_b 188) 12 = .ok (.sipush 2511, 3) := by decide +kernel
theorem d_188_15 : decode (am_b 188) 15 = .ok (.iaload, 1) := by decide +kernel
theorem d_188_16 : decode (am_b 188) 16 = .ok (.if_icmp .ne 10, 3) := by decide +kernel
theorem d_188_19 : decode (am_b 188) 19 = .ok (.aload_n 0, 1) := by decide +kernel
theorem d_188_20 : decode (am_b 188) 20 = .ok (.bipush (-3), 2) := by decide +kernel
theorem d_188_22 : decode (am_b 188) 22 = .ok (.invokevirtual 110, 3) := by decide +kernel
theorem d_188_25 : decode (am_b 188) 25 = .ok (.ireturn, 1) := by decide +kernel
theorem d_188_26 : decode (am_b 188) 26 = .ok (.sipush 259, 3) := by decide +kernel
theorem d_188_29 : decode (am_b 188) 29 = .ok (.bipush 75, 2) := by decide +kernel
theorem d_188_31 : decode (am_b 188) 31 = .ok (.aload_n 0, 1) := by decide +kernel
theorem d_188_32 : decode (am_b 188) 32 = .ok (.getfield 13, 3) := by decide +kernel
theorem d_188_35 : decode (am_b 188) 35 = .ok (.sipush 2510, 3) := by decide +kernel
theorem d_188_38 : decode (am_b 188) 38 = .ok (.iaload, 1) := by decide +kernel
theorem d_188_39 : decode (am_b 188) 39 = .ok (.imul, 1) := by decide +kernel
theorem d_188_40 : decode (am_b 188) 40 = .ok (.iadd, 1) := by decide +kernel
theorem d_188_41 : decode (am_b 188) 41 = .ok (.istore_n 1, 1) := by decide +kernel
theorem d_188_42 : decode (am_b 188) 42 = .ok (.iconst 0, 1) := by decide +kernel
theorem d_188_43 : decode (am_b 188) 43 = .ok (.istore_n 2, 1) := by decide +kernel
theorem d_188_44 : decode (am_b 188) 44 = .ok (.iload_n 2, 1) := by decide +kernel
theorem d_188_45 : decode (am_b 188) 45 = .ok (.bipush 37, 2) := by decide +kernel
theorem d_188_47 : decode (am_b 188) 47 = .ok (.if_icmp .ge 38, 3) := by decide +kernel
theorem d_188_50 : decode (am_b 188) 50 = .ok (.aload_n 0, 1) := by decide +kernel
theorem d_188_51 : decode (am_b 188) 51 = .ok (.getfield 13, 3) := by decide +kernel
theorem d_188_54 : decode (am_b 188) 54 = .ok (.bipush 37, 2) := by decide +kernel
theorem d_188_56 : decode (am_b 188) 56 = .ok (.aload_n 0, 1) := by decide +kernel
theorem d_188_57 : decode (am_b 188) 57 = .ok (.getfield 13, 3) := by decide +kernel
theorem d_188_60 : decode (am_b 188) 60 = .ok (.iload_n 1, 1) := by decide +kernel
theorem d_188_61 : decode (am_b 188) 61 = .ok (.iaload, 1) := by decide +kernel
theorem d_188_62 : decode (am_b 188) 62 = .ok (.imul, 1) := by decide +kernel
theorem d_188_63 : decode (am_b 188) 63 = .ok (.iload_n 2, 1) := by decide +kernel
theorem d_188_64 : decode (am_b 188) 64 = .ok (.iadd, 1) := by decide +kernel
theorem d_188_65 : decode (am_b 188) 65 = .ok (.aload_n 0, 1) := by decide +kernel
theorem d_188_66 : decode (am_b 188) 66 = .ok (.getfield 13, 3) := by decide +kernel
theorem d_188_69 : decode (am_b 188) 69 = .ok (.iload_n 1, 1) := by decide +kernel
theorem d_188_70 : decode (am_b 188) 70 = .ok (.iconst 1, 1) := by decide +kernel
theorem d_188_71 : decode (am_b 188) 71 = .ok (.iadd, 1) := by decide +kernel
theorem d_188_72 : decode (am_b 188) 72 = .ok (.bipush 37, 2) := by decide +kernel
theorem d_188_74 : decode (am_b 188) 74 = .ok (.iadd, 1) := by decide +kernel
theorem d_188_75 : decode (am_b 188) 75 = .ok (.iload_n 2, 1) := by decide +kernel
theorem d_188_76 : decode (am_b 188) 76 = .ok (.iadd, 1) := by decide +kernel
theorem d_188_77 : decode (am_b 188) 77 = .ok (.iaload, 1) := by decide +kernel
theorem d_188_78 : decode (am_b 188) 78 = .ok (.iastore, 1) := by decide +kernel
theorem d_188_79 : decode (am_b 188) 79 = .ok (.iinc 2 1, 3) := by decide +kernel
theorem d_188_82 : decode (am_b 188) 82 = .ok (.goto (-38), 3) := by decide +kernel
theorem d_188_85 : decode (am_b 188) 85 = .ok (.aload_n 0, 1) := by decide +kernel
theorem d_188_86 : decode (am_b 188) 86 = .ok (.getfield 13, 3) := by decide +kernel
theorem d_188_89 : decode (am_b 188) 89 = .ok (.sipush 2510, 3) := by decide +kernel
theorem d_188_92 : decode (am_b 188) 92 = .ok (.dup2, 1) := by decide +kernel
theorem d_188_93 : decode (am_b 188) 93 = .ok (.iaload, 1) := by decide +kernel
theorem d_188_94 : decode (am_b 188) 94 = .ok (.iconst 1, 1) := by decide +kernel
theorem d_188_95 : decode (am_b 188) 95 = .ok (.iadd, 1) := by decide +kernel
theorem d_188_96 : decode (am_b 188) 96 = .ok (.iastore, 1) := by decide +kernel
theorem d_188_97 : decode (am_b 188) 97 = .ok (.aload_n 0, 1) := by decide +kernel
theorem d_188_98 : decode (am_b 188) 98 = .ok (.aload_n 0, 1) := by decide +kernel
theorem d_188_99 : decode (am_b 188) 99 = .ok (.getfield 13, 3) := by decide +kernel
theorem d_188_102 : decode (am_b 188) 102 = .ok (.sipush 2511, 3) := by decide +kernel
theorem d_188_105 : decode (am_b 188) 105 = .ok (.iaload, 1) := by decide +kernel
theorem d_188_106 : decode (am_b 188) 106 = .ok (.aload_n 0, 1) := by decide +kernel
theorem d_188_107 : decode (am_b 188) 107 = .ok (.getfield 13, 3) := by decide +kernel
theorem d_188_110 : decode (am_b 188) 110 = .ok (.sipush 2510, 3) := by decide +kernel
theorem d_188_113 : decode (am_b 188) 113 = .ok (.iaload, 1) := by decide +kernel
theorem d_188_114 : decode (am_b 188) 114 = .ok (.isub, 1) := by decide +kernel
theorem d_188_115 : decode (am_b 188) 115 = .ok (.invokevirtual 114, 3) := by decide +kernel
theorem d_188_118 : decode (am_b 188) 118 = .ok (.ireturn, 1) := by decide +kernel
theorem d_189_0 : decode (am_b 189) 0 = .ok (.aload_n 0, 1) := by decide +kernel
theorem d_189_1 : decode (am_b 189) 1 = .ok (.getfield 137, 3) := by decide +kernel
theorem d_189_4 : decode (am_b 189) 4 = .ok (.bipush 20, 2) := by decide +kernel
theorem d_189_6 : decode (am_b 189) 6 = .ok (.iadd, 1) := by decide +kernel
theorem d_189_7 : decode (am_b 189) 7 = .ok (.sipush 400, 3) := by decide +kernel
theorem d_189_10 : decode (am_b 189) 10 = .ok (.if_icmp .le 5, 3) := by decide +kernel
theorem d_189_13 : decode (am_b 189) 13 = .ok (.iconst (-1), 1) := by decide +kernel
theorem d_189_14 : decode (am_b 189) 14 = .ok (.ireturn, 1) := by decide +kernel
theorem d_189_15 : decode (am_b 189) 15 = .ok (.aload_n 0, 1) := by decide +kernel
theorem d_189_16 : decode (am_b 189) 16 = .ok (.getfield 36, 3) := by decide +kernel
theorem d_189_19 : decode (am_b 189) 19 = .ok (.iconst 0, 1) := by decide +kernel
theorem d_189_20 : decode (am_b 189) 20 = .ok (.iload_n 1, 1) := by decide +kernel
theorem d_189_21 : decode (am_b 189) 21 = .ok (.iastore, 1) := by decide +kernel
theorem d_189_22 : decode (am_b 189) 22 = .ok (.aload_n 0, 1) := by decide +kernel
theorem d_189_23 : decode (am_b 189) 23 = .ok (.getfield 36, 3) := by decide +kernel
theorem d_189_26 : decode (am_b 189) 26 = .ok (.iconst 1, 1) := by decide +kernel
theorem d_189_27 : decode (am_b 189) 27 = .ok (.iload_n 2, 1) := by decide +kernel
theorem d_189_28 : decode (am_b 189) 28 = .ok (.iastore, 1) := by decide +kernel
theorem d_189_29 : decode (am_b 189) 29 = .ok (.aload_n 0, 1) := by decide +kernel
theorem d_189_30 : decode (am_b 189) 30 = .ok (.getfield 36, 3) := by decide +kernel
theorem d_189_33 : decode (am_b 189) 33 = .ok (.iconst 2, 1) := by decide +kernel
theorem d_189_34 : decode (am_b 189) 34 = .ok (.iload_n 3, 1) := by decide +kernel
theorem d_189_35 : decode (am_b 189) 35 = .ok (.iastore, 1) := by decide +kernel
theorem d_189_36 : decode (am_b 189) 36 = .ok (.aload_n 0, 1) := by decide +kernel
theorem d_189_37 : decode (am_b 189) 37 = .ok (.getfield 36, 3) := by decide +kernel
theorem d_189_40 : decode (am_b 189) 40 = .ok (.iconst 3, 1) := by decide +kernel
theorem d_189_41 : decode (am_b 189) 41 = .ok (.iload 4, 2) := by decide +kernel
theorem d_189_43 : decode (am_b 189) 43 = .ok (.iastore, 1) := by decide +kernel
theorem d_189_44 : decode (am_b 189) 44 = .ok (.aload_n 0, 1) := by decide +kernel
theorem d_189_45 : decode (am_b 189) 45 = .ok (.getfield 36, 3) := by decide +kernel
theorem d_189_48 : decode (am_b 189) 48 = .ok (.iconst 4, 1) := by decide +kernel
theorem d_189_49 : decode (am_b 189) 49 = .ok (.iload 5, 2) := by decide +kernel
theorem d_189_51 : decode (am_b 189) 51 = .ok (.iastore, 1) := by decide +kernel
theorem d_189_52 : decode (am_b 189) 52 = .ok (.iconst 0, 1) := by decide +kernel
theorem d_189_53 : decode (am_b 189) 53 = .ok (.istore 6, 2) := by decide +kernel
theorem d_189_55 : decode (am_b 189) 55 = .ok (.iload 6, 2) := by decide +kernel
theorem d_189_57 : decode (am_b 189) 57 = .ok (.bipush 20, 2) := by decide +kernel
theorem d_189_59 : decode (am_b 189) 59 = .ok (.if_icmp .ge 42, 3) := by decide +kernel
theorem d_189_62 : decode (am_b 189) 62 = .ok (.aload_n 0, 1) := by decide +kernel
theorem d_189_63 : decode (am_b 189) 63 = .ok (.getfield 33, 3) := by decide +kernel
theorem d_189_66 : decode (am_b 189) 66 = .ok (.aload_n 0, 1) := by decide +kernel
theorem d_189_67 : decode (am_b 189) 67 = .ok (.getfield 137, 3) := by decide +kernel
theorem d_189_70 : decode (am_b 189) 70 = .ok (.iload 6, 2) := by decide +kernel
theorem d_189_72 : decode (am_b 189) 72 = .ok (.iadd, 1) := by decide +kernel
theorem d_189_73 : decode (am_b 189) 73 = .ok (.aload_n 0, 1) := by decide +kernel
theorem d_189_74 : decode (am_b 189) 74 = .ok (.getfield 36, 3) := by decide +kernel
theorem d_189_77 : decode (am_b 189) 77 = .ok (.iload 6, 2) := by decide +kernel
theorem d_189_79 : decode (am_b 189) 79 = .ok (.iconst 4, 1) := by decide +kernel
theorem d_189_80 : decode (am_b 189) 80 = .ok (.idiv, 1) := by decide +kernel
theorem d_189_81 : decode (am_b 189) 81 = .ok (.iaload, 1) := by decide +kernel
theorem d_189_82 : decode (am_b 189) 82 = .ok (.bipush 24, 2) := by decide +kernel
theorem d_189_84 : decode (am_b 189) 84 = .ok (.bipush 8, 2) := by decide +kernel
theorem d_189_86 : decode (am_b 189) 86 = .ok (.iload 6, 2) := by decide +kernel
theorem d_189_88 : decode (am_b 189) 88 = .ok (.iconst 4, 1) := by decide +kernel
theorem d_189_89 : decode (am_b 189) 89 = .ok (.irem, 1) := by decide +kernel
theorem d_189_90 : decode (am_b 189) 90 = .ok (.imul, 1) := by decide +kernel
theorem d_189_91 : decode (am_b 189) 91 = .ok (.isub, 1) := by decide +kernel
theorem d_189_92 : decode (am_b 189) 92 = .ok (.ishr, 1) := by decide +kernel
theorem d_189_93 : decode (am_b 189) 93 = .ok (.i2b, 1) := by decide +kernel
theorem d_189_94 : decode (am_b 189) 94 = .ok (.bastore, 1) := by decide +kernel
theorem d_189_95 : decode (am_b 189) 95 = .ok (.iinc 6 1, 3) := by decide +kernel
theorem d_189_98 : decode (am_b 189) 98 = .ok (.goto (-43), 3) := by decide +kernel
theorem d_189_101 : decode (am_b 189) 101 = .ok (.aload_n 0, 1) := by decide +kernel
theorem d_189_102 : decode (am_b 189) 102 = .ok (.dup, 1) := by decide +kernel
theorem d_189_103 : decode (am_b 189) 103 = .ok (.getfield 137, 3) := by decide +kernel
theorem d_189_106 : decode (am_b 189) 106 = .ok (.bipush 20, 2) := by decide +kernel
theorem d_189_108 : decode (am_b 189) 108 = .ok (.iadd, 1) := by decide +kernel
theorem d_189_109 : decode (am_b 189) 109 = .ok (.putfield 137, 3) := by decide +kernel
theorem d_189_112 : decode (am_b 189) 112 = .ok (.aload_n 0, 1) := by decide +kernel
theorem d_189_113 : decode (am_b 189) 113 = .ok (.getfield 137, 3) := by decide +kernel
theorem d_189_116 : decode (am_b 189) 116 = .ok (.ireturn, 1) := by decide +kernel
theorem d_190_0 : decode (am_b 190) 0 = .ok (.iload_n 1, 1) := by decide +kernel
theorem d_190_1 : decode (am_b 190) 1 = .ok (.iconst 0, 1) := by decide +kernel
theorem d_190_2 : decode (am_b 190) 2 = .ok (.aload_n 0, 1) := by decide +kernel
theorem d_190_3 : decode (am_b 190) 3 = .ok (.getfield 137, 3) := by decide +kernel
theorem d_190_6 : decode (am_b 190) 6 = .ok (.invokestatic 106, 3) := by decide +kernel
theorem d_190_9 : decode (am_b 190) 9 = .ok (.ifCond .ne 5, 3) := by decide +kernel
theorem d_190_12 : decode (am_b 190) 12 = .ok (.iconst (-1), 1) := by decide +kernel
theorem d_190_13 : decode (am_b 190) 13 = .ok (.ireturn, 1) := by decide +kernel
theorem d_190_14 : decode (am_b 190) 14 = .ok (.aload_n 0, 1) := by decide +kernel
theorem d_190_15 : decode (am_b 190) 15 = .ok (.iload_n 1, 1) := by decide +kernel
theorem d_190_16 : decode (am_b 190) 16 = .ok (.putfield 137, 3) := by decide +kernel
theorem d_190_19 : decode (am_b 190) 19 = .ok (.iload_n 1, 1) := by decide +kernel
theorem d_190_20 : decode (am_b 190) 20 = .ok (.ireturn, 1) := by decide +kernel
theorem d_191_0 : decode (am_b 191) 0 = .ok (.aload_n 0, 1) := by decide +kernel
theorem d_191_1 : decode (am_b 191) 1 = .ok (.getfield 13, 3) := by decide +kernel
theorem d_191_4 : decode (am_b 191) 4 = .ok (.sipush 2509, 3) := by decide +kernel
theorem d_191_7 : decode (am_b 191) 7 = .ok (.iaload, 1) := by decide +kernel
theorem d_191_8 : decode (am_b 191) 8 = .ok (.bipush 8, 2) := by decide +kernel
theorem d_191_10 : decode (am_b 191) 10 = .ok (.if_icmp .ne 15, 3) := by decide +kernel
theorem d_191_13 : decode (am_b 191) 13 = .ok (.aload_n 0, 1) := by decide +kernel
theorem d_191_14 : decode (am_b 191) 14 = .ok (.iconst 0, 1) := by decide +kernel
theorem d_191_15 : decode (am_b 191) 15 = .ok (.putfield 137, 3) := by decide +kernel
theorem d_191_18 : decode (am_b 191) 18 = .ok (.aload_n 0, 1) := by decide +kernel
theorem d_191_19 : decode (am_b 191) 19 = .ok (.bipush (-5), 2) := by decide +kernel
theorem d_191_21 : decode (am_b 191) 21 = .ok (.invokevirtual 110, 3) := by decide +kernel
theorem d_191_24 : decode (am_b 191) 24 = .ok (.ireturn, 1) := by decide +kernel
theorem d_191_25 : decode (am_b 191) 25 = .ok (.aload_n 0, 1) := by decide +kernel
theorem d_191_26 : decode (am_b 191) 26 = .ok (.aload_n 0, 1) := by decide +kernel
theorem d_191_27 : decode (am_b 191) 27 = .ok (.getfield 137, 3) := by decide +kernel
theorem d_191_30 : decode (am_b 191) 30 = .ok (.invokevirtual 189, 3) := by decide +kernel
theorem d_191_33 : decode (am_b 191) 33 = .ok (.aload_n 0, 1) := by decide +kernel
theorem d_191_34 : decode (am_b 191) 34 = .ok (.iconst 0, 1) := by decide +kernel
theorem d_191_35 : decode (am_b 191) 35 = .ok (.putfield 137, 3) := by decide +kernel
theorem d_191_38 : decode (am_b 191) 38 = .ok (.aload_n 0, 1) := by decide +kernel
theorem d_191_39 : decode (am_b 191) 39 = .ok (.iconst 0, 1) := by decide +kernel
theorem d_191_40 : decode (am_b 191) 40 = .ok (.putfield 160, 3) := by decide +kernel
theorem d_191_43 : decode (am_b 191) 43 = .ok (.aload_n 0, 1) := by decide +kernel
theorem d_191_44 : decode (am_b 191) 44 = .ok (.iconst 0, 1) := by decide +kernel
theorem d_191_45 : decode (am_b 191) 45 = .ok (.putfield 186, 3) := by decide +kernel
theorem d_191_48 : decode (am_b 191) 48 = .ok (.aload_n 0, 1) := by decide +kernel
theorem d_191_49 : decode (am_b 191) 49 = .ok (.iconst (-1), 1) := by decide +kernel
theorem d_191_50 : decode (am_b 191) 50 = .ok (.putfield 153, 3) := by decide +kernel
theorem d_191_53 : decode (am_b 191) 53 = .ok (.aload_n 0, 1) := by decide +kernel
theorem d_191_54 : decode (am_b 191) 54 = .ok (.invokevirtual 192, 3) := by decide +kernel
theorem d_191_57 : decode (am_b 191) 57 = .ok (.aload_n 0, 1) := by decide +kernel
theorem d_191_58 : decode (am_b 191) 58 = .ok (.iconst 5, 1) := by decide +kernel
theorem d_191_59 : decode (am_b 191) 59 = .ok (.invokevirtual 163, 3) := by decide +kernel
theorem d_191_62 : decode (am_b 191) 62 = .ok (.ifCond .eq 7, 3) := by decide +kernel
theorem d_191_65 : decode (am_b 191) 65 = .ok (.aload_n 0, 1) := by decide +kernel
theorem d_191_66 : decode (am_b 191) 66 = .ok (.invokevirtual 192, 3) := by decide +kernel
theorem d_191_69 : decode (am_b 191) 69 = .ok (.aload_n 0, 1) := by decide +kernel
theorem d_191_70 : decode (am_b 191) 70 = .ok (.invokevirtual 156, 3) := by decide +kernel
theorem d_191_73 : decode (am_b 191) 73 = .ok (.ifCond .eq 18, 3) := by decide +kernel
theorem d_191_76 : decode (am_b 191) 76 = .ok (.aload_n 0, 1) := by decide +kernel
theorem d_191_77 : decode (am_b 191) 77 = .ok (.getfield 160, 3) := by decide +kernel
theorem d_191_80 : decode (am_b 191) 80 = .ok (.aload_n 0, 1) := by decide +kernel
theorem d_191_81 : decode (am_b 191) 81 = .ok (.getfield 140, 3) := by decide +kernel
theorem d_191_84 : decode (am_b 191) 84 = .ok (.if_icmp .ge 7, 3) := by decide +kernel
theorem d_191_87 : decode (am_b 191) 87 = .ok (.aload_n 0, 1) := by decide +kernel
theorem d_191_88 : decode (am_b 191) 88 = .ok (.invokevirtual 166, 3) := by decide +kernel
theorem d_191_91 : decode (am_b 191) 91 = .ok (.aload_n 0, 1) := by decide +kernel
theorem d_191_92 : decode (am_b 191) 92 = .ok (.aload_n 0, 1) := by decide +kernel
theorem d_191_93 : decode (am_b 191) 93 = .ok (.getfield 153, 3) := by decide +kernel
theorem d_191_96 : decode (am_b 191) 96 = .ok (.putfield 39, 3) := by decide +kernel
theorem d_191_99 : decode (am_b 191) 99 = .ok (.aload_n 0, 1) := by decide +kernel
theorem d_191_100 : decode (am_b 191) 100 = .ok (.invokevirtual 156, 3) := by decide +kernel
theorem d_191_103 : decode (am_b 191) 103 = .ok (.ifCond .ne 10, 3) := by decide +kernel
theorem d_191_106 : decode (am_b 191) 106 = .ok (.aload_n 0, 1) := by decide +kernel
theorem d_191_107 : decode (am_b 191) 107 = .ok (.bipush (-6), 2) := by decide +kernel
theorem d_191_109 : decode (am_b 191) 109 = .ok (.invokevirtual 110, 3) := by decide +kernel
theorem d_191_112 : decode (am_b 191) 112 = .ok (.ireturn, 1) := by decide +kernel
theorem d_191_113 : decode (am_b 191) 113 = .ok (.aload_n 0, 1) := by decide +kernel
theorem d_191_114 : decode (am_b 191) 114 = .ok (.getfield 13, 3) := by decide +kernel
theorem d_191_117 : decode (am_b 191) 117 = .ok (.sipush 2509, 3) := by decide +kernel
theorem d_191_120 : decode (am_b 191) 120 = .ok (.iaload, 1) := by decide +kernel
theorem d_191_121 : decode (am_b 191) 121 = .ok (.istore_n 1, 1) := by decide +kernel
theorem d_191_122 : decode (am_b 191) 122 = .ok (.aload_n 0, 1) := by decide +kernel
theorem d_191_123 : decode (am_b 191) 123 = .ok (.getfield 13, 3) := by decide +kernel
theorem d_191_126 : decode (am_b 191) 126 = .ok (.sipush 2512, 3) := by decide +kernel
theorem d_191_129 : decode (am_b 191) 129 = .ok (.iload_n 1, 1) := by decide +kernel
theorem d_191_130 : decode (am_b 191) 130 = .ok (.iadd, 1) := by decide +kernel
theorem d_191_131 : decode (am_b 191) 131 = .ok (.aload_n 0, 1) := by decide +kernel
theorem d_191_132 : decode (am_b 191) 132 = .ok (.getfield 140, 3) := by decide +kernel
theorem d_191_135 : decode (am_b 191) 135 = .ok (.iastore, 1) := by decide +kernel
theorem d_191_136 : decode (am_b 191) 136 = .ok (.iconst 0, 1) := by decide +kernel
theorem d_191_137 : decode (am_b 191) 137 = .ok (.istore_n 2, 1) := by decide +kernel
theorem d_191_138 : decode (am_b 191) 138 = .ok (.iload_n 2, 1) := by decide +kernel
theorem d_191_139 : decode (am_b 191) 139 = .ok (.aload_n 0, 1) := by decide +kernel
theorem d_191_140 : decode (am_b 191) 140 = .ok (.getfield 140, 3) := by decide +kernel
theorem d_191_143 : decode (am_b 191) 143 = .ok (.if_icmp .ge 31, 3) := by decide +kernel
theorem d_191_146 : decode (am_b 191) 146 = .ok (.aload_n 0, 1) := by decide +kernel
theorem d_191_147 : decode (am_b 191) 147 = .ok (.getfield 13, 3) := by decide +kernel
theorem d_191_150 : decode (am_b 191) 150 = .ok (.sipush 2520, 3) := by decide +kernel
theorem d_191_153 : decode (am_b 191) 153 = .ok (.sipush 400, 3) := by decide +kernel
theorem d_191_156 : decode (am_b 191) 156 = .ok (.iload_n 1, 1) := by decide +kernel
theorem d_191_157 : decode (am_b 191) 157 = .ok (.imul, 1) := by decide +kernel
theorem d_191_158 : decode (am_b 191) 158 = .ok (.iadd, 1) := by decide +kernel
theorem d_191_159 : decode (am_b 191) 159 = .ok (.iload_n 2, 1) := by decide +kernel
theorem d_191_160 : decode (am_b 191) 160 = .ok (.iadd, 1) := by decide +kernel
theorem d_191_161 : decode (am_b 191) 161 = .ok (.aload_n 0, 1) := by decide +kernel
theorem d_191_162 : decode (am_b 191) 162 = .ok (.getfield 43, 3) := by decide +kernel
theorem d_191_165 : decode (am_b 191) 165 = .ok (.iload_n 2, 1) := by decide +kernel
theorem d_191_166 : decode (am_b 191) 166 = .ok (.iaload, 1) := by decide +kernel
theorem d_191_167 : decode (am_b 191) 167 = .ok (.iastore, 1) := by decide +kernel
theorem d_191_168 : decode (am_b 191) 168 = .ok (.iinc 2 1, 3) := by decide +kernel
theorem d_191_171 : decode (am_b 191) 171 = .ok (.goto (-33), 3) := by decide +kernel
theorem d_191_174 : decode (am_b 191) 174 = .ok (.aload_n 0, 1) := by decide +kernel
theorem d_191_175 : decode (am_b 191) 175 = .ok (.getfield 13, 3) := by decide +kernel
theorem d_191_178 : decode (am_b 191) 178 = .ok (.sipush 2509, 3) := by decide +kernel
theorem d_191_181 : decode (am_b 191) 181 = .ok (.dup2, 1) := by decide +kernel
theorem d_191_182 : decode (am_b 191) 182 = .ok (.iaload, 1) := by decide +kernel
theorem d_191_183 : decode (am_b 191) 183 = .ok (.iconst 1, 1) := by decide +kernel
theorem d_191_184 : decode (am_b 191) 184 = .ok (.iadd, 1) := by decide +kernel
theorem d_191_185 : decode (am_b 191) 185 = .ok (.iastore, 1) := by decide +kernel
theorem d_191_186 : decode (am_b 191) 186 = .ok (.aload_n 0, 1) := by decide +kernel
theorem d_191_187 : decode (am_b 191) 187 = .ok (.iload_n 1, 1) := by decide +kernel
theorem d_191_188 : decode (am_b 191) 188 = .ok (.invokevirtual 114, 3) := by decide +kernel
theorem d_191_191 : decode (am_b 191) 191 = .ok (.ireturn, 1) := by decide +kernel
theorem d_192_0 : decode (am_b 192) 0 = .ok (.aload_n 0, 1) := by decide +kernel
theorem d_192_1 : decode (am_b 192) 1 = .ok (.iconst 0, 1) := by decide +kernel
theorem d_192_2 : decode (am_b 192) 2 = .ok (.putfield 140, 3) := by decide +kernel
theorem d_192_5 : decode (am_b 192) 5 = .ok (.iconst 0, 1) := by decide +kernel
theorem d_192_6 : decode (am_b 192) 6 = .ok (.istore_n 2, 1) := by decide +kernel
theorem d_192_7 : decode (am_b 192) 7 = .ok (.iload_n 2, 1) := by decide +kernel
theorem d_192_8 : decode (am_b 192) 8 = .ok (.iload_n 1, 1) := by decide +kernel
theorem d_192_9 : decode (am_b 192) 9 = .ok (.if_icmp .ge 254, 3) := by decide +kernel
theorem d_192_12 : decode (am_b 192) 12 = .ok (.aload_n 0, 1) := by decide +kernel
theorem d_192_13 : decode (am_b 192) 13 = .ok (.getfield 33, 3) := by decide +kernel
theorem d_192_16 : decode (am_b 192) 16 = .ok (.iload_n 2, 1) := by decide +kernel
theorem d_192_17 : decode (am_b 192) 17 = .ok (.baload, 1) := by decide +kernel
theorem d_192_18 : decode (am_b 192) 18 = .ok (.istore_n 3, 1) := by decide +kernel
theorem d_192_19 : decode (am_b 192) 19 = .ok (.iload_n 3, 1) := by decide +kernel
theorem d_192_20 : decode (am_b 192) 20 = .ok (.bipush 32, 2) := by decide +kernel
theorem d_192_22 : decode (am_b 192) 22 = .ok (.if_icmp .ne 9, 3) := by decide +kernel
theorem d_192_25 : decode (am_b 192) 25 = .ok (.iinc 2 1, 3) := by decide +kernel
theorem d_192_28 : decode (am_b 192) 28 = .ok (.goto (-21), 3) := by decide +kernel
theorem d_192_31 : decode (am_b 192) 31 = .ok (.iload_n 2, 1) := by decide +kernel
theorem d_192_32 : decode (am_b 192) 32 = .ok (.iconst 1, 1) := by decide +kernel
theorem d_192_33 : decode (am_b 192) 33 = .ok (.iadd, 1) := by decide +kernel
theorem d_192_34 : decode (am_b 192) 34 = .ok (.istore 4, 2) := by decide +kernel
theorem d_192_36 : decode (am_b 192) 36 = .ok (.iload_n 3, 1) := by decide +kernel
theorem d_192_37 : decode (am_b 192) 37 = .ok (.invokestatic 143, 3) := by decide +kernel
theorem d_192_40 : decode (am_b 192) 40 = .ok (.ifCond .eq 28, 3) := by decide +kernel
theorem d_192_43 : decode (am_b 192) 43 = .ok (.iload 4, 2) := by decide +kernel
theorem d_192_45 : decode (am_b 192) 45 = .ok (.iload_n 1, 1) := by decide +kernel
theorem d_192_46 : decode (am_b 192) 46 = .ok (.if_icmp .ge 22, 3) := by decide +kernel
theorem d_192_49 : decode (am_b 192) 49 = .ok (.aload_n 0, 1) := by decide +kernel
theorem d_192_50 : decode (am_b 192) 50 = .ok (.getfield 33, 3) := by decide +kernel
theorem d_192_53 : decode (am_b 192) 53 = .ok (.iload 4, 2) := by decide +kernel
theorem d_192_55 : decode (am_b 192) 55 = .ok (.baload, 1) := by decide +kernel
theorem d_192_56 : decode (am_b 192) 56 = .ok (.invokestatic 143, 3) := by decide +kernel
theorem d_192_59 : decode (am_b 192) 59 = .ok (.ifCond .eq 9, 3) := by decide +kernel
theorem d_192_62 : decode (am_b 192) 62 = .ok (.iinc 4 1, 3) := by decide +kernel
theorem d_192_65 : decode (am_b 192) 65 = .ok (.goto (-22), 3) := by decide +kernel
theorem d_192_68 : decode (am_b 192) 68 = .ok (.iload_n 3, 1) := by decide +kernel
theorem d_192_69 : decode (am_b 192) 69 = .ok (.invokestatic 146, 3) := by decide +kernel
theorem d_192_72 : decode (am_b 192) 72 = .ok (.ifCond .eq 28, 3) := by decide +kernel
theorem d_192_75 : decode (am_b 192) 75 = .ok (.iload 4, 2) := by decide +kernel
theorem d_192_77 : decode (am_b 192) 77 = .ok (.iload_n 1, 1) := by decide +kernel
theorem d_192_78 : decode (am_b 192) 78 = .ok (.if_icmp .ge 22, 3) := by decide +kernel
theorem d_192_81 : decode (am_b 192) 81 = .ok (.aload_n 0, 1) := by decide +kernel
theorem d_192_82 : decode (am_b 192) 82 = .ok (.getfield 33, 3) := by decide +kernel
theorem d_192_85 : decode (am_b 192) 85 = .ok (.iload 4, 2) := by decide +kernel
theorem d_192_87 : decode (am_b 192) 87 = .ok (.baload, 1) := by decide +kernel
theorem d_192_88 : decode (am_b 192) 88 = .ok (.invokestatic 146, 3) := by decide +kernel
theorem d_192_91 : decode (am_b 192) 91 = .ok (.ifCond .eq 9, 3) := by decide +kernel
theorem d_192_94 : decode (am_b 192) 94 = .ok (.iinc 4 1, 3) := by decide +kernel
theorem d_192_97 : decode (am_b 192) 97 = .ok (.goto (-22), 3) := by decide +kernel
theorem d_192_100 : decode (am_b 192) 100 = .ok (.aload_n 0, 1) := by decide +kernel
theorem d_192_101 : decode (am_b 192) 101 = .ok (.getfield 49, 3) := by decide +kernel
theorem d_192_104 : decode (am_b 192) 104 = .ok (.aload_n 0, 1) := by decide +kernel
theorem d_192_105 : decode (am_b 192) 105 = .ok (.getfield 140, 3) := by decide +kernel
theorem d_192_108 : decode (am_b 192) 108 = .ok (.iload_n 2, 1) := by decide +kernel
theorem d_192_109 : decode (am_b 192) 109 = .ok (.iastore, 1) := by decide +kernel
theorem d_192_110 : decode (am_b 192) 110 = .ok (.aload_n 0, 1) := by decide +kernel
theorem d_192_111 : decode (am_b 192) 111 = .ok (.getfield 46, 3) := by decide +kernel
theorem d_192_114 : decode (am_b 192) 114 = .ok (.aload_n 0, 1) := by decide +kernel
theorem d_192_115 : decode (am_b 192) 115 = .ok (.getfield 140, 3) := by decide +kernel
theorem d_192_118 : decode (am_b 192) 118 = .ok (.iconst 0, 1) := by decide +kernel
theorem d_192_119 : decode (am_b 192) 119 = .ok (.iastore, 1) := by decide +kernel
theorem d_192_120 : decode (am_b 192) 120 = .ok (.aload_n 0, 1) := by decide +kernel
theorem d_192_121 : decode (am_b 192) 121 = .ok (.getfield 43, 3) := by decide +kernel
theorem d_192_124 : decode (am_b 192) 124 = .ok (.aload_n 0, 1) := by decide +kernel
theorem d_192_125 : decode (am_b 192) 125 = .ok (.getfield 140, 3) := by decide +kernel
theorem d_192_128 : decode (am_b 192) 128 = .ok (.iload_n 3, 1) := by decide +kernel
theorem d_192_129 : decode (am_b 192) 129 = .ok (.invokestatic 143, 3) := by decide +kernel
theorem d_192_132 : decode (am_b 192) 132 = .ok (.ifCond .eq 13, 3) := by decide +kernel
theorem d_192_135 : decode (am_b 192) 135 = .ok (.aload_n 0, 1) := by decide +kernel
theorem d_192_136 : decode (am_b 192) 136 = .ok (.iload_n 2, 1) := by decide +kernel
theorem d_192_137 : decode (am_b 192) 137 = .ok (.iload 4, 2) := by decide +kernel
theorem d_192_139 : decode (am_b 192) 139 = .ok (.invokevirtual 149, 3) := by decide +kernel
theorem d_192_142 : decode (am_b 192) 142 = .ok (.goto 23, 3) := by decide +kernel
theorem d_192_145 : decode (am_b 192) 145 = .ok (.iload_n 3, 1) := by decide +kernel
theorem d_192_146 : decode (am_b 192) 146 = .ok (.invokestatic 146, 3) := by decide +kernel
theorem d_192_149 : decode (am_b 192) 149 = .ok (.ifCond .eq 8, 3) := by decide +kernel
theorem d_192_152 : decode (am_b 192) 152 = .ok (.bipush 90, 2) := by decide +kernel
theorem d_192_154 : decode (am_b 192) 154 = .ok (.goto 11, 3) := by decide +kernel
theorem d_192_157 : decode (am_b 192) 157 = .ok (.bipush 100, 2) := by decide +kernel
theorem d_192_159 : decode (am_b 192) 159 = .ok (.iload_n 3, 1) := by decide +kernel
theorem d_192_160 : decode (am_b 192) 160 = .ok (.sipush 255, 3) := by decide +kernel
theorem d_192_163 : decode (am_b 192) 163 = .ok (.iand, 1) := by decide +kernel
theorem d_192_164 : decode (am_b 192) 164 = .ok (.iadd, 1) := by decide +kernel
theorem d_192_165 : decode (am_b 192) 165 = .ok (.iastore, 1) := by decide +kernel
theorem d_192_166 : decode (am_b 192) 166 = .ok (.iload_n 2, 1) := by decide +kernel
theorem d_192_167 : decode (am_b 192) 167 = .ok (.istore 5, 2) := by decide +kernel
theorem d_192_169 : decode (am_b 192) 169 = .ok (.iload 5, 2) := by decide +kernel
theorem d_192_171 : decode (am_b 192) 171 = .ok (.iload 4, 2) := by decide +kernel
theorem d_192_173 : decode (am_b 192) 173 = .ok (.if_icmp .ge 74, 3) := by decide +kernel
theorem d_192_176 : decode (am_b 192) 176 = .ok (.iload_n 3, 1) := by decide +kernel
theorem d_192_177 : decode (am_b 192) 177 = .ok (.invokestatic 146, 3) := by decide +kernel
theorem d_192_180 : decode (am_b 192) 180 = .ok (.ifCond .eq 67, 3) := by decide +kernel
theorem d_192_183 : decode (am_b 192) 183 = .ok (.aload_n 0, 1) := by decide +kernel
theorem d_192_184 : decode (am_b 192) 184 = .ok (.getfield 46, 3) := by decide +kernel
theorem d_192_187 : decode (am_b 192) 187 = .ok (.aload_n 0, 1) := by decide +kernel
theorem d_192_188 : decode (am_b 192) 188 = .ok (.getfield 140, 3) := by decide +kernel
theorem d_192_191 : decode (am_b 192) 191 = .ok (.aload_n 0, 1) := by decide +kernel
theorem d_192_192 : decode (am_b 192) 192 = .ok (.getfield 46, 3) := by decide +kernel
theorem d_192_195 : decode (am_b 192) 195 = .ok (.aload_n 0, 1) := by decide +kernel
theorem d_192_196 : decode (am_b 192) 196 = .ok (.getfield 140, 3) := by decide +kernel
theorem d_192_199 : decode (am_b 192) 199 = .ok (.iaload, 1) := by decide +kernel
theorem d_192_200 : decode (am_b 192) 200 = .ok (.ldc 152, 2) := by decide +kernel
theorem d_192_202 : decode (am_b 192) 202 = .ok (.if_icmp .le 15, 3) := by decide +kernel
theorem d_192_205 : decode (am_b 192) 205 = .ok (.aload_n 0, 1) := by decide +kernel
theorem d_192_206 : decode (am_b 192) 206 = .ok (.getfield 46, 3) := by decide +kernel
theorem d_192_209 : decode (am_b 192) 209 = .ok (.aload_n 0, 1) := by decide +kernel
theorem d_192_210 : decode (am_b 192) 210 = .ok (.getfield 140, 3) := by decide +kernel
theorem d_192_213 : decode (am_b 192) 213 = .ok (.iaload, 1) := by decide +kernel
theorem d_192_214 : decode (am_b 192) 214 = .ok (.goto 26, 3) := by decide +kernel
theorem d_192_217 : decode (am_b 192) 217 = .ok (.bipush 10, 2) := by decide +kernel
theorem d_192_219 : decode (am_b 192) 219 = .ok (.aload_n 0, 1) := by decide +kernel
theorem d_192_220 : decode (am_b 192) 220 = .ok (.getfield 46, 3) := by decide +kernel
theorem d_192_223 : decode (am_b 192) 223 = .ok (.aload_n 0, 1) := by decide +kernel
theorem d_192_224 : decode (am_b 192) 224 = .ok (.getfield 140, 3) := by decide +kernel
theorem d_192_227 : decode (am_b 192) 227 = .ok (.iaload, 1) := by decide +kernel
theorem d_192_228 : decode (am_b 192) 228 = .ok (.imul, 1) := by decide +kernel
theorem d_192_229 : decode (am_b 192) 229 = .ok (.aload_n 0, 1) := by decide +kernel
theorem d_192_230 : decode (am_b 192) 230 = .ok (.getfield 33, 3) := by decide +kernel
theorem d_192_233 : decode (am_b 192) 233 = .ok (.iload 5, 2) := by decide +kernel
theorem d_192_235 : decode (am_b 192) 235 = .ok (.baload, 1) := by decide +kernel
theorem d_192_236 : decode (am_b 192) 236 = .ok (.iadd, 1) := by decide +kernel
theorem d_192_237 : decode (am_b 192) 237 = .ok (.bipush 48, 2) := by decide +kernel
theorem d_192_239 : decode (am_b 192) 239 = .ok (.isub, 1) := by decide +kernel
theorem d_192_240 : decode (am_b 192) 240 = .ok (.iastore, 1) := by decide +kernel
theorem d_192_241 : decode (am_b 192) 241 = .ok (.iinc 5 1, 3) := by decide +kernel
theorem d_192_244 : decode (am_b 192) 244 = .ok (.goto (-75), 3) := by decide +kernel
theorem d_192_247 : decode (am_b 192) 247 = .ok (.aload_n 0, 1) := by decide +kernel
theorem d_192_248 : decode (am_b 192) 248 = .ok (.dup, 1) := by decide +kernel
theorem d_192_249 : decode (am_b 192) 249 = .ok (.getfield 140, 3) := by decide +kernel
theorem d_192_252 : decode (am_b 192) 252 = .ok (.iconst 1, 1) := by decide +kernel
theorem d_192_253 : decode (am_b 192) 253 = .ok (.iadd, 1) := by decide +kernel
theorem d_192_254 : decode (am_b 192) 254 = .ok (.putfield 140, 3) := by decide +kernel
theorem d_192_257 : decode (am_b 192) 257 = .ok (.iload 4, 2) := by decide +kernel
theorem d_192_259 : decode (am_b 192) 259 = .ok (.istore_n 2, 1) := by decide +kernel
theorem d_192_260 : decode (am_b 192) 260 = .ok (.goto (-253), 3) := by decide +kernel
theorem d_192_263 : decode (am_b 192) 263 = .ok (.aload_n 0, 1) := by decide +kernel
theorem d_192_264 : decode (am_b 192) 264 = .ok (.getfield 49, 3) := by decide +kernel
theorem d_192_267 : decode (am_b 192) 267 = .ok (.aload_n 0, 1) := by decide +kernel
theorem d_192_268 : decode (am_b 192) 268 = .ok (.getfield 140, 3) := by decide +kernel
theorem d_192_271 : decode (am_b 192) 271 = .ok (.iload_n 1, 1) := by decide +kernel
theorem d_192_272 : decode (am_b 192) 272 = .ok (.iastore, 1) := by decide +kernel
theorem d_192_273 : decode (am_b 192) 273 = .ok (.aload_n 0, 1) := by decide +kernel
theorem d_192_274 : decode (am_b 192) 274 = .ok (.getfield 43, 3) := by decide +kernel
theorem d_192_277 : decode (am_b 192) 277 = .ok (.aload_n 0, 1) := by decide +kernel
theorem d_192_278 : decode (am_b 192) 278 = .ok (.getfield 140, 3) := by decide +kernel
theorem d_192_281 : decode (am_b 192) 281 = .ok (.iconst 0, 1) := by decide +kernel
theorem d_192_282 : decode (am_b 192) 282 = .ok (.iastore, 1) := by decide +kernel
theorem d_192_283 : decode (am_b 192) 283 = .ok (.aload_n 0, 1) := by decide +kernel
theorem d_192_284 : decode (am_b 192) 284 = .ok (.getfield 46, 3) := by decide +kernel
theorem d_192_287 : decode (am_b 192) 287 = .ok (.aload_n 0, 1) := by decide +kernel
theorem d_192_288 : decode (am_b 192) 288 = .ok (.getfield 140, 3) := by decide +kernel
theorem d_192_291 : decode (am_b 192) 291 = .ok (.iconst 0, 1) := by decide +kernel
theorem d_192_292 : decode (am_b 192) 292 = .ok (.iastore, 1) := by decide +kernel
theorem d_192_293 : decode (am_b 192) 293 = .ok (.return_, 1) := by decide +kernel
theorem d_193_0 : decode (am_b 193) 0 = .ok (.iload_n 0, 1) := by decide +kernel
theorem d_193_1 : decode (am_b 193) 1 = .ok (.bipush 97, 2) := by decide +kernel
theorem d_193_3 : decode (am_b 193) 3 = .ok (.if_icmp .lt 13, 3) := by decide +kernel
theorem d_193_6 : decode (am_b 193) 6 = .ok (.iload_n 0, 1) := by decide +kernel
theorem d_193_7 : decode (am_b 193) 7 = .ok (.bipush 122, 2) := by decide +kernel
theorem d_193_9 : decode (am_b 193) 9 = .ok (.if_icmp .gt 7, 3) := by decide +kernel
theorem d_193_12 : decode (am_b 193) 12 = .ok (.iconst 1, 1) := by decide +kernel
theorem d_193_13 : decode (am_b 193) 13 = .ok (.goto 4, 3) := by decide +kernel
theorem d_193_16 : decode (am_b 193) 16 = .ok (.iconst 0, 1) := by decide +kernel
theorem d_193_17 : decode (am_b 193) 17 = .ok (.ireturn, 1) := by decide +kernel
theorem d_194_0 : decode (am_b 194) 0 = .ok (.iload_n 0, 1) := by decide +kernel
theorem d_194_1 : decode (am_b 194) 1 = .ok (.bipush 48, 2) := by decide +kernel
theorem d_194_3 : decode (am_b 194) 3 = .ok (.if_icmp .lt 13, 3) := by decide +kernel
theorem d_194_6 : decode (am_b 194) 6 = .ok (.iload_n 0, 1) := by decide +kernel
theorem d_194_7 : decode (am_b 194) 7 = .ok (.bipush 57, 2) := by decide +kernel
theorem d_194_9 : decode (am_b 194) 9 = .ok (.if_icmp .gt 7, 3) := by decide +kernel
theorem d_194_12 : decode (am_b 194) 12 = .ok (.iconst 1, 1) := by decide +kernel
theorem d_194_13 : decode (am_b 194) 13 = .ok (.goto 4, 3) := by decide +kernel
theorem d_194_16 : decode (am_b 194) 16 = .ok (.iconst 0, 1) := by decide +kernel
theorem d_194_17 : decode (am_b 194) 17 = .ok (.ireturn, 1) := by decide +kernel
theorem d_195_0 : decode (am_b 195) 0 = .ok (.iconst 1, 1) := by decide +kernel
theorem d_195_1 : decode (am_b 195) 1 = .ok (.istore_n 3, 1) := by decide +kernel
theorem d_195_2 : decode (am_b 195) 2 = .ok (.iconst 0, 1) := by decide +kernel
theorem d_195_3 : decode (am_b 195) 3 = .ok (.istore 4, 2) := by decide +kernel
theorem d_195_5 : decode (am_b 195) 5 = .ok (.iload 4, 2) := by decide +kernel
theorem d_195_7 : decode (am_b 195) 7 = .ok (.aload_n 0, 1) := by decide +kernel
theorem d_195_8 : decode (am_b 195) 8 = .ok (.getfield 29, 3) := by decide +kernel
theorem d_195_11 : decode (am_b 195) 11 = .ok (.arraylength, 1) := by decide +kernel
theorem d_195_12 : decode (am_b 195) 12 = .ok (.if_icmp .ge 114, 3) := by decide +kernel
theorem d_195_15 : decode (am_b 195) 15 = .ok (.iconst 0, 1) := by decide +kernel
theorem d_195_16 : decode (am_b 195) 16 = .ok (.istore 5, 2) := by decide +kernel
theorem d_195_18 : decode (am_b 195) 18 = .ok (.aload_n 0, 1) := by decide +kernel
theorem d_195_19 : decode (am_b 195) 19 = .ok (.getfield 29, 3) := by decide +kernel
theorem d_195_22 : decode (am_b 195) 22 = .ok (.iload 4, 2) := by decide +kernel
theorem d_195_24 : decode (am_b 195) 24 = .ok (.iload 5, 2) := by decide +kernel
theorem d_195_26 : decode (am_b 195) 26 = .ok (.iadd, 1) := by decide +kernel
theorem d_195_27 : decode (am_b 195) 27 = .ok (.baload, 1) := by decide +kernel
theorem d_195_28 : decode (am_b 195) 28 = .ok (.bipush 32, 2) := by decide +kernel
theorem d_195_30 : decode (am_b 195) 30 = .ok (.if_icmp .eq 9, 3) := by decide +kernel
theorem d_195_33 : decode (am_b 195) 33 = .ok (.iinc 5 1, 3) := by decide +kernel
theorem d_195_36 : decode (am_b 195) 36 = .ok (.goto (-18), 3) := by decide +kernel
theorem d_195_39 : decode (am_b 195) 39 = .ok (.iload 5, 2) := by decide +kernel
theorem d_195_41 : decode (am_b 195) 41 = .ok (.iload_n 2, 1) := by decide +kernel
theorem d_195_42 : decode (am_b 195) 42 = .ok (.iload_n 1, 1) := by decide +kernel
theorem d_195_43 : decode (am_b 195) 43 = .ok (.isub, 1) := by decide +kernel
theorem d_195_44 : decode (am_b 195) 44 = .ok (.if_icmp .ne 7, 3) := by decide +kernel
theorem d_195_47 : decode (am_b 195) 47 = .ok (.iconst 1, 1) := by decide +kernel
theorem d_195_48 : decode (am_b 195) 48 = .ok (.goto 4, 3) := by decide +kernel
theorem d_195_51 : decode (am_b 195) 51 = .ok (.iconst 0, 1) := by decide +kernel
theorem d_195_52 : decode (am_b 195) 52 = .ok (.istore 6, 2) := by decide +kernel
theorem d_195_54 : decode (am_b 195) 54 = .ok (.iconst 0, 1) := by decide +kernel
theorem d_195_55 : decode (am_b 195) 55 = .ok (.istore 7, 2) := by decide +kernel
theorem d_195_57 : decode (am_b 195) 57 = .ok (.iload 7, 2) := by decide +kernel
theorem d_195_59 : decode (am_b 195) 59 = .ok (.iload 5, 2) := by decide +kernel
theorem d_195_61 : decode (am_b 195) 61 = .ok (.if_icmp .ge 43, 3) := by decide +kernel
theorem d_195_64 : decode (am_b 195) 64 = .ok (.iload 6, 2) := by decide +kernel
theorem d_195_66 : decode (am_b 195) 66 = .ok (.ifCond .eq 38, 3) := by decide +kernel
theorem d_195_69 : decode (am_b 195) 69 = .ok (.aload_n 0, 1) := by decide +kernel
theorem d_195_70 : decode (am_b 195) 70 = .ok (.getfield 29, 3) := by decide +kernel
theorem d_195_73 : decode (am_b 195) 73 = .ok (.iload 4, 2) := by decide +kernel
theorem d_195_75 : decode (am_b 195) 75 = .ok (.iload 7, 2) := by decide +kernel
theorem d_195_77 : decode (am_b 195) 77 = .ok (.iadd, 1) := by decide +kernel
theorem d_195_78 : decode (am_b 195) 78 = .ok (.baload, 1) := by decide +kernel
theorem d_195_79 : decode (am_b 195) 79 = .ok (.aload_n 0, 1) := by decide +kernel
theorem d_195_80 : decode (am_b 195) 80 = .ok (.getfield 33, 3) := by decide +kernel
theorem d_195_83 : decode (am_b 195) 83 = .ok (.iload_n 1, 1) := by decide +kernel
theorem d_195_84 : decode (am_b 195) 84 = .ok (.iload 7, 2) := by decide +kernel
theorem d_195_86 : decode (am_b 195) 86 = .ok (.iadd, 1) := by decide +kernel
theorem d_195_87 : decode (am_b 195) 87 = .ok (.baload, 1) := by decide +kernel
theorem d_195_88 : decode (am_b 195) 88 = .ok (.if_icmp .ne 7, 3) := by decide +kernel
theorem d_195_91 : decode (am_b 195) 91 = .ok (.iconst 1, 1) := by decide +kernel
theorem d_195_92 : decode (am_b 195) 92 = .ok (.goto 4, 3) := by decide +kernel
theorem d_195_95 : decode (am_b 195) 95 = .ok (.iconst 0, 1) := by decide +kernel
theorem d_195_96 : decode (am_b 195) 96 = .ok (.istore 6, 2) := by decide +kernel
theorem d_195_98 : decode (am_b 195) 98 = .ok (.iinc 7 1, 3) := by decide +kernel
theorem d_195_101 : decode (am_b 195) 101 = .ok (.goto (-44), 3) := by decide +kernel
theorem d_195_104 : decode (am_b 195) 104 = .ok (.iload 6, 2) := by decide +kernel
theorem d_195_106 : decode (am_b 195) 106 = .ok (.ifCond .eq 5, 3) := by decide +kernel
theorem d_195_109 : decode (am_b 195) 109 = .ok (.iload_n 3, 1) := by decide +kernel
theorem d_195_110 : decode (am_b 195) 110 = .ok (.ireturn, 1) := by decide +kernel
theorem d_195_111 : decode (am_b 195) 111 = .ok (.iload 4, 2) := by decide +kernel
theorem d_195_113 : decode (am_b 195) 113 = .ok (.iload 5, 2) := by decide +kernel
theorem d_195_115 : decode (am_b 195) 115 = .ok (.iconst 1, 1) := by decide +kernel
theorem d_195_116 : decode (am_b 195) 116 = .ok (.iadd, 1) := by decide +kernel
theorem d_195_117 : decode (am_b 195) 117 = .ok (.iadd, 1) := by decide +kernel
theorem d_195_118 : decode (am_b 195) 118 = .ok (.istore 4, 2) := by decide +kernel
theorem d_195_120 : decode (am_b 195) 120 = .ok (.iinc 3 1, 3) := by decide +kernel
theorem d_195_123 : decode (am_b 195) 123 = .ok (.goto (-118), 3) := by decide +kernel
theorem d_195_126 : decode (am_b 195) 126 = .ok (.iconst 0, 1) := by decide +kernel
theorem d_195_127 : decode (am_b 195) 127 = .ok (.ireturn, 1) := by decide +kernel
theorem d_196_0 : decode (am_b 196) 0 = .ok (.aload_n 0, 1) := by decide +kernel
theorem d_196_1 : decode (am_b 196) 1 = .ok (.invokevirtual 169, 3) := by decide +kernel
theorem d_196_4 : decode (am_b 196) 4 = .ok (.aload_n 0, 1) := by decide +kernel
theorem d_196_5 : decode (am_b 196) 5 = .ok (.bipush 44, 2) := by decide +kernel
theorem d_196_7 : decode (am_b 196) 7 = .ok (.invokestatic 172, 3) := by decide +kernel
theorem d_196_10 : decode (am_b 196) 10 = .ok (.invokevirtual 163, 3) := by decide +kernel
theorem d_196_13 : decode (am_b 196) 13 = .ok (.ifCond .eq 10, 3) := by decide +kernel
theorem d_196_16 : decode (am_b 196) 16 = .ok (.aload_n 0, 1) := by decide +kernel
theorem d_196_17 : decode (am_b 196) 17 = .ok (.invokevirtual 169, 3) := by decide +kernel
theorem d_196_20 : decode (am_b 196) 20 = .ok (.goto (-16), 3) := by decide +kernel
theorem d_196_23 : decode (am_b 196) 23 = .ok (.return_, 1) := by decide +kernel
theorem d_197_0 : decode (am_b 197) 0 = .ok (.aload_n 0, 1) := by decide +kernel
theorem d_197_1 : decode (am_b 197) 1 = .ok (.iconst 0, 1) := by decide +kernel
theorem d_197_2 : decode (am_b 197) 2 = .ok (.invokevirtual 176, 3) := by decide +kernel
theorem d_197_5 : decode (am_b 197) 5 = .ok (.aload_n 0, 1) := by decide +kernel
theorem d_197_6 : decode (am_b 197) 6 = .ok (.bipush 61, 2) := by decide +kernel
theorem d_197_8 : decode (am_b 197) 8 = .ok (.invokestatic 172, 3) := by decide +kernel
theorem d_197_11 : decode (am_b 197) 11 = .ok (.invokevirtual 180, 3) := by decide +kernel
theorem d_197_14 : decode (am_b 197) 14 = .ok (.aload_n 0, 1) := by decide +kernel
theorem d_197_15 : decode (am_b 197) 15 = .ok (.iconst 0, 1) := by decide +kernel
theorem d_197_16 : decode (am_b 197) 16 = .ok (.invokevirtual 176, 3) := by decide +kernel
theorem d_197_19 : decode (am_b 197) 19 = .ok (.return_, 1) := by decide +kernel
theorem d_198_0 : decode (am_b 198) 0 = .ok (.aload_n 0, 1) := by decide +kernel
theorem d_198_1 : decode (am_b 198) 1 = .ok (.iload_n 1, 1) := by decide +kernel
theorem d_198_2 : decode (am_b 198) 2 = .ok (.invokevirtual 183, 3) := by decide +kernel
theorem d_198_5 : decode (am_b 198) 5 = .ok (.aload_n 0, 1) := by decide +kernel
theorem d_198_6 : decode (am_b 198) 6 = .ok (.bipush 42, 2) := by decide +kernel
theorem d_198_8 : decode (am_b 198) 8 = .ok (.invokestatic 172, 3) := by decide +kernel
theorem d_198_11 : decode (am_b 198) 11 = .ok (.invokevirtual 163, 3) := by decide +kernel
theorem d_198_14 : decode (am_b 198) 14 = .ok (.ifCond .ne 27, 3) := by decide +kernel
theorem d_198_17 : decode (am_b 198) 17 = .ok (.aload_n 0, 1) := by decide +kernel
theorem d_198_18 : decode (am_b 198) 18 = .ok (.bipush 47, 2) := by decide +kernel
theorem d_198_20 : decode (am_b 198) 20 = .ok (.invokestatic 172, 3) := by decide +kernel
theorem d_198_23 : decode (am_b 198) 23 = .ok (.invokevirtual 163, 3) := by decide +kernel
theorem d_198_26 : decode (am_b 198) 26 = .ok (.ifCond .ne 15, 3) := by decide +kernel
theorem d_198_29 : decode (am_b 198) 29 = .ok (.aload_n 0, 1) := by decide +kernel
theorem d_198_30 : decode (am_b 198) 30 = .ok (.bipush 92, 2) := by decide +kernel
theorem d_198_32 : decode (am_b 198) 32 = .ok (.invokestatic 172, 3) := by decide +kernel
theorem d_198_35 : decode (am_b 198) 35 = .ok (.invokevirtual 163, 3) := by decide +kernel
theorem d_198_38 : decode (am_b 198) 38 = .ok (.ifCond .eq 11, 3) := by decide +kernel
theorem d_198_41 : decode (am_b 198) 41 = .ok (.aload_n 0, 1) := by decide +kernel
theorem d_198_42 : decode (am_b 198) 42 = .ok (.iload_n 1, 1) := by decide +kernel
theorem d_198_43 : decode (am_b 198) 43 = .ok (.invokevirtual 183, 3) := by decide +kernel
theorem d_198_46 : decode (am_b 198) 46 = .ok (.goto (-41), 3) := by decide +kernel
theorem d_198_49 : decode (am_b 198) 49 = .ok (.return_, 1) := by decide +kernel
theorem d_199_0 : decode (am_b 199) 0 = .ok (.aload_n 0, 1) := by decide +kernel
theorem d_199_1 : decode (am_b 199) 1 = .ok (.invokevirtual 156, 3) := by decide +kernel
theorem d_199_4 : decode (am_b 199) 4 = .ok (.ifCond .ne 4, 3) := by decide +kernel
theorem d_199_7 : decode (am_b 199) 7 = .ok (.return_, 1) := by decide +kernel
theorem d_199_8 : decode (am_b 199) 8 = .ok (.aload_n 0, 1) := by decide +kernel
theorem d_199_9 : decode (am_b 199) 9 = .ok (.getfield 43, 3) := by decide +kernel
theorem d_199_12 : decode (am_b 199) 12 = .ok (.aload_n 0, 1) := by decide +kernel
theorem d_199_13 : decode (am_b 199) 13 = .ok (.getfield 160, 3) := by decide +kernel
theorem d_199_16 : decode (am_b 199) 16 = .ok (.iaload, 1) := by decide +kernel
theorem d_199_17 : decode (am_b 199) 17 = .ok (.istore_n 2, 1) := by decide +kernel
theorem d_199_18 : decode (am_b 199) 18 = .ok (.iload_n 2, 1) := by decide +kernel
theorem d_199_19 : decode (am_b 199) 19 = .ok (.bipush 40, 2) := by decide +kernel
theorem d_199_21 : decode (am_b 199) 21 = .ok (.invokestatic 172, 3) := by decide +kernel
theorem d_199_24 : decode (am_b 199) 24 = .ok (.if_icmp .ne 50, 3) := by decide +kernel
theorem d_199_27 : decode (am_b 199) 27 = .ok (.iload_n 1, 1) := by decide +kernel
theorem d_199_28 : decode (am_b 199) 28 = .ok (.bipush 8, 2) := by decide +kernel
theorem d_199_30 : decode (am_b 199) 30 = .ok (.if_icmp .ne 7, 3) := by decide +kernel
theorem d_199_33 : decode (am_b 199) 33 = .ok (.aload_n 0, 1) := by decide +kernel
theorem d_199_34 : decode (am_b 199) 34 = .ok (.invokevirtual 166, 3) := by decide +kernel
theorem d_199_37 : decode (am_b 199) 37 = .ok (.aload_n 0, 1) := by decide +kernel
theorem d_199_38 : decode (am_b 199) 38 = .ok (.invokevirtual 156, 3) := by decide +kernel
theorem d_199_41 : decode (am_b 199) 41 = .ok (.ifCond .ne 4, 3) := by decide +kernel
theorem d_199_44 : decode (am_b 199) 44 = .ok (.return_, 1) := by decide +kernel
theorem d_199_45 : decode (am_b 199) 45 = .ok (.aload_n 0, 1) := by decide +kernel
theorem d_199_46 : decode (am_b 199) 46 = .ok (.dup, 1) := by decide +kernel
theorem d_199_47 : decode (am_b 199) 47 = .ok (.getfield 160, 3) := by decide +kernel
theorem d_199_50 : decode (am_b 199) 50 = .ok (.iconst 1, 1) := by decide +kernel
theorem d_199_51 : decode (am_b 199) 51 = .ok (.iadd, 1) := by decide +kernel
theorem d_199_52 : decode (am_b 199) 52 = .ok (.putfield 160, 3) := by decide +kernel
theorem d_199_55 : decode (am_b 199) 55 = .ok (.aload_n 0, 1) := by decide +kernel
theorem d_199_56 : decode (am_b 199) 56 = .ok (.iload_n 1, 1) := by decide +kernel
theorem d_199_57 : decode (am_b 199) 57 = .ok (.iconst 1, 1) := by decide +kernel
theorem d_199_58 : decode (am_b 199) 58 = .ok (.iadd, 1) := by decide +kernel
theorem d_199_59 : decode (am_b 199) 59 = .ok (.invokevirtual 176, 3) := by decide +kernel
theorem d_199_62 : decode (am_b 199) 62 = .ok (.aload_n 0, 1) := by decide +kernel
theorem d_199_63 : decode (am_b 199) 63 = .ok (.bipush 41, 2) := by decide +kernel
theorem d_199_65 : decode (am_b 199) 65 = .ok (.invokestatic 172, 3) := by decide +kernel
theorem d_199_68 : decode (am_b 199) 68 = .ok (.invokevirtual 180, 3) := by decide +kernel
theorem d_199_71 : decode (am_b 199) 71 = .ok (.goto 59, 3) := by decide +kernel
theorem d_199_74 : decode (am_b 199) 74 = .ok (.iload_n 2, 1) := by decide +kernel
theorem d_199_75 : decode (am_b 199) 75 = .ok (.iconst 1, 1) := by decide +kernel
theorem d_199_76 : decode (am_b 199) 76 = .ok (.iconst 4, 1) := by decide +kernel
theorem d_199_77 : decode (am_b 199) 77 = .ok (.invokestatic 106, 3) := by decide +kernel
theorem d_199_80 : decode (am_b 199) 80 = .ok (.ifCond .eq 46, 3) := by decide +kernel
theorem d_199_83 : decode (am_b 199) 83 = .ok (.aload_n 0, 1) := by decide +kernel
theorem d_199_84 : decode (am_b 199) 84 = .ok (.getfield 186, 3) := by decide +kernel
theorem d_199_87 : decode (am_b 199) 87 = .ok (.bipush 32, 2) := by decide +kernel
theorem d_199_89 : decode (am_b 199) 89 = .ok (.if_icmp .ne 7, 3) := by decide +kernel
theorem d_199_92 : decode (am_b 199) 92 = .ok (.aload_n 0, 1) := by decide +kernel
theorem d_199_93 : decode (am_b 199) 93 = .ok (.invokevirtual 166, 3) := by decide +kernel
theorem d_199_96 : decode (am_b 199) 96 = .ok (.aload_n 0, 1) := by decide +kernel
theorem d_199_97 : decode (am_b 199) 97 = .ok (.dup, 1) := by decide +kernel
theorem d_199_98 : decode (am_b 199) 98 = .ok (.getfield 186, 3) := by decide +kernel
theorem d_199_101 : decode (am_b 199) 101 = .ok (.iconst 1, 1) := by decide +kernel
theorem d_199_102 : decode (am_b 199) 102 = .ok (.iadd, 1) := by decide +kernel
theorem d_199_103 : decode (am_b 199) 103 = .ok (.putfield 186, 3) := by decide +kernel
theorem d_199_106 : decode (am_b 199) 106 = .ok (.aload_n 0, 1) := by decide +kernel
theorem d_199_107 : decode (am_b 199) 107 = .ok (.invokevirtual 156, 3) := by decide +kernel
theorem d_199_110 : decode (am_b 199) 110 = .ok (.ifCond .eq 20, 3) := by decide +kernel
theorem d_199_113 : decode (am_b 199) 113 = .ok (.aload_n 0, 1) := by decide +kernel
theorem d_199_114 : decode (am_b 199) 114 = .ok (.dup, 1) := by decide +kernel
theorem d_199_115 : decode (am_b 199) 115 = .ok (.getfield 160, 3) := by decide +kernel
theorem d_199_118 : decode (am_b 199) 118 = .ok (.iconst 1, 1) := by decide +kernel
theorem d_199_119 : decode (am_b 199) 119 = .ok (.iadd, 1) := by decide +kernel
theorem d_199_120 : decode (am_b 199) 120 = .ok (.putfield 160, 3) := by decide +kernel
theorem d_199_123 : decode (am_b 199) 123 = .ok (.goto 7, 3) := by decide +kernel
theorem d_199_126 : decode (am_b 199) 126 = .ok (.aload_n 0, 1) := by decide +kernel
theorem d_199_127 : decode (am_b 199) 127 = .ok (.invokevirtual 166, 3) := by decide +kernel
theorem d_199_130 : decode (am_b 199) 130 = .ok (.return_, 1) := by decide +kernel
theorem d_200_0 : decode (am_b 200) 0 = .ok (.aload_n 0, 1) := by decide +kernel
theorem d_200_1 : decode (am_b 200) 1 = .ok (.getfield 153, 3) := by decide +kernel
theorem d_200_4 : decode (am_b 200) 4 = .ok (.iconst (-1), 1) := by decide +kernel
theorem d_200_5 : decode (am_b 200) 5 = .ok (.if_icmp .ne 7, 3) := by decide +kernel
theorem d_200_8 : decode (am_b 200) 8 = .ok (.iconst 1, 1) := by decide +kernel
theorem d_200_9 : decode (am_b 200) 9 = .ok (.goto 4, 3) := by decide +kernel
theorem d_200_12 : decode (am_b 200) 12 = .ok (.iconst 0, 1) := by decide +kernel
theorem d_200_13 : decode (am_b 200) 13 = .ok (.ireturn, 1) := by decide +kernel
theorem d_201_0 : decode (am_b 201) 0 = .ok (.bipush 100, 2) := by decide +kernel
theorem d_201_2 : decode (am_b 201) 2 = .ok (.iload_n 0, 1) := by decide +kernel
theorem d_201_3 : decode (am_b 201) 3 = .ok (.iadd, 1) := by decide +kernel
theorem d_201_4 : decode (am_b 201) 4 = .ok (.ireturn, 1) := by decide +kernel
theorem d_202_0 : decode (am_b 202) 0 = .ok (.aload_n 0, 1) := by decide +kernel
theorem d_202_1 : decode (am_b 202) 1 = .ok (.invokevirtual 156, 3) := by decide +kernel
theorem d_202_4 : decode (am_b 202) 4 = .ok (.ifCond .eq 16, 3) := by decide +kernel
theorem d_202_7 : decode (am_b 202) 7 = .ok (.aload_n 0, 1) := by decide +kernel
theorem d_202_8 : decode (am_b 202) 8 = .ok (.aload_n 0, 1) := by decide +kernel
theorem d_202_9 : decode (am_b 202) 9 = .ok (.getfield 49, 3) := by decide +kernel
theorem d_202_12 : decode (am_b 202) 12 = .ok (.aload_n 0, 1) := by decide +kernel
theorem d_202_13 : decode (am_b 202) 13 = .ok (.getfield 160, 3) := by decide +kernel
theorem d_202_16 : decode (am_b 202) 16 = .ok (.iaload, 1) := by decide +kernel
theorem d_202_17 : decode (am_b 202) 17 = .ok (.putfield 153, 3) := by decide +kernel
theorem d_202_20 : decode (am_b 202) 20 = .ok (.return_, 1) := by decide +kernel
theorem d_203_0 : decode (am_b 203) 0 = .ok (.aload_n 0, 1) := by decide +kernel
theorem d_203_1 : decode (am_b 203) 1 = .ok (.iload_n 1, 1) := by decide +kernel
theorem d_203_2 : decode (am_b 203) 2 = .ok (.invokevirtual 163, 3) := by decide +kernel
theorem d_203_5 : decode (am_b 203) 5 = .ok (.ifCond .ne 7, 3) := by decide +kernel
theorem d_203_8 : decode (am_b 203) 8 = .ok (.aload_n 0, 1) := by decide +kernel
theorem d_203_9 : decode (am_b 203) 9 = .ok (.invokevirtual 166, 3) := by decide +kernel
theorem d_203_12 : decode (am_b 203) 12 = .ok (.return_, 1) := by decide +kernel
theorem d_204_0 : decode (am_b 204) 0 = .ok (.aload_n 0, 1) := by decide +kernel
theorem d_204_1 : decode (am_b 204) 1 = .ok (.invokevirtual 156, 3) := by decide +kernel
theorem d_204_4 : decode (am_b 204) 4 = .ok (.ifCond .eq 20, 3) := by decide +kernel
theorem d_204_7 : decode (am_b 204) 7 = .ok (.aload_n 0, 1) := by decide +kernel
theorem d_204_8 : decode (am_b 204) 8 = .ok (.getfield 43, 3) := by decide +kernel
theorem d_204_11 : decode (am_b 204) 11 = .ok (.aload_n 0, 1) := by decide +kernel
theorem d_204_12 : decode (am_b 204) 12 = .ok (.getfield 160, 3) := by decide +kernel
theorem d_204_15 : decode (am_b 204) 15 = .ok (.iaload, 1) := by decide +kernel
theorem d_204_16 : decode (am_b 204) 16 = .ok (.iload_n 1, 1) := by decide +kernel
theorem d_204_17 : decode (am_b 204) 17 = .ok (.if_icmp .ne 7, 3) := by decide +kernel
theorem d_204_20 : decode (am_b 204) 20 = .ok (.iconst 1, 1) := by decide +kernel
theorem d_204_21 : decode (am_b 204) 21 = .ok (.goto 4, 3) := by decide +kernel
theorem d_204_24 : decode (am_b 204) 24 = .ok (.iconst 0, 1) := by decide +kernel
theorem d_204_25 : decode (am_b 204) 25 = .ok (.istore_n 2, 1) := by decide +kernel
theorem d_204_26 : decode (am_b 204) 26 = .ok (.iload_n 2, 1) := by decide +kernel
theorem d_204_27 : decode (am_b 204) 27 = .ok (.ifCond .eq 13, 3) := by decide +kernel
theorem d_204_30 : decode (am_b 204) 30 = .ok (.aload_n 0, 1) := by decide +kernel
theorem d_204_31 : decode (am_b 204) 31 = .ok (.dup, 1) := by decide +kernel
theorem d_204_32 : decode (am_b 204) 32 = .ok (.getfield 160, 3) := by decide +kernel
theorem d_204_35 : decode (am_b 204) 35 = .ok (.iconst 1, 1) := by decide +kernel
theorem d_204_36 : decode (am_b 204) 36 = .ok (.iadd, 1) := by decide +kernel
theorem d_204_37 : decode (am_b 204) 37 = .ok (.putfield 160, 3) := by decide +kernel
theorem d_204_40 : decode (am_b 204) 40 = .ok (.iload_n 2, 1) := by decide +kernel
theorem d_204_41 : decode (am_b 204) 41 = .ok (.ireturn, 1) := by decide +kernel
theorem d_205_0 : decode (am_b 205) 0 = .ok (.aload_n 0, 1) := by decide +kernel
theorem d_205_1 : decode (am_b 205) 1 = .ok (.getfield 39, 3) := by decide +kernel
theorem d_205_4 : decode (am_b 205) 4 = .ok (.ireturn, 1) := by decide +kernel
theorem d_206_0 : decode (am_b 206) 0 = .ok (.aload_n 0, 1) := by decide +kernel
theorem d_206_1 : decode (am_b 206) 1 = .ok (.iload_n 1, 1) := by decide +kernel
theorem d_206_2 : decode (am_b 206) 2 = .ok (.invokevirtual 124, 3) := by decide +kernel
theorem d_206_5 : decode (am_b 206) 5 = .ok (.ifCond .eq 11, 3) := by decide +kernel
theorem d_206_8 : decode (am_b 206) 8 = .ok (.aload_n 0, 1) := by decide +kernel
theorem d_206_9 : decode (am_b 206) 9 = .ok (.iload_n 2, 1) := by decide +kernel
theorem d_206_10 : decode (am_b 206) 10 = .ok (.invokevirtual 245, 3) := by decide +kernel
theorem d_206_13 : decode (am_b 206) 13 = .ok (.ifCond .ne 5, 3) := by decide +kernel
theorem d_206_16 : decode (am_b 206) 16 = .ok (.iconst (-1), 1) := by decide +kernel
theorem d_206_17 : decode (am_b 206) 17 = .ok (.ireturn, 1) := by decide +kernel
theorem d_206_18 : decode (am_b 206) 18 = .ok (.aload_n 0, 1) := by decide +kernel
theorem d_206_19 : decode (am_b 206) 19 = .ok (.iload_n 1, 1) := by decide +kernel
theorem d_206_20 : decode (am_b 206) 20 = .ok (.invokevirtual 248, 3) := by decide +kernel
theorem d_206_23 : decode (am_b 206) 23 = .ok (.aload_n 0, 1) := by decide +kernel
theorem d_206_24 : decode (am_b 206) 24 = .ok (.iload_n 2, 1) := by decide +kernel
theorem d_206_25 : decode (am_b 206) 25 = .ok (.invokevirtual 251, 3) := by decide +kernel
theorem d_206_28 : decode (am_b 206) 28 = .ok (.ifCond .eq 7, 3) := by decide +kernel
theorem d_206_31 : decode (am_b 206) 31 = .ok (.iconst 1, 1) := by decide +kernel
theorem d_206_32 : decode (am_b 206) 32 = .ok (.goto 4, 3) := by decide +kernel
theorem d_206_35 : decode (am_b 206) 35 = .ok (.iconst 0, 1) := by decide +kernel
theorem d_206_36 : decode (am_b 206) 36 = .ok (.ireturn, 1) := by decide +kernel
theorem d_207_0 : decode (am_b 207) 0 = .ok (.iload_n 1, 1) := by decide +kernel
theorem d_207_1 : decode (am_b 207) 1 = .ok (.iconst 0, 1) := by decide +kernel
theorem d_207_2 : decode (am_b 207) 2 = .ok (.aload_n 0, 1) := by decide +kernel
theorem d_207_3 : decode (am_b 207) 3 = .ok (.getfield 13, 3) := by decide +kernel
theorem d_207_6 : decode (am_b 207) 6 = .ok (.sipush 2509, 3) := by decide +kernel
theorem d_207_9 : decode (am_b 207) 9 = .ok (.iaload, 1) := by decide +kernel
theorem d_207_10 : decode (am_b 207) 10 = .ok (.iconst 1, 1) := by decide +kernel
theorem d_207_11 : decode (am_b 207) 11 = .ok (.isub, 1) := by decide +kernel
theorem d_207_12 : decode (am_b 207) 12 = .ok (.invokestatic 106, 3) := by decide +kernel
theorem d_207_15 : decode (am_b 207) 15 = .ok (.ireturn, 1) := by decide +kernel
theorem d_208_0 : decode (am_b 208) 0 = .ok (.aload_n 0, 1) := by decide +kernel
theorem d_208_1 : decode (am_b 208) 1 = .ok (.aload_n 0, 1) := by decide +kernel
theorem d_208_2 : decode (am_b 208) 2 = .ok (.iload_n 1, 1) := by decide +kernel
theorem d_208_3 : decode (am_b 208) 3 = .ok (.invokevirtual 121, 3) := by decide +kernel
theorem d_208_6 : decode (am_b 208) 6 = .ok (.putfield 127, 3) := by decide +kernel
theorem d_208_9 : decode (am_b 208) 9 = .ok (.iconst 0, 1) := by decide +kernel
theorem d_208_10 : decode (am_b 208) 10 = .ok (.istore_n 2, 1) := by decide +kernel
theorem d_208_11 : decode (am_b 208) 11 = .ok (.iload_n 2, 1) := by decide +kernel
theorem d_208_12 : decode (am_b 208) 12 = .ok (.aload_n 0, 1) := by decide +kernel
theorem d_208_13 : decode (am_b 208) 13 = .ok (.getfield 127, 3) := by decide +kernel
theorem d_208_16 : decode (am_b 208) 16 = .ok (.aload_n 0, 1) := by decide +kernel
theorem d_208_17 : decode (am_b 208) 17 = .ok (.getfield 127, 3) := by decide +kernel
theorem d_208_20 : decode (am_b 208) 20 = .ok (.imul, 1) := by decide +kernel
theorem d_208_21 : decode (am_b 208) 21 = .ok (.if_icmp .ge 28, 3) := by decide +kernel
theorem d_208_24 : decode (am_b 208) 24 = .ok (.aload_n 0, 1) := by decide +kernel
theorem d_208_25 : decode (am_b 208) 25 = .ok (.getfield 23, 3) := by decide +kernel
theorem d_208_28 : decode (am_b 208) 28 = .ok (.iload_n 2, 1) := by decide +kernel
theorem d_208_29 : decode (am_b 208) 29 = .ok (.aload_n 0, 1) := by decide +kernel
theorem d_208_30 : decode (am_b 208) 30 = .ok (.getfield 13, 3) := by decide +kernel
theorem d_208_33 : decode (am_b 208) 33 = .ok (.bipush 37, 2) := by decide +kernel
theorem d_208_35 : decode (am_b 208) 35 = .ok (.iload_n 1, 1) := by decide +kernel
theorem d_208_36 : decode (am_b 208) 36 = .ok (.imul, 1) := by decide +kernel
theorem d_208_37 : decode (am_b 208) 37 = .ok (.iconst 1, 1) := by decide +kernel
theorem d_208_38 : decode (am_b 208) 38 = .ok (.iadd, 1) := by decide +kernel
theorem d_208_39 : decode (am_b 208) 39 = .ok (.iload_n 2, 1) := by decide +kernel
theorem d_208_40 : decode (am_b 208) 40 = .ok (.iadd, 1) := by decide +kernel
theorem d_208_41 : decode (am_b 208) 41 = .ok (.iaload, 1) := by decide +kernel
theorem d_208_42 : decode (am_b 208) 42 = .ok (.iastore, 1) := by decide +kernel
theorem d_208_43 : decode (am_b 208) 43 = .ok (.iinc 2 1, 3) := by decide +kernel
theorem d_208_46 : decode (am_b 208) 46 = .ok (.goto (-35), 3) := by decide +kernel
theorem d_208_49 : decode (am_b 208) 49 = .ok (.return_, 1) := by decide +kernel
theorem d_209_0 : decode (am_b 209) 0 = .ok (.aload_n 0, 1) := by decide +kernel
theorem d_209_1 : decode (am_b 209) 1 = .ok (.iload_n 1, 1) := by decide +kernel
theorem d_209_2 : decode (am_b 209) 2 = .ok (.iconst 1, 1) := by decide +kernel
theorem d_209_3 : decode (am_b 209) 3 = .ok (.invokevirtual 241, 3) := by decide +kernel
theorem d_209_6 : decode (am_b 209) 6 = .ok (.aload_n 0, 1) := by decide +kernel
theorem d_209_7 : decode (am_b 209) 7 = .ok (.getfield 226, 3) := by decide +kernel
theorem d_209_10 : decode (am_b 209) 10 = .ok (.ifCond .ne 7, 3) := by decide +kernel
theorem d_209_13 : decode (am_b 209) 13 = .ok (.iconst 1, 1) := by decide +kernel
theorem d_209_14 : decode (am_b 209) 14 = .ok (.goto 4, 3) := by decide +kernel
theorem d_209_17 : decode (am_b 209) 17 = .ok (.iconst 0, 1) := by decide +kernel
theorem d_209_18 : decode (am_b 209) 18 = .ok (.ireturn, 1) := by decide +kernel
theorem d_210_0 : decode (am_b 210) 0 = .ok (.aload_n 0, 1) := by decide +kernel
theorem d_210_1 : decode (am_b 210) 1 = .ok (.iload_n 1, 1) := by decide +kernel
theorem d_210_2 : decode (am_b 210) 2 = .ok (.invokevirtual 220, 3) := by decide +kernel
theorem d_210_5 : decode (am_b 210) 5 = .ok (.istore_n 3, 1) := by decide +kernel
theorem d_210_6 : decode (am_b 210) 6 = .ok (.aload_n 0, 1) := by decide +kernel
theorem d_210_7 : decode (am_b 210) 7 = .ok (.getfield 52, 3) := by decide +kernel
theorem d_210_10 : decode (am_b 210) 10 = .ok (.iconst 4, 1) := by decide +kernel
theorem d_210_11 : decode (am_b 210) 11 = .ok (.aload_n 0, 1) := by decide +kernel
theorem d_210_12 : decode (am_b 210) 12 = .ok (.iconst 0, 1) := by decide +kernel
theorem d_210_13 : decode (am_b 210) 13 = .ok (.invokevirtual 223, 3) := by decide +kernel
theorem d_210_16 : decode (am_b 210) 16 = .ok (.iconst (-1), 1) := by decide +kernel
theorem d_210_17 : decode (am_b 210) 17 = .ok (.if_icmp .ne 7, 3) := by decide +kernel
theorem d_210_20 : decode (am_b 210) 20 = .ok (.iconst 0, 1) := by decide +kernel
theorem d_210_21 : decode (am_b 210) 21 = .ok (.goto 8, 3) := by decide +kernel
theorem d_210_24 : decode (am_b 210) 24 = .ok (.aload_n 0, 1) := by decide +kernel
theorem d_210_25 : decode (am_b 210) 25 = .ok (.iconst 0, 1) := by decide +kernel
theorem d_210_26 : decode (am_b 210) 26 = .ok (.invokevirtual 223, 3) := by decide +kernel
theorem d_210_29 : decode (am_b 210) 29 = .ok (.iastore, 1) := by decide +kernel
theorem d_210_30 : decode (am_b 210) 30 = .ok (.aload_n 0, 1) := by decide +kernel
theorem d_210_31 : decode (am_b 210) 31 = .ok (.iconst 0, 1) := by decide +kernel
theorem d_210_32 : decode (am_b 210) 32 = .ok (.putfield 226, 3) := by decide +kernel
theorem d_210_35 : decode (am_b 210) 35 = .ok (.aload_n 0, 1) := by decide +kernel
theorem d_210_36 : decode (am_b 210) 36 = .ok (.iconst (-1), 1) := by decide +kernel
theorem d_210_37 : decode (am_b 210) 37 = .ok (.putfield 229, 3) := by decide +kernel
theorem d_210_40 : decode (am_b 210) 40 = .ok (.aload_n 0, 1) := by decide +kernel
theorem d_210_41 : decode (am_b 210) 41 = .ok (.iconst (-1), 1) := by decide +kernel
theorem d_210_42 : decode (am_b 210) 42 = .ok (.putfield 232, 3) := by decide +kernel
theorem d_210_45 : decode (am_b 210) 45 = .ok (.aload_n 0, 1) := by decide +kernel
theorem d_210_46 : decode (am_b 210) 46 = .ok (.iconst (-1), 1) := by decide +kernel
theorem d_210_47 : decode (am_b 210) 47 = .ok (.putfield 235, 3) := by decide +kernel
theorem d_210_50 : decode (am_b 210) 50 = .ok (.iconst 0, 1) := by decide +kernel
theorem d_210_51 : decode (am_b 210) 51 = .ok (.istore 4, 2) := by decide +kernel
theorem d_210_53 : decode (am_b 210) 53 = .ok (.iload 4, 2) := by decide +kernel
theorem d_210_55 : decode (am_b 210) 55 = .ok (.iload_n 3, 1) := by decide +kernel
theorem d_210_56 : decode (am_b 210) 56 = .ok (.iconst 2, 1) := by decide +kernel
theorem d_210_57 : decode (am_b 210) 57 = .ok (.iand, 1) := by decide +kernel
theorem d_210_58 : decode (am_b 210) 58 = .ok (.ifCond .le 10, 3) := by decide +kernel
theorem d_210_61 : decode (am_b 210) 61 = .ok (.aload_n 0, 1) := by decide +kernel
theorem d_210_62 : decode (am_b 210) 62 = .ok (.getfield 127, 3) := by decide +kernel
theorem d_210_65 : decode (am_b 210) 65 = .ok (.goto 4, 3) := by decide +kernel
theorem d_210_68 : decode (am_b 210) 68 = .ok (.iconst 1, 1) := by decide +kernel
theorem d_210_69 : decode (am_b 210) 69 = .ok (.if_icmp .ge 148, 3) := by decide +kernel
theorem d_210_72 : decode (am_b 210) 72 = .ok (.iconst 0, 1) := by decide +kernel
theorem d_210_73 : decode (am_b 210) 73 = .ok (.istore 5, 2) := by decide +kernel
theorem d_210_75 : decode (am_b 210) 75 = .ok (.iload 5, 2) := by decide +kernel
theorem d_210_77 : decode (am_b 210) 77 = .ok (.iload_n 3, 1) := by decide +kernel
theorem d_210_78 : decode (am_b 210) 78 = .ok (.iconst 4, 1) := by decide +kernel
theorem d_210_79 : decode (am_b 210) 79 = .ok (.iand, 1) := by decide +kernel
theorem d_210_80 : decode (am_b 210) 80 = .ok (.ifCond .le 10, 3) := by decide +kernel
theorem d_210_83 : decode (am_b 210) 83 = .ok (.aload_n 0, 1) := by decide +kernel
theorem d_210_84 : decode (am_b 210) 84 = .ok (.getfield 127, 3) := by decide +kernel
theorem d_210_87 : decode (am_b 210) 87 = .ok (.goto 4, 3) := by decide +kernel
theorem d_210_90 : decode (am_b 210) 90 = .ok (.iconst 1, 1) := by decide +kernel
theorem d_210_91 : decode (am_b 210) 91 = .ok (.if_icmp .ge 120, 3) := by decide +kernel
theorem d_210_94 : decode (am_b 210) 94 = .ok (.iconst 0, 1) := by decide +kernel
theorem d_210_95 : decode (am_b 210) 95 = .ok (.istore 6, 2) := by decide +kernel
theorem d_210_97 : decode (am_b 210) 97 = .ok (.iload 6, 2) := by decide +kernel
theorem d_210_99 : decode (am_b 210) 99 = .ok (.iload_n 3, 1) := by decide +kernel
theorem d_210_100 : decode (am_b 210) 100 = .ok (.bipush 8, 2) := by decide +kernel
theorem d_210_102 : decode (am_b 210) 102 = .ok (.iand, 1) := by decide +kernel
theorem d_210_103 : decode (am_b 210) 103 = .ok (.ifCond .le 10, 3) := by decide +kernel
theorem d_210_106 : decode (am_b 210) 106 = .ok (.aload_n 0, 1) := by decide +kernel
theorem d_210_107 : decode (am_b 210) 107 = .ok (.getfield 127, 3) := by decide +kernel
theorem d_210_110 : decode (am_b 210) 110 = .ok (.goto 4, 3) := by decide +kernel
theorem d_210_113 : decode (am_b 210) 113 = .ok (.iconst 1, 1) := by decide +kernel
theorem d_210_114 : decode (am_b 210) 114 = .ok (.if_icmp .ge 91, 3) := by decide +kernel
theorem d_210_117 : decode (am_b 210) 117 = .ok (.iload_n 2, 1) := by decide +kernel
theorem d_210_118 : decode (am_b 210) 118 = .ok (.ifCond .eq 11, 3) := by decide +kernel
theorem d_210_121 : decode (am_b 210) 121 = .ok (.aload_n 0, 1) := by decide +kernel
theorem d_210_122 : decode (am_b 210) 122 = .ok (.getfield 226, 3) := by decide +kernel
theorem d_210_125 : decode (am_b 210) 125 = .ok (.ifCond .le 4, 3) := by decide +kernel
theorem d_210_128 : decode (am_b 210) 128 = .ok (.return_, 1) := by decide +kernel
theorem d_210_129 : decode (am_b 210) 129 = .ok (.aload_n 0, 1) := by decide +kernel
theorem d_210_130 : decode (am_b 210) 130 = .ok (.getfield 52, 3) := by decide +kernel
theorem d_210_133 : decode (am_b 210) 133 = .ok (.iconst 1, 1) := by decide +kernel
theorem d_210_134 : decode (am_b 210) 134 = .ok (.iload 4, 2) := by decide +kernel
theorem d_210_136 : decode (am_b 210) 136 = .ok (.iastore, 1) := by decide +kernel
theorem d_210_137 : decode (am_b 210) 137 = .ok (.aload_n 0, 1) := by decide +kernel
theorem d_210_138 : decode (am_b 210) 138 = .ok (.getfield 52, 3) := by decide +kernel
theorem d_210_141 : decode (am_b 210) 141 = .ok (.iconst 2, 1) := by decide +kernel
theorem d_210_142 : decode (am_b 210) 142 = .ok (.iload 5, 2) := by decide +kernel
theorem d_210_144 : decode (am_b 210) 144 = .ok (.iastore, 1) := by decide +kernel
theorem d_210_145 : decode (am_b 210) 145 = .ok (.aload_n 0, 1) := by decide +kernel
theorem d_210_146 : decode (am_b 210) 146 = .ok (.getfield 52, 3) := by decide +kernel
theorem d_210_149 : decode (am_b 210) 149 = .ok (.iconst 3, 1) := by decide +kernel
theorem d_210_150 : decode (am_b 210) 150 = .ok (.iload 6, 2) := by decide +kernel
theorem d_210_152 : decode (am_b 210) 152 = .ok (.iastore, 1) := by decide +kernel
theorem d_210_153 : decode (am_b 210) 153 = .ok (.aload_n 0, 1) := by decide +kernel
theorem d_210_154 : decode (am_b 210) 154 = .ok (.iload_n 1, 1) := by decide +kernel
theorem d_210_155 : decode (am_b 210) 155 = .ok (.invokevirtual 238, 3) := by decide +kernel
theorem d_210_158 : decode (am_b 210) 158 = .ok (.ifCond .ne 6, 3) := by decide +kernel
theorem d_210_161 : decode (am_b 210) 161 = .ok (.goto 38, 3) := by decide +kernel
theorem d_210_164 : decode (am_b 210) 164 = .ok (.aload_n 0, 1) := by decide +kernel
theorem d_210_165 : decode (am_b 210) 165 = .ok (.getfield 226, 3) := by decide +kernel
theorem d_210_168 : decode (am_b 210) 168 = .ok (.ifCond .ne 21, 3) := by decide +kernel
theorem d_210_171 : decode (am_b 210) 171 = .ok (.aload_n 0, 1) := by decide +kernel
theorem d_210_172 : decode (am_b 210) 172 = .ok (.iload 4, 2) := by decide +kernel
theorem d_210_174 : decode (am_b 210) 174 = .ok (.putfield 229, 3) := by decide +kernel
theorem d_210_177 : decode (am_b 210) 177 = .ok (.aload_n 0, 1) := by decide +kernel
theorem d_210_178 : decode (am_b 210) 178 = .ok (.iload 5, 2) := by decide +kernel
theorem d_210_180 : decode (am_b 210) 180 = .ok (.putfield 232, 3) := by decide +kernel
theorem d_210_183 : decode (am_b 210) 183 = .ok (.aload_n 0, 1) := by decide +kernel
theorem d_210_184 : decode (am_b 210) 184 = .ok (.iload 6, 2) := by decide +kernel
theorem d_210_186 : decode (am_b 210) 186 = .ok (.putfield 235, 3) := by decide +kernel
theorem d_210_189 : decode (am_b 210) 189 = .ok (.aload_n 0, 1) := by decide +kernel
theorem d_210_190 : decode (am_b 210) 190 = .ok (.dup, 1) := by decide +kernel
theorem d_210_191 : decode (am_b 210) 191 = .ok (.getfield 226, 3) := by decide +kernel
theorem d_210_194 : decode (am_b 210) 194 = .ok (.iconst 1, 1) := by decide +kernel
theorem d_210_195 : decode (am_b 210) 195 = .ok (.iadd, 1) := by decide +kernel
theorem d_210_196 : decode (am_b 210) 196 = .ok (.putfield 226, 3) := by decide +kernel
theorem d_210_199 : decode (am_b 210) 199 = .ok (.iinc 6 1, 3) := by decide +kernel
theorem d_210_202 : decode (am_b 210) 202 = .ok (.goto (-105), 3) := by decide +kernel
theorem d_210_205 : decode (am_b 210) 205 = .ok (.iinc 5 1, 3) := by decide +kernel
theorem d_210_208 : decode (am_b 210) 208 = .ok (.goto (-133), 3) := by decide +kernel
theorem d_210_211 : decode (am_b 210) 211 = .ok (.iinc 4 1, 3) := by decide +kernel
theorem d_210_214 : decode (am_b 210) 214 = .ok (.goto (-161), 3) := by decide +kernel
theorem d_210_217 : decode (am_b 210) 217 = .ok (.return_, 1) := by decide +kernel
theorem d_211_0 : decode (am_b 211) 0 = .ok (.iconst 0, 1) := by decide +kernel
theorem d_211_1 : decode (am_b 211) 1 = .ok (.istore_n 2, 1) := by decide +kernel
theorem d_211_2 : decode (am_b 211) 2 = .ok (.iconst 0, 1) := by decide +kernel
theorem d_211_3 : decode (am_b 211) 3 = .ok (.istore_n 3, 1) := by decide +kernel
theorem d_211_4 : decode (am_b 211) 4 = .ok (.iload_n 3, 1) := by decide +kernel
theorem d_211_5 : decode (am_b 211) 5 = .ok (.aload_n 0, 1) := by decide +kernel
theorem d_211_6 : decode (am_b 211) 6 = .ok (.getfield 13, 3) := by decide +kernel
theorem d_211_9 : decode (am_b 211) 9 = .ok (.sipush 2512, 3) := by decide +kernel
theorem d_211_12 : decode (am_b 211) 12 = .ok (.iload_n 1, 1) := by decide +kernel
theorem d_211_13 : decode (am_b 211) 13 = .ok (.iadd, 1) := by decide +kernel
theorem d_211_14 : decode (am_b 211) 14 = .ok (.iaload, 1) := by decide +kernel
theorem d_211_15 : decode (am_b 211) 15 = .ok (.if_icmp .ge 54, 3) := by decide +kernel
theorem d_211_18 : decode (am_b 211) 18 = .ok (.aload_n 0, 1) := by decide +kernel
theorem d_211_19 : decode (am_b 211) 19 = .ok (.getfield 13, 3) := by decide +kernel
theorem d_211_22 : decode (am_b 211) 22 = .ok (.sipush 2520, 3) := by decide +kernel
theorem d_211_25 : decode (am_b 211) 25 = .ok (.sipush 400, 3) := by decide +kernel
theorem d_211_28 : decode (am_b 211) 28 = .ok (.iload_n 1, 1) := by decide +kernel
theorem d_211_29 : decode (am_b 211) 29 = .ok (.imul, 1) := by decide +kernel
theorem d_211_30 : decode (am_b 211) 30 = .ok (.iadd, 1) := by decide +kernel
theorem d_211_31 : decode (am_b 211) 31 = .ok (.iload_n 3, 1) := by decide +kernel
theorem d_211_32 : decode (am_b 211) 32 = .ok (.iadd, 1) := by decide +kernel
theorem d_211_33 : decode (am_b 211) 33 = .ok (.iaload, 1) := by decide +kernel
theorem d_211_34 : decode (am_b 211) 34 = .ok (.iconst 1, 1) := by decide +kernel
theorem d_211_35 : decode (am_b 211) 35 = .ok (.iconst 3, 1) := by decide +kernel
theorem d_211_36 : decode (am_b 211) 36 = .ok (.invokestatic 106, 3) := by decide +kernel
theorem d_211_39 : decode (am_b 211) 39 = .ok (.ifCond .eq 24, 3) := by decide +kernel
theorem d_211_42 : decode (am_b 211) 42 = .ok (.iload_n 2, 1) := by decide +kernel
theorem d_211_43 : decode (am_b 211) 43 = .ok (.iconst 1, 1) := by decide +kernel
theorem d_211_44 : decode (am_b 211) 44 = .ok (.aload_n 0, 1) := by decide +kernel
theorem d_211_45 : decode (am_b 211) 45 = .ok (.getfield 13, 3) := by decide +kernel
theorem d_211_48 : decode (am_b 211) 48 = .ok (.sipush 2520, 3) := by decide +kernel
theorem d_211_51 : decode (am_b 211) 51 = .ok (.sipush 400, 3) := by decide +kernel
theorem d_211_54 : decode (am_b 211) 54 = .ok (.iload_n 1, 1) := by decide +kernel
theorem d_211_55 : decode (am_b 211) 55 = .ok (.imul, 1) := by decide +kernel
theorem d_211_56 : decode (am_b 211) 56 = .ok (.iadd, 1) := by decide +kernel
theorem d_211_57 : decode (am_b 211) 57 = .ok (.iload_n 3, 1) := by decide +kernel
theorem d_211_58 : decode (am_b 211) 58 = .ok (.iadd, 1) := by decide +kernel
theorem d_211_59 : decode (am_b 211) 59 = .ok (.iaload, 1) := by decide +kernel
theorem d_211_60 : decode (am_b 211) 60 = .ok (.ishl, 1) := by decide +kernel
theorem d_211_61 : decode (am_b 211) 61 = .ok (.ior, 1) := by decide +kernel
theorem d_211_62 : decode (am_b 211) 62 = .ok (.istore_n 2, 1) := by decide +kernel
theorem d_211_63 : decode (am_b 211) 63 = .ok (.iinc 3 1, 3) := by decide +kernel
theorem d_211_66 : decode (am_b 211) 66 = .ok (.goto (-62), 3) := by decide +kernel
theorem d_211_69 : decode (am_b 211) 69 = .ok (.iload_n 2, 1) := by decide +kernel
theorem d_211_70 : decode (am_b 211) 70 = .ok (.ireturn, 1) := by decide +kernel
theorem d_212_0 : decode (am_b 212) 0 = .ok (.iconst 0, 1) := by decide +kernel
theorem d_212_1 : decode (am_b 212) 1 = .ok (.istore_n 2, 1) := by decide +kernel
theorem d_212_2 : decode (am_b 212) 2 = .ok (.iload_n 2, 1) := by decide +kernel
theorem d_212_3 : decode (am_b 212) 3 = .ok (.aload_n 0, 1) := by decide +kernel
theorem d_212_4 : decode (am_b 212) 4 = .ok (.getfield 127, 3) := by decide +kernel
theorem d_212_7 : decode (am_b 212) 7 = .ok (.if_icmp .ge 79, 3) := by decide +kernel
theorem d_212_10 : decode (am_b 212) 10 = .ok (.iconst 1, 1) := by decide +kernel
theorem d_212_11 : decode (am_b 212) 11 = .ok (.istore_n 3, 1) := by decide +kernel
theorem d_212_12 : decode (am_b 212) 12 = .ok (.iconst 0, 1) := by decide +kernel
theorem d_212_13 : decode (am_b 212) 13 = .ok (.istore 4, 2) := by decide +kernel
theorem d_212_15 : decode (am_b 212) 15 = .ok (.iload 4, 2) := by decide +kernel
theorem d_212_17 : decode (am_b 212) 17 = .ok (.aload_n 0, 1) := by decide +kernel
theorem d_212_18 : decode (am_b 212) 18 = .ok (.getfield 127, 3) := by decide +kernel
theorem d_212_21 : decode (am_b 212) 21 = .ok (.if_icmp .ge 53, 3) := by decide +kernel
theorem d_212_24 : decode (am_b 212) 24 = .ok (.iload_n 3, 1) := by decide +kernel
theorem d_212_25 : decode (am_b 212) 25 = .ok (.ifCond .eq 41, 3) := by decide +kernel
theorem d_212_28 : decode (am_b 212) 28 = .ok (.iload_n 1, 1) := by decide +kernel
theorem d_212_29 : decode (am_b 212) 29 = .ok (.iconst 2, 1) := by decide +kernel
theorem d_212_30 : decode (am_b 212) 30 = .ok (.if_icmp .eq 15, 3) := by decide +kernel
theorem d_212_33 : decode (am_b 212) 33 = .ok (.aload_n 0, 1) := by decide +kernel
theorem d_212_34 : decode (am_b 212) 34 = .ok (.iload_n 2, 1) := by decide +kernel
theorem d_212_35 : decode (am_b 212) 35 = .ok (.iload 4, 2) := by decide +kernel
theorem d_212_37 : decode (am_b 212) 37 = .ok (.invokevirtual 130, 3) := by decide +kernel
theorem d_212_40 : decode (am_b 212) 40 = .ok (.iload 4, 2) := by decide +kernel
theorem d_212_42 : decode (am_b 212) 42 = .ok (.if_icmp .ne 24, 3) := by decide +kernel
theorem d_212_45 : decode (am_b 212) 45 = .ok (.iload_n 1, 1) := by decide +kernel
theorem d_212_46 : decode (am_b 212) 46 = .ok (.iconst 1, 1) := by decide +kernel
theorem d_212_47 : decode (am_b 212) 47 = .ok (.if_icmp .eq 15, 3) := by decide +kernel
theorem d_212_50 : decode (am_b 212) 50 = .ok (.aload_n 0, 1) := by decide +kernel
theorem d_212_51 : decode (am_b 212) 51 = .ok (.iload 4, 2) := by decide +kernel
theorem d_212_53 : decode (am_b 212) 53 = .ok (.iload_n 2, 1) := by decide +kernel
theorem d_212_54 : decode (am_b 212) 54 = .ok (.invokevirtual 130, 3) := by decide +kernel
theorem d_212_57 : decode (am_b 212) 57 = .ok (.iload 4, 2) := by decide +kernel
theorem d_212_59 : decode (am_b 212) 59 = .ok (.if_icmp .ne 7, 3) := by decide +kernel
theorem d_212_62 : decode (am_b 212) 62 = .ok (.iconst 1, 1) := by decide +kernel
theorem d_212_63 : decode (am_b 212) 63 = .ok (.goto 4, 3) := by decide +kernel
theorem d_212_66 : decode (am_b 212) 66 = .ok (.iconst 0, 1) := by decide +kernel
theorem d_212_67 : decode (am_b 212) 67 = .ok (.istore_n 3, 1) := by decide +kernel
theorem d_212_68 : decode (am_b 212) 68 = .ok (.iinc 4 1, 3) := by decide +kernel
theorem d_212_71 : decode (am_b 212) 71 = .ok (.goto (-56), 3) := by decide +kernel
theorem d_212_74 : decode (am_b 212) 74 = .ok (.iload_n 3, 1) := by decide +kernel
theorem d_212_75 : decode (am_b 212) 75 = .ok (.ifCond .eq 5, 3) := by decide +kernel
theorem d_212_78 : decode (am_b 212) 78 = .ok (.iload_n 2, 1) := by decide +kernel
theorem d_212_79 : decode (am_b 212) 79 = .ok (.ireturn, 1) := by decide +kernel
theorem d_212_80 : decode (am_b 212) 80 = .ok (.iinc 2 1, 3) := by decide +kernel
theorem d_212_83 : decode (am_b 212) 83 = .ok (.goto (-81), 3) := by decide +kernel
theorem d_212_86 : decode (am_b 212) 86 = .ok (.iconst (-1), 1) := by decide +kernel
theorem d_212_87 : decode (am_b 212) 87 = .ok (.ireturn, 1) := by decide +kernel
theorem d_213_0 : decode (am_b 213) 0 = .ok (.aload_n 0, 1) := by decide +kernel
theorem d_213_1 : decode (am_b 213) 1 = .ok (.getfield 23, 3) := by decide +kernel
theorem d_213_4 : decode (am_b 213) 4 = .ok (.aload_n 0, 1) := by decide +kernel
theorem d_213_5 : decode (am_b 213) 5 = .ok (.getfield 127, 3) := by decide +kernel
theorem d_213_8 : decode (am_b 213) 8 = .ok (.iload_n 1, 1) := by decide +kernel
theorem d_213_9 : decode (am_b 213) 9 = .ok (.imul, 1) := by decide +kernel
theorem d_213_10 : decode (am_b 213) 10 = .ok (.iload_n 2, 1) := by decide +kernel
theorem d_213_11 : decode (am_b 213) 11 = .ok (.iadd, 1) := by decide +kernel
theorem d_213_12 : decode (am_b 213) 12 = .ok (.iaload, 1) := by decide +kernel
theorem d_213_13 : decode (am_b 213) 13 = .ok (.ireturn, 1) := by decide +kernel
theorem d_214_0 : decode (am_b 214) 0 = .ok (.aload_n 0, 1) := by decide +kernel
theorem d_214_1 : decode (am_b 214) 1 = .ok (.sipush 400, 3) := by decide +kernel
theorem d_214_4 : decode (am_b 214) 4 = .ok (.iload_n 1, 1) := by decide +kernel
theorem d_214_5 : decode (am_b 214) 5 = .ok (.imul, 1) := by decide +kernel
theorem d_214_6 : decode (am_b 214) 6 = .ok (.putfield 202, 3) := by decide +kernel
theorem d_214_9 : decode (am_b 214) 9 = .ok (.aload_n 0, 1) := by decide +kernel
theorem d_214_10 : decode (am_b 214) 10 = .ok (.aload_n 0, 1) := by decide +kernel
theorem d_214_11 : decode (am_b 214) 11 = .ok (.getfield 202, 3) := by decide +kernel
theorem d_214_14 : decode (am_b 214) 14 = .ok (.aload_n 0, 1) := by decide +kernel
theorem d_214_15 : decode (am_b 214) 15 = .ok (.getfield 13, 3) := by decide +kernel
theorem d_214_18 : decode (am_b 214) 18 = .ok (.sipush 2512, 3) := by decide +kernel
theorem d_214_21 : decode (am_b 214) 21 = .ok (.iload_n 1, 1) := by decide +kernel
theorem d_214_22 : decode (am_b 214) 22 = .ok (.iadd, 1) := by decide +kernel
theorem d_214_23 : decode (am_b 214) 23 = .ok (.iaload, 1) := by decide +kernel
theorem d_214_24 : decode (am_b 214) 24 = .ok (.iadd, 1) := by decide +kernel
theorem d_214_25 : decode (am_b 214) 25 = .ok (.putfield 195, 3) := by decide +kernel
theorem d_214_28 : decode (am_b 214) 28 = .ok (.aload_n 0, 1) := by decide +kernel
theorem d_214_29 : decode (am_b 214) 29 = .ok (.invokevirtual 217, 3) := by decide +kernel
theorem d_214_32 : decode (am_b 214) 32 = .ok (.istore_n 2, 1) := by decide +kernel
theorem d_214_33 : decode (am_b 214) 33 = .ok (.aload_n 0, 1) := by decide +kernel
theorem d_214_34 : decode (am_b 214) 34 = .ok (.aload_n 0, 1) := by decide +kernel
theorem d_214_35 : decode (am_b 214) 35 = .ok (.getfield 202, 3) := by decide +kernel
theorem d_214_38 : decode (am_b 214) 38 = .ok (.invokevirtual 205, 3) := by decide +kernel
theorem d_214_41 : decode (am_b 214) 41 = .ok (.iconst 5, 1) := by decide +kernel
theorem d_214_42 : decode (am_b 214) 42 = .ok (.if_icmp .eq 13, 3) := by decide +kernel
theorem d_214_45 : decode (am_b 214) 45 = .ok (.iload_n 2, 1) := by decide +kernel
theorem d_214_46 : decode (am_b 214) 46 = .ok (.ifCond .ne 7, 3) := by decide +kernel
theorem d_214_49 : decode (am_b 214) 49 = .ok (.iconst 1, 1) := by decide +kernel
theorem d_214_50 : decode (am_b 214) 50 = .ok (.goto 4, 3) := by decide +kernel
theorem d_214_53 : decode (am_b 214) 53 = .ok (.iconst 0, 1) := by decide +kernel
theorem d_214_54 : decode (am_b 214) 54 = .ok (.ireturn, 1) := by decide +kernel
theorem d_214_55 : decode (am_b 214) 55 = .ok (.aload_n 0, 1) := by decide +kernel
theorem d_214_56 : decode (am_b 214) 56 = .ok (.dup, 1) := by decide +kernel
theorem d_214_57 : decode (am_b 214) 57 = .ok (.getfield 202, 3) := by decide +kernel
theorem d_214_60 : decode (am_b 214) 60 = .ok (.iconst 1, 1) := by decide +kernel
theorem d_214_61 : decode (am_b 214) 61 = .ok (.iadd, 1) := by decide +kernel
theorem d_214_62 : decode (am_b 214) 62 = .ok (.putfield 202, 3) := by decide +kernel
theorem d_214_65 : decode (am_b 214) 65 = .ok (.aload_n 0, 1) := by decide +kernel
theorem d_214_66 : decode (am_b 214) 66 = .ok (.invokevirtual 217, 3) := by decide +kernel
theorem d_214_69 : decode (am_b 214) 69 = .ok (.ifCond .eq 11, 3) := by decide +kernel
theorem d_214_72 : decode (am_b 214) 72 = .ok (.iload_n 2, 1) := by decide +kernel
theorem d_214_73 : decode (am_b 214) 73 = .ok (.ifCond .ne 7, 3) := by decide +kernel
theorem d_214_76 : decode (am_b 214) 76 = .ok (.iconst 1, 1) := by decide +kernel
theorem d_214_77 : decode (am_b 214) 77 = .ok (.goto 4, 3) := by decide +kernel
theorem d_214_80 : decode (am_b 214) 80 = .ok (.iconst 0, 1) := by decide +kernel
theorem d_214_81 : decode (am_b 214) 81 = .ok (.ireturn, 1) := by decide +kernel
