/-! decode rows, printed by wip/whole/gen_decparts.py -/
theorem d_285_0 : decode (am_b 285) 0 = .ok (.iload_n 2, 1) := by decide +kernel
theorem d_285_1 : decode (am_b 285) 1 = .ok (.iconst 0, 1) := by decide +kernel
theorem d_285_2 : decode (am_b 285) 2 = .ok (.ldc 152, 2) := by decide +kernel
theorem d_285_4 : decode (am_b 285) 4 = .ok (.invokestatic 106, 3) := by decide +kernel
theorem d_285_7 : decode (am_b 285) 7 = .ok (.ifCond .eq 14, 3) := by decide +kernel
theorem d_285_10 : decode (am_b 285) 10 = .ok (.iload_n 3, 1) := by decide +kernel
theorem d_285_11 : decode (am_b 285) 11 = .ok (.iconst 0, 1) := by decide +kernel
theorem d_285_12 : decode (am_b 285) 12 = .ok (.sipush 200, 3) := by decide +kernel
theorem d_285_15 : decode (am_b 285) 15 = .ok (.invokestatic 106, 3) := by decide +kernel
theorem d_285_18 : decode (am_b 285) 18 = .ok (.ifCond .ne 9, 3) := by decide +kernel
theorem d_285_21 : decode (am_b 285) 21 = .ok (.aload_n 0, 1) := by decide +kernel
theorem d_285_22 : decode (am_b 285) 22 = .ok (.iconst (-1), 1) := by decide +kernel
theorem d_285_23 : decode (am_b 285) 23 = .ok (.invokevirtual 110, 3) := by decide +kernel
theorem d_285_26 : decode (am_b 285) 26 = .ok (.ireturn, 1) := by decide +kernel
theorem d_285_27 : decode (am_b 285) 27 = .ok (.aload_n 0, 1) := by decide +kernel
theorem d_285_28 : decode (am_b 285) 28 = .ok (.iload_n 1, 1) := by decide +kernel
theorem d_285_29 : decode (am_b 285) 29 = .ok (.invokevirtual 124, 3) := by decide +kernel
theorem d_285_32 : decode (am_b 285) 32 = .ok (.ifCond .ne 10, 3) := by decide +kernel
theorem d_285_35 : decode (am_b 285) 35 = .ok (.aload_n 0, 1) := by decide +kernel
theorem d_285_36 : decode (am_b 285) 36 = .ok (.bipush (-2), 2) := by decide +kernel
theorem d_285_38 : decode (am_b 285) 38 = .ok (.invokevirtual 110, 3) := by decide +kernel
theorem d_285_41 : decode (am_b 285) 41 = .ok (.ireturn, 1) := by decide +kernel
theorem d_285_42 : decode (am_b 285) 42 = .ok (.aload_n 0, 1) := by decide +kernel
theorem d_285_43 : decode (am_b 285) 43 = .ok (.iload_n 1, 1) := by decide +kernel
theorem d_285_44 : decode (am_b 285) 44 = .ok (.invokevirtual 121, 3) := by decide +kernel
theorem d_285_47 : decode (am_b 285) 47 = .ok (.iconst 1, 1) := by decide +kernel
theorem d_285_48 : decode (am_b 285) 48 = .ok (.if_icmp .ne 10, 3) := by decide +kernel
theorem d_285_51 : decode (am_b 285) 51 = .ok (.aload_n 0, 1) := by decide +kernel
theorem d_285_52 : decode (am_b 285) 52 = .ok (.bipush (-3), 2) := by decide +kernel
theorem d_285_54 : decode (am_b 285) 54 = .ok (.invokevirtual 110, 3) := by decide +kernel
theorem d_285_57 : decode (am_b 285) 57 = .ok (.ireturn, 1) := by decide +kernel
theorem d_285_58 : decode (am_b 285) 58 = .ok (.aload_n 0, 1) := by decide +kernel
theorem d_285_59 : decode (am_b 285) 59 = .ok (.iload_n 1, 1) := by decide +kernel
theorem d_285_60 : decode (am_b 285) 60 = .ok (.invokevirtual 248, 3) := by decide +kernel
theorem d_285_63 : decode (am_b 285) 63 = .ok (.aload_n 0, 1) := by decide +kernel
theorem d_285_64 : decode (am_b 285) 64 = .ok (.iload_n 2, 1) := by decide +kernel
theorem d_285_65 : decode (am_b 285) 65 = .ok (.putfield 388, 3) := by decide +kernel
theorem d_285_68 : decode (am_b 285) 68 = .ok (.iconst 0, 1) := by decide +kernel
theorem d_285_69 : decode (am_b 285) 69 = .ok (.istore 4, 2) := by decide +kernel
theorem d_285_71 : decode (am_b 285) 71 = .ok (.iload 4, 2) := by decide +kernel
theorem d_285_73 : decode (am_b 285) 73 = .ok (.iload_n 3, 1) := by decide +kernel
theorem d_285_74 : decode (am_b 285) 74 = .ok (.if_icmp .ge 62, 3) := by decide +kernel
theorem d_285_77 : decode (am_b 285) 77 = .ok (.aload_n 0, 1) := by decide +kernel
theorem d_285_78 : decode (am_b 285) 78 = .ok (.aload_n 0, 1) := by decide +kernel
theorem d_285_79 : decode (am_b 285) 79 = .ok (.getfield 127, 3) := by decide +kernel
theorem d_285_82 : decode (am_b 285) 82 = .ok (.invokevirtual 395, 3) := by decide +kernel
theorem d_285_85 : decode (am_b 285) 85 = .ok (.istore 5, 2) := by decide +kernel
theorem d_285_87 : decode (am_b 285) 87 = .ok (.aload_n 0, 1) := by decide +kernel
theorem d_285_88 : decode (am_b 285) 88 = .ok (.aload_n 0, 1) := by decide +kernel
theorem d_285_89 : decode (am_b 285) 89 = .ok (.getfield 127, 3) := by decide +kernel
theorem d_285_92 : decode (am_b 285) 92 = .ok (.iconst 1, 1) := by decide +kernel
theorem d_285_93 : decode (am_b 285) 93 = .ok (.isub, 1) := by decide +kernel
theorem d_285_94 : decode (am_b 285) 94 = .ok (.invokevirtual 395, 3) := by decide +kernel
theorem d_285_97 : decode (am_b 285) 97 = .ok (.istore 6, 2) := by decide +kernel
theorem d_285_99 : decode (am_b 285) 99 = .ok (.aload_n 0, 1) := by decide +kernel
theorem d_285_100 : decode (am_b 285) 100 = .ok (.iload 5, 2) := by decide +kernel
theorem d_285_102 : decode (am_b 285) 102 = .ok (.iload 6, 2) := by decide +kernel
theorem d_285_104 : decode (am_b 285) 104 = .ok (.iload 5, 2) := by decide +kernel
theorem d_285_106 : decode (am_b 285) 106 = .ok (.if_icmp .lt 10, 3) := by decide +kernel
theorem d_285_109 : decode (am_b 285) 109 = .ok (.iload 6, 2) := by decide +kernel
theorem d_285_111 : decode (am_b 285) 111 = .ok (.iconst 1, 1) := by decide +kernel
theorem d_285_112 : decode (am_b 285) 112 = .ok (.iadd, 1) := by decide +kernel
theorem d_285_113 : decode (am_b 285) 113 = .ok (.goto 5, 3) := by decide +kernel
theorem d_285_116 : decode (am_b 285) 116 = .ok (.iload 6, 2) := by decide +kernel
theorem d_285_118 : decode (am_b 285) 118 = .ok (.aload_n 0, 1) := by decide +kernel
theorem d_285_119 : decode (am_b 285) 119 = .ok (.aload_n 0, 1) := by decide +kernel
theorem d_285_120 : decode (am_b 285) 120 = .ok (.getfield 127, 3) := by decide +kernel
theorem d_285_123 : decode (am_b 285) 123 = .ok (.invokevirtual 395, 3) := by decide +kernel
theorem d_285_126 : decode (am_b 285) 126 = .ok (.invokevirtual 279, 3) := by decide +kernel
theorem d_285_129 : decode (am_b 285) 129 = .ok (.pop, 1) := by decide +kernel
theorem d_285_130 : decode (am_b 285) 130 = .ok (.iinc 4 1, 3) := by decide +kernel
theorem d_285_133 : decode (am_b 285) 133 = .ok (.goto (-62), 3) := by decide +kernel
theorem d_285_136 : decode (am_b 285) 136 = .ok (.aload_n 0, 1) := by decide +kernel
theorem d_285_137 : decode (am_b 285) 137 = .ok (.aload_n 0, 1) := by decide +kernel
theorem d_285_138 : decode (am_b 285) 138 = .ok (.getfield 127, 3) := by decide +kernel
theorem d_285_141 : decode (am_b 285) 141 = .ok (.putfield 398, 3) := by decide +kernel
theorem d_285_144 : decode (am_b 285) 144 = .ok (.iconst 0, 1) := by decide +kernel
theorem d_285_145 : decode (am_b 285) 145 = .ok (.istore 4, 2) := by decide +kernel
theorem d_285_147 : decode (am_b 285) 147 = .ok (.iconst 0, 1) := by decide +kernel
theorem d_285_148 : decode (am_b 285) 148 = .ok (.istore 5, 2) := by decide +kernel
theorem d_285_150 : decode (am_b 285) 150 = .ok (.iload 5, 2) := by decide +kernel
theorem d_285_152 : decode (am_b 285) 152 = .ok (.aload_n 0, 1) := by decide +kernel
theorem d_285_153 : decode (am_b 285) 153 = .ok (.getfield 127, 3) := by decide +kernel
theorem d_285_156 : decode (am_b 285) 156 = .ok (.aload_n 0, 1) := by decide +kernel
theorem d_285_157 : decode (am_b 285) 157 = .ok (.getfield 127, 3) := by decide +kernel
theorem d_285_160 : decode (am_b 285) 160 = .ok (.imul, 1) := by decide +kernel
theorem d_285_161 : decode (am_b 285) 161 = .ok (.if_icmp .ge 57, 3) := by decide +kernel
theorem d_285_164 : decode (am_b 285) 164 = .ok (.aload_n 0, 1) := by decide +kernel
theorem d_285_165 : decode (am_b 285) 165 = .ok (.getfield 97, 3) := by decide +kernel
theorem d_285_168 : decode (am_b 285) 168 = .ok (.iload 5, 2) := by decide +kernel
theorem d_285_170 : decode (am_b 285) 170 = .ok (.aload_n 0, 1) := by decide +kernel
theorem d_285_171 : decode (am_b 285) 171 = .ok (.getfield 23, 3) := by decide +kernel
theorem d_285_174 : decode (am_b 285) 174 = .ok (.iload 5, 2) := by decide +kernel
theorem d_285_176 : decode (am_b 285) 176 = .ok (.iaload, 1) := by decide +kernel
theorem d_285_177 : decode (am_b 285) 177 = .ok (.iastore, 1) := by decide +kernel
theorem d_285_178 : decode (am_b 285) 178 = .ok (.iload 4, 2) := by decide +kernel
theorem d_285_180 : decode (am_b 285) 180 = .ok (.aload_n 0, 1) := by decide +kernel
theorem d_285_181 : decode (am_b 285) 181 = .ok (.getfield 23, 3) := by decide +kernel
theorem d_285_184 : decode (am_b 285) 184 = .ok (.iload 5, 2) := by decide +kernel
theorem d_285_186 : decode (am_b 285) 186 = .ok (.iaload, 1) := by decide +kernel
theorem d_285_187 : decode (am_b 285) 187 = .ok (.aload_n 0, 1) := by decide +kernel
theorem d_285_188 : decode (am_b 285) 188 = .ok (.getfield 13, 3) := by decide +kernel
theorem d_285_191 : decode (am_b 285) 191 = .ok (.bipush 37, 2) := by decide +kernel
theorem d_285_193 : decode (am_b 285) 193 = .ok (.iload_n 1, 1) := by decide +kernel
theorem d_285_194 : decode (am_b 285) 194 = .ok (.imul, 1) := by decide +kernel
theorem d_285_195 : decode (am_b 285) 195 = .ok (.iconst 1, 1) := by decide +kernel
theorem d_285_196 : decode (am_b 285) 196 = .ok (.iadd, 1) := by decide +kernel
theorem d_285_197 : decode (am_b 285) 197 = .ok (.iload 5, 2) := by decide +kernel
theorem d_285_199 : decode (am_b 285) 199 = .ok (.iadd, 1) := by decide +kernel
theorem d_285_200 : decode (am_b 285) 200 = .ok (.iaload, 1) := by decide +kernel
theorem d_285_201 : decode (am_b 285) 201 = .ok (.if_icmp .ne 7, 3) := by decide +kernel
theorem d_285_204 : decode (am_b 285) 204 = .ok (.iconst 0, 1) := by decide +kernel
theorem d_285_205 : decode (am_b 285) 205 = .ok (.goto 4, 3) := by decide +kernel
theorem d_285_208 : decode (am_b 285) 208 = .ok (.iconst 1, 1) := by decide +kernel
theorem d_285_209 : decode (am_b 285) 209 = .ok (.iadd, 1) := by decide +kernel
theorem d_285_210 : decode (am_b 285) 210 = .ok (.istore 4, 2) := by decide +kernel
theorem d_285_212 : decode (am_b 285) 212 = .ok (.iinc 5 1, 3) := by decide +kernel
theorem d_285_215 : decode (am_b 285) 215 = .ok (.goto (-65), 3) := by decide +kernel
theorem d_285_218 : decode (am_b 285) 218 = .ok (.aload_n 0, 1) := by decide +kernel
theorem d_285_219 : decode (am_b 285) 219 = .ok (.iload 4, 2) := by decide +kernel
theorem d_285_221 : decode (am_b 285) 221 = .ok (.invokevirtual 114, 3) := by decide +kernel
theorem d_285_224 : decode (am_b 285) 224 = .ok (.ireturn, 1) := by decide +kernel
theorem d_286_0 : decode (am_b 286) 0 = .ok (.aload_n 0, 1) := by decide +kernel
theorem d_286_1 : decode (am_b 286) 1 = .ok (.ldc2_w 386, 3) := by decide +kernel
theorem d_286_4 : decode (am_b 286) 4 = .ok (.aload_n 0, 1) := by decide +kernel
theorem d_286_5 : decode (am_b 286) 5 = .ok (.getfield 388, 3) := by decide +kernel
theorem d_286_8 : decode (am_b 286) 8 = .ok (.i2l, 1) := by decide +kernel
theorem d_286_9 : decode (am_b 286) 9 = .ok (.lmul, 1) := by decide +kernel
theorem d_286_10 : decode (am_b 286) 10 = .ok (.ldc2_w 391, 3) := by decide +kernel
theorem d_286_13 : decode (am_b 286) 13 = .ok (.ladd, 1) := by decide +kernel
theorem d_286_14 : decode (am_b 286) 14 = .ok (.ldc2_w 393, 3) := by decide +kernel
theorem d_286_17 : decode (am_b 286) 17 = .ok (.lrem, 1) := by decide +kernel
theorem d_286_18 : decode (am_b 286) 18 = .ok (.l2i, 1) := by decide +kernel
theorem d_286_19 : decode (am_b 286) 19 = .ok (.putfield 388, 3) := by decide +kernel
theorem d_286_22 : decode (am_b 286) 22 = .ok (.aload_n 0, 1) := by decide +kernel
theorem d_286_23 : decode (am_b 286) 23 = .ok (.getfield 388, 3) := by decide +kernel
theorem d_286_26 : decode (am_b 286) 26 = .ok (.iload_n 1, 1) := by decide +kernel
theorem d_286_27 : decode (am_b 286) 27 = .ok (.irem, 1) := by decide +kernel
theorem d_286_28 : decode (am_b 286) 28 = .ok (.ireturn, 1) := by decide +kernel
theorem d_287_0 : decode (am_b 287) 0 = .ok (.iload_n 1, 1) := by decide +kernel
theorem d_287_1 : decode (am_b 287) 1 = .ok (.iconst 0, 1) := by decide +kernel
theorem d_287_2 : decode (am_b 287) 2 = .ok (.aload_n 0, 1) := by decide +kernel
theorem d_287_3 : decode (am_b 287) 3 = .ok (.getfield 398, 3) := by decide +kernel
theorem d_287_6 : decode (am_b 287) 6 = .ok (.iconst 1, 1) := by decide +kernel
theorem d_287_7 : decode (am_b 287) 7 = .ok (.isub, 1) := by decide +kernel
theorem d_287_8 : decode (am_b 287) 8 = .ok (.invokestatic 106, 3) := by decide +kernel
theorem d_287_11 : decode (am_b 287) 11 = .ok (.ifCond .eq 33, 3) := by decide +kernel
theorem d_287_14 : decode (am_b 287) 14 = .ok (.iload_n 2, 1) := by decide +kernel
theorem d_287_15 : decode (am_b 287) 15 = .ok (.iconst 0, 1) := by decide +kernel
theorem d_287_16 : decode (am_b 287) 16 = .ok (.aload_n 0, 1) := by decide +kernel
theorem d_287_17 : decode (am_b 287) 17 = .ok (.getfield 398, 3) := by decide +kernel
theorem d_287_20 : decode (am_b 287) 20 = .ok (.iconst 1, 1) := by decide +kernel
theorem d_287_21 : decode (am_b 287) 21 = .ok (.isub, 1) := by decide +kernel
theorem d_287_22 : decode (am_b 287) 22 = .ok (.invokestatic 106, 3) := by decide +kernel
theorem d_287_25 : decode (am_b 287) 25 = .ok (.ifCond .eq 19, 3) := by decide +kernel
theorem d_287_28 : decode (am_b 287) 28 = .ok (.aload_n 0, 1) := by decide +kernel
theorem d_287_29 : decode (am_b 287) 29 = .ok (.getfield 97, 3) := by decide +kernel
theorem d_287_32 : decode (am_b 287) 32 = .ok (.aload_n 0, 1) := by decide +kernel
theorem d_287_33 : decode (am_b 287) 33 = .ok (.getfield 398, 3) := by decide +kernel
theorem d_287_36 : decode (am_b 287) 36 = .ok (.iload_n 1, 1) := by decide +kernel
theorem d_287_37 : decode (am_b 287) 37 = .ok (.imul, 1) := by decide +kernel
theorem d_287_38 : decode (am_b 287) 38 = .ok (.iload_n 2, 1) := by decide +kernel
theorem d_287_39 : decode (am_b 287) 39 = .ok (.iadd, 1) := by decide +kernel
theorem d_287_40 : decode (am_b 287) 40 = .ok (.iaload, 1) := by decide +kernel
theorem d_287_41 : decode (am_b 287) 41 = .ok (.goto 4, 3) := by decide +kernel
theorem d_287_44 : decode (am_b 287) 44 = .ok (.iconst (-1), 1) := by decide +kernel
theorem d_287_45 : decode (am_b 287) 45 = .ok (.ireturn, 1) := by decide +kernel
theorem d_288_0 : decode (am_b 288) 0 = .ok (.iconst 0, 1) := by decide +kernel
theorem d_288_1 : decode (am_b 288) 1 = .ok (.istore_n 2, 1) := by decide +kernel
theorem d_288_2 : decode (am_b 288) 2 = .ok (.iconst 0, 1) := by decide +kernel
theorem d_288_3 : decode (am_b 288) 3 = .ok (.istore_n 3, 1) := by decide +kernel
theorem d_288_4 : decode (am_b 288) 4 = .ok (.iload_n 3, 1) := by decide +kernel
theorem d_288_5 : decode (am_b 288) 5 = .ok (.bipush 6, 2) := by decide +kernel
theorem d_288_7 : decode (am_b 288) 7 = .ok (.if_icmp .ge 25, 3) := by decide +kernel
theorem d_288_10 : decode (am_b 288) 10 = .ok (.iload_n 2, 1) := by decide +kernel
theorem d_288_11 : decode (am_b 288) 11 = .ok (.aload_n 0, 1) := by decide +kernel
theorem d_288_12 : decode (am_b 288) 12 = .ok (.iload_n 3, 1) := by decide +kernel
theorem d_288_13 : decode (am_b 288) 13 = .ok (.invokevirtual 124, 3) := by decide +kernel
theorem d_288_16 : decode (am_b 288) 16 = .ok (.ifCond .eq 7, 3) := by decide +kernel
theorem d_288_19 : decode (am_b 288) 19 = .ok (.iconst 1, 1) := by decide +kernel
theorem d_288_20 : decode (am_b 288) 20 = .ok (.goto 4, 3) := by decide +kernel
theorem d_288_23 : decode (am_b 288) 23 = .ok (.iconst 0, 1) := by decide +kernel
theorem d_288_24 : decode (am_b 288) 24 = .ok (.iadd, 1) := by decide +kernel
theorem d_288_25 : decode (am_b 288) 25 = .ok (.istore_n 2, 1) := by decide +kernel
theorem d_288_26 : decode (am_b 288) 26 = .ok (.iinc 3 1, 3) := by decide +kernel
theorem d_288_29 : decode (am_b 288) 29 = .ok (.goto (-25), 3) := by decide +kernel
theorem d_288_32 : decode (am_b 288) 32 = .ok (.iconst 0, 1) := by decide +kernel
theorem d_288_33 : decode (am_b 288) 33 = .ok (.istore_n 3, 1) := by decide +kernel
theorem d_288_34 : decode (am_b 288) 34 = .ok (.iconst 0, 1) := by decide +kernel
theorem d_288_35 : decode (am_b 288) 35 = .ok (.istore 4, 2) := by decide +kernel
theorem d_288_37 : decode (am_b 288) 37 = .ok (.iload 4, 2) := by decide +kernel
theorem d_288_39 : decode (am_b 288) 39 = .ok (.aload_n 0, 1) := by decide +kernel
theorem d_288_40 : decode (am_b 288) 40 = .ok (.getfield 13, 3) := by decide +kernel
theorem d_288_43 : decode (am_b 288) 43 = .ok (.sipush 222, 3) := by decide +kernel
theorem d_288_46 : decode (am_b 288) 46 = .ok (.iaload, 1) := by decide +kernel
theorem d_288_47 : decode (am_b 288) 47 = .ok (.aload_n 0, 1) := by decide +kernel
theorem d_288_48 : decode (am_b 288) 48 = .ok (.getfield 13, 3) := by decide +kernel
theorem d_288_51 : decode (am_b 288) 51 = .ok (.sipush 222, 3) := by decide +kernel
theorem d_288_54 : decode (am_b 288) 54 = .ok (.iaload, 1) := by decide +kernel
theorem d_288_55 : decode (am_b 288) 55 = .ok (.imul, 1) := by decide +kernel
theorem d_288_56 : decode (am_b 288) 56 = .ok (.if_icmp .ge 32, 3) := by decide +kernel
theorem d_288_59 : decode (am_b 288) 59 = .ok (.iload_n 3, 1) := by decide +kernel
theorem d_288_60 : decode (am_b 288) 60 = .ok (.aload_n 0, 1) := by decide +kernel
theorem d_288_61 : decode (am_b 288) 61 = .ok (.getfield 13, 3) := by decide +kernel
theorem d_288_64 : decode (am_b 288) 64 = .ok (.sipush 223, 3) := by decide +kernel
theorem d_288_67 : decode (am_b 288) 67 = .ok (.iload 4, 2) := by decide +kernel
theorem d_288_69 : decode (am_b 288) 69 = .ok (.iadd, 1) := by decide +kernel
theorem d_288_70 : decode (am_b 288) 70 = .ok (.iaload, 1) := by decide +kernel
theorem d_288_71 : decode (am_b 288) 71 = .ok (.iconst (-1), 1) := by decide +kernel
theorem d_288_72 : decode (am_b 288) 72 = .ok (.if_icmp .ne 7, 3) := by decide +kernel
theorem d_288_75 : decode (am_b 288) 75 = .ok (.iconst 0, 1) := by decide +kernel
theorem d_288_76 : decode (am_b 288) 76 = .ok (.goto 4, 3) := by decide +kernel
theorem d_288_79 : decode (am_b 288) 79 = .ok (.iconst 1, 1) := by decide +kernel
theorem d_288_80 : decode (am_b 288) 80 = .ok (.iadd, 1) := by decide +kernel
theorem d_288_81 : decode (am_b 288) 81 = .ok (.istore_n 3, 1) := by decide +kernel
theorem d_288_82 : decode (am_b 288) 82 = .ok (.iinc 4 1, 3) := by decide +kernel
theorem d_288_85 : decode (am_b 288) 85 = .ok (.goto (-48), 3) := by decide +kernel
theorem d_288_88 : decode (am_b 288) 88 = .ok (.iload_n 1, 1) := by decide +kernel
theorem d_288_89 : decode (am_b 288) 89 = .ok (.tableswitch 141 0 11 #[63, 65, 74, 83, 85, 90, 90, 90, 99, 106, 114, 123], 63) := by decide +kernel
theorem d_288_152 : decode (am_b 288) 152 = .ok (.iload_n 2, 1) := by decide +kernel
theorem d_288_153 : decode (am_b 288) 153 = .ok (.ireturn, 1) := by decide +kernel
theorem d_288_154 : decode (am_b 288) 154 = .ok (.aload_n 0, 1) := by decide +kernel
theorem d_288_155 : decode (am_b 288) 155 = .ok (.getfield 13, 3) := by decide +kernel
theorem d_288_158 : decode (am_b 288) 158 = .ok (.sipush 2509, 3) := by decide +kernel
theorem d_288_161 : decode (am_b 288) 161 = .ok (.iaload, 1) := by decide +kernel
theorem d_288_162 : decode (am_b 288) 162 = .ok (.ireturn, 1) := by decide +kernel
theorem d_288_163 : decode (am_b 288) 163 = .ok (.aload_n 0, 1) := by decide +kernel
theorem d_288_164 : decode (am_b 288) 164 = .ok (.getfield 13, 3) := by decide +kernel
theorem d_288_167 : decode (am_b 288) 167 = .ok (.sipush 222, 3) := by decide +kernel
theorem d_288_170 : decode (am_b 288) 170 = .ok (.iaload, 1) := by decide +kernel
theorem d_288_171 : decode (am_b 288) 171 = .ok (.ireturn, 1) := by decide +kernel
theorem d_288_172 : decode (am_b 288) 172 = .ok (.iload_n 3, 1) := by decide +kernel
theorem d_288_173 : decode (am_b 288) 173 = .ok (.ireturn, 1) := by decide +kernel
theorem d_288_174 : decode (am_b 288) 174 = .ok (.aload_n 0, 1) := by decide +kernel
theorem d_288_175 : decode (am_b 288) 175 = .ok (.getfield 137, 3) := by decide +kernel
theorem d_288_178 : decode (am_b 288) 178 = .ok (.ireturn, 1) := by decide +kernel
theorem d_288_179 : decode (am_b 288) 179 = .ok (.aload_n 0, 1) := by decide +kernel
theorem d_288_180 : decode (am_b 288) 180 = .ok (.getfield 9, 3) := by decide +kernel
theorem d_288_183 : decode (am_b 288) 183 = .ok (.iload_n 1, 1) := by decide +kernel
theorem d_288_184 : decode (am_b 288) 184 = .ok (.iconst 4, 1) := by decide +kernel
theorem d_288_185 : decode (am_b 288) 185 = .ok (.isub, 1) := by decide +kernel
theorem d_288_186 : decode (am_b 288) 186 = .ok (.iaload, 1) := by decide +kernel
theorem d_288_187 : decode (am_b 288) 187 = .ok (.ireturn, 1) := by decide +kernel
theorem d_288_188 : decode (am_b 288) 188 = .ok (.aload_n 0, 1) := by decide +kernel
theorem d_288_189 : decode (am_b 288) 189 = .ok (.getfield 9, 3) := by decide +kernel
theorem d_288_192 : decode (am_b 288) 192 = .ok (.iconst 5, 1) := by decide +kernel
theorem d_288_193 : decode (am_b 288) 193 = .ok (.iaload, 1) := by decide +kernel
theorem d_288_194 : decode (am_b 288) 194 = .ok (.ireturn, 1) := by decide +kernel
theorem d_288_195 : decode (am_b 288) 195 = .ok (.aload_n 0, 1) := by decide +kernel
theorem d_288_196 : decode (am_b 288) 196 = .ok (.getfield 9, 3) := by decide +kernel
theorem d_288_199 : decode (am_b 288) 199 = .ok (.bipush 6, 2) := by decide +kernel
theorem d_288_201 : decode (am_b 288) 201 = .ok (.iaload, 1) := by decide +kernel
theorem d_288_202 : decode (am_b 288) 202 = .ok (.ireturn, 1) := by decide +kernel
theorem d_288_203 : decode (am_b 288) 203 = .ok (.aload_n 0, 1) := by decide +kernel
theorem d_288_204 : decode (am_b 288) 204 = .ok (.getfield 13, 3) := by decide +kernel
theorem d_288_207 : decode (am_b 288) 207 = .ok (.sipush 2510, 3) := by decide +kernel
theorem d_288_210 : decode (am_b 288) 210 = .ok (.iaload, 1) := by decide +kernel
theorem d_288_211 : decode (am_b 288) 211 = .ok (.ireturn, 1) := by decide +kernel
theorem d_288_212 : decode (am_b 288) 212 = .ok (.aload_n 0, 1) := by decide +kernel
theorem d_288_213 : decode (am_b 288) 213 = .ok (.getfield 13, 3) := by decide +kernel
theorem d_288_216 : decode (am_b 288) 216 = .ok (.sipush 2511, 3) := by decide +kernel
theorem d_288_219 : decode (am_b 288) 219 = .ok (.iaload, 1) := by decide +kernel
theorem d_288_220 : decode (am_b 288) 220 = .ok (.aload_n 0, 1) := by decide +kernel
theorem d_288_221 : decode (am_b 288) 221 = .ok (.getfield 13, 3) := by decide +kernel
theorem d_288_224 : decode (am_b 288) 224 = .ok (.sipush 2510, 3) := by decide +kernel
theorem d_288_227 : decode (am_b 288) 227 = .ok (.iaload, 1) := by decide +kernel
theorem d_288_228 : decode (am_b 288) 228 = .ok (.isub, 1) := by decide +kernel
theorem d_288_229 : decode (am_b 288) 229 = .ok (.ireturn, 1) := by decide +kernel
theorem d_288_230 : decode (am_b 288) 230 = .ok (.iconst (-1), 1) := by decide +kernel
theorem d_288_231 : decode (am_b 288) 231 = .ok (.ireturn, 1) := by decide +kernel
theorem d_289_0 : decode (am_b 289) 0 = .ok (.aload_n 0, 1) := by decide +kernel
theorem d_289_1 : decode (am_b 289) 1 = .ok (.getfield 100, 3) := by decide +kernel
theorem d_289_4 : decode (am_b 289) 4 = .ok (.ireturn, 1) := by decide +kernel
theorem d_290_0 : decode (am_b 290) 0 = .ok (.iload_n 0, 1) := by decide +kernel
theorem d_290_1 : decode (am_b 290) 1 = .ok (.iload_n 0, 1) := by decide +kernel
theorem d_290_2 : decode (am_b 290) 2 = .ok (.iconst 1, 1) := by decide +kernel
theorem d_290_3 : decode (am_b 290) 3 = .ok (.iushr, 1) := by decide +kernel
theorem d_290_4 : decode (am_b 290) 4 = .ok (.ldc_w 265, 3) := by decide +kernel
theorem d_290_7 : decode (am_b 290) 7 = .ok (.iand, 1) := by decide +kernel
theorem d_290_8 : decode (am_b 290) 8 = .ok (.isub, 1) := by decide +kernel
theorem d_290_9 : decode (am_b 290) 9 = .ok (.istore_n 0, 1) := by decide +kernel
theorem d_290_10 : decode (am_b 290) 10 = .ok (.iload_n 0, 1) := by decide +kernel
theorem d_290_11 : decode (am_b 290) 11 = .ok (.ldc_w 266, 3) := by decide +kernel
theorem d_290_14 : decode (am_b 290) 14 = .ok (.iand, 1) := by decide +kernel
theorem d_290_15 : decode (am_b 290) 15 = .ok (.iload_n 0, 1) := by decide +kernel
theorem d_290_16 : decode (am_b 290) 16 = .ok (.iconst 2, 1) := by decide +kernel
theorem d_290_17 : decode (am_b 290) 17 = .ok (.iushr, 1) := by decide +kernel
theorem d_290_18 : decode (am_b 290) 18 = .ok (.ldc_w 266, 3) := by decide +kernel
theorem d_290_21 : decode (am_b 290) 21 = .ok (.iand, 1) := by decide +kernel
theorem d_290_22 : decode (am_b 290) 22 = .ok (.iadd, 1) := by decide +kernel
theorem d_290_23 : decode (am_b 290) 23 = .ok (.istore_n 0, 1) := by decide +kernel
theorem d_290_24 : decode (am_b 290) 24 = .ok (.iload_n 0, 1) := by decide +kernel
theorem d_290_25 : decode (am_b 290) 25 = .ok (.iload_n 0, 1) := by decide +kernel
theorem d_290_26 : decode (am_b 290) 26 = .ok (.iconst 4, 1) := by decide +kernel
theorem d_290_27 : decode (am_b 290) 27 = .ok (.iushr, 1) := by decide +kernel
theorem d_290_28 : decode (am_b 290) 28 = .ok (.iadd, 1) := by decide +kernel
theorem d_290_29 : decode (am_b 290) 29 = .ok (.ldc_w 267, 3) := by decide +kernel
theorem d_290_32 : decode (am_b 290) 32 = .ok (.iand, 1) := by decide +kernel
theorem d_290_33 : decode (am_b 290) 33 = .ok (.istore_n 0, 1) := by decide +kernel
theorem d_290_34 : decode (am_b 290) 34 = .ok (.iload_n 0, 1) := by decide +kernel
theorem d_290_35 : decode (am_b 290) 35 = .ok (.iload_n 0, 1) := by decide +kernel
theorem d_290_36 : decode (am_b 290) 36 = .ok (.bipush 8, 2) := by decide +kernel
theorem d_290_38 : decode (am_b 290) 38 = .ok (.iushr, 1) := by decide +kernel
theorem d_290_39 : decode (am_b 290) 39 = .ok (.iadd, 1) := by decide +kernel
theorem d_290_40 : decode (am_b 290) 40 = .ok (.istore_n 0, 1) := by decide +kernel
theorem d_290_41 : decode (am_b 290) 41 = .ok (.iload_n 0, 1) := by decide +kernel
theorem d_290_42 : decode (am_b 290) 42 = .ok (.iload_n 0, 1) := by decide +kernel
theorem d_290_43 : decode (am_b 290) 43 = .ok (.bipush 16, 2) := by decide +kernel
theorem d_290_45 : decode (am_b 290) 45 = .ok (.iushr, 1) := by decide +kernel
theorem d_290_46 : decode (am_b 290) 46 = .ok (.iadd, 1) := by decide +kernel
theorem d_290_47 : decode (am_b 290) 47 = .ok (.istore_n 0, 1) := by decide +kernel
theorem d_290_48 : decode (am_b 290) 48 = .ok (.iload_n 0, 1) := by decide +kernel
theorem d_290_49 : decode (am_b 290) 49 = .ok (.bipush 63, 2) := by decide +kernel
theorem d_290_51 : decode (am_b 290) 51 = .ok (.iand, 1) := by decide +kernel
theorem d_290_52 : decode (am_b 290) 52 = .ok (.ireturn, 1) := by decide +kernel
theorem d_291_0 : decode (am_b 291) 0 = .ok (.iload_n 0, 1) := by decide +kernel
theorem d_291_1 : decode (am_b 291) 1 = .ok (.iconst (-1), 1) := by decide +kernel
theorem d_291_2 : decode (am_b 291) 2 = .ok (.ixor, 1) := by decide +kernel
theorem d_291_3 : decode (am_b 291) 3 = .ok (.iload_n 0, 1) := by decide +kernel
theorem d_291_4 : decode (am_b 291) 4 = .ok (.iconst 1, 1) := by decide +kernel
theorem d_291_5 : decode (am_b 291) 5 = .ok (.isub, 1) := by decide +kernel
theorem d_291_6 : decode (am_b 291) 6 = .ok (.iand, 1) := by decide +kernel
theorem d_291_7 : decode (am_b 291) 7 = .ok (.istore_n 0, 1) := by decide +kernel
theorem d_291_8 : decode (am_b 291) 8 = .ok (.iload_n 0, 1) := by decide +kernel
theorem d_291_9 : decode (am_b 291) 9 = .ok (.ifCond .gt 8, 3) := by decide +kernel
theorem d_291_12 : decode (am_b 291) 12 = .ok (.iload_n 0, 1) := by decide +kernel
theorem d_291_13 : decode (am_b 291) 13 = .ok (.bipush 32, 2) := by decide +kernel
theorem d_291_15 : decode (am_b 291) 15 = .ok (.iand, 1) := by decide +kernel
theorem d_291_16 : decode (am_b 291) 16 = .ok (.ireturn, 1) := by decide +kernel
theorem d_291_17 : decode (am_b 291) 17 = .ok (.iconst 1, 1) := by decide +kernel
theorem d_291_18 : decode (am_b 291) 18 = .ok (.istore_n 1, 1) := by decide +kernel
theorem d_291_19 : decode (am_b 291) 19 = .ok (.iload_n 0, 1) := by decide +kernel
theorem d_291_20 : decode (am_b 291) 20 = .ok (.ldc_w 264, 3) := by decide +kernel
theorem d_291_23 : decode (am_b 291) 23 = .ok (.if_icmp .le 11, 3) := by decide +kernel
theorem d_291_26 : decode (am_b 291) 26 = .ok (.iinc 1 16, 3) := by decide +kernel
theorem d_291_29 : decode (am_b 291) 29 = .ok (.iload_n 0, 1) := by decide +kernel
theorem d_291_30 : decode (am_b 291) 30 = .ok (.bipush 16, 2) := by decide +kernel
theorem d_291_32 : decode (am_b 291) 32 = .ok (.iushr, 1) := by decide +kernel
theorem d_291_33 : decode (am_b 291) 33 = .ok (.istore_n 0, 1) := by decide +kernel
theorem d_291_34 : decode (am_b 291) 34 = .ok (.iload_n 0, 1) := by decide +kernel
theorem d_291_35 : decode (am_b 291) 35 = .ok (.sipush 256, 3) := by decide +kernel
theorem d_291_38 : decode (am_b 291) 38 = .ok (.if_icmp .le 11, 3) := by decide +kernel
theorem d_291_41 : decode (am_b 291) 41 = .ok (.iinc 1 8, 3) := by decide +kernel
theorem d_291_44 : decode (am_b 291) 44 = .ok (.iload_n 0, 1) := by decide +kernel
theorem d_291_45 : decode (am_b 291) 45 = .ok (.bipush 8, 2) := by decide +kernel
theorem d_291_47 : decode (am_b 291) 47 = .ok (.iushr, 1) := by decide +kernel
theorem d_291_48 : decode (am_b 291) 48 = .ok (.istore_n 0, 1) := by decide +kernel
theorem d_291_49 : decode (am_b 291) 49 = .ok (.iload_n 0, 1) := by decide +kernel
theorem d_291_50 : decode (am_b 291) 50 = .ok (.bipush 16, 2) := by decide +kernel
theorem d_291_52 : decode (am_b 291) 52 = .ok (.if_icmp .le 10, 3) := by decide +kernel
theorem d_291_55 : decode (am_b 291) 55 = .ok (.iinc 1 4, 3) := by decide +kernel
theorem d_291_58 : decode (am_b 291) 58 = .ok (.iload_n 0, 1) := by decide +kernel
theorem d_291_59 : decode (am_b 291) 59 = .ok (.iconst 4, 1) := by decide +kernel
theorem d_291_60 : decode (am_b 291) 60 = .ok (.iushr, 1) := by decide +kernel
theorem d_291_61 : decode (am_b 291) 61 = .ok (.istore_n 0, 1) := by decide +kernel
theorem d_291_62 : decode (am_b 291) 62 = .ok (.iload_n 0, 1) := by decide +kernel
theorem d_291_63 : decode (am_b 291) 63 = .ok (.iconst 4, 1) := by decide +kernel
theorem d_291_64 : decode (am_b 291) 64 = .ok (.if_icmp .le 10, 3) := by decide +kernel
theorem d_291_67 : decode (am_b 291) 67 = .ok (.iinc 1 2, 3) := by decide +kernel
theorem d_291_70 : decode (am_b 291) 70 = .ok (.iload_n 0, 1) := by decide +kernel
theorem d_291_71 : decode (am_b 291) 71 = .ok (.iconst 2, 1) := by decide +kernel
theorem d_291_72 : decode (am_b 291) 72 = .ok (.iushr, 1) := by decide +kernel
theorem d_291_73 : decode (am_b 291) 73 = .ok (.istore_n 0, 1) := by decide +kernel
theorem d_291_74 : decode (am_b 291) 74 = .ok (.iload_n 1, 1) := by decide +kernel
theorem d_291_75 : decode (am_b 291) 75 = .ok (.iload_n 0, 1) := by decide +kernel
theorem d_291_76 : decode (am_b 291) 76 = .ok (.iconst 1, 1) := by decide +kernel
theorem d_291_77 : decode (am_b 291) 77 = .ok (.iushr, 1) := by decide +kernel
theorem d_291_78 : decode (am_b 291) 78 = .ok (.iadd, 1) := by decide +kernel
theorem d_291_79 : decode (am_b 291) 79 = .ok (.ireturn, 1) := by decide +kernel
theorem d_292_0 : decode (am_b 292) 0 = .ok (.iload_n 1, 1) := by decide +kernel
theorem d_292_1 : decode (am_b 292) 1 = .ok (.aload_n 0, 1) := by decide +kernel
theorem d_292_2 : decode (am_b 292) 2 = .ok (.arraylength, 1) := by decide +kernel
theorem d_292_3 : decode (am_b 292) 3 = .ok (.if_icmp .ne 11, 3) := by decide +kernel
theorem d_292_6 : decode (am_b 292) 6 = .ok (.aload_n 0, 1) := by decide +kernel
theorem d_292_7 : decode (am_b 292) 7 = .ok (.invokevirtual 316, 3) := by decide +kernel
theorem d_292_10 : decode (am_b 292) 10 = .ok (.checkcast 317, 3) := by decide +kernel
theorem d_292_13 : decode (am_b 292) 13 = .ok (.areturn, 1) := by decide +kernel
theorem d_292_14 : decode (am_b 292) 14 = .ok (.iload_n 1, 1) := by decide +kernel
theorem d_292_15 : decode (am_b 292) 15 = .ok (.newarray .int, 2) := by decide +kernel
theorem d_292_17 : decode (am_b 292) 17 = .ok (.astore_n 2, 1) := by decide +kernel
theorem d_292_18 : decode (am_b 292) 18 = .ok (.aload_n 0, 1) := by decide +kernel
theorem d_292_19 : decode (am_b 292) 19 = .ok (.iconst 0, 1) := by decide +kernel
theorem d_292_20 : decode (am_b 292) 20 = .ok (.aload_n 2, 1) := by decide +kernel
theorem d_292_21 : decode (am_b 292) 21 = .ok (.iconst 0, 1) := by decide +kernel
theorem d_292_22 : decode (am_b 292) 22 = .ok (.aload_n 0, 1) := by decide +kernel
theorem d_292_23 : decode (am_b 292) 23 = .ok (.arraylength, 1) := by decide +kernel
theorem d_292_24 : decode (am_b 292) 24 = .ok (.iload_n 1, 1) := by decide +kernel
theorem d_292_25 : decode (am_b 292) 25 = .ok (.invokestatic 304, 3) := by decide +kernel
theorem d_292_28 : decode (am_b 292) 28 = .ok (.invokestatic 150, 3) := by decide +kernel
theorem d_292_31 : decode (am_b 292) 31 = .ok (.aload_n 2, 1) := by decide +kernel
theorem d_292_32 : decode (am_b 292) 32 = .ok (.areturn, 1) := by decide +kernel
theorem d_293_0 : decode (am_b 293) 0 = .ok (.iconst 0, 1) := by decide +kernel
theorem d_293_1 : decode (am_b 293) 1 = .ok (.istore_n 2, 1) := by decide +kernel
theorem d_293_2 : decode (am_b 293) 2 = .ok (.aload_n 0, 1) := by decide +kernel
theorem d_293_3 : decode (am_b 293) 3 = .ok (.arraylength, 1) := by decide +kernel
theorem d_293_4 : decode (am_b 293) 4 = .ok (.istore_n 3, 1) := by decide +kernel
theorem d_293_5 : decode (am_b 293) 5 = .ok (.iload_n 2, 1) := by decide +kernel
theorem d_293_6 : decode (am_b 293) 6 = .ok (.iload_n 3, 1) := by decide +kernel
theorem d_293_7 : decode (am_b 293) 7 = .ok (.if_icmp .ge 13, 3) := by decide +kernel
theorem d_293_10 : decode (am_b 293) 10 = .ok (.aload_n 0, 1) := by decide +kernel
theorem d_293_11 : decode (am_b 293) 11 = .ok (.iload_n 2, 1) := by decide +kernel
theorem d_293_12 : decode (am_b 293) 12 = .ok (.iload_n 1, 1) := by decide +kernel
theorem d_293_13 : decode (am_b 293) 13 = .ok (.iastore, 1) := by decide +kernel
theorem d_293_14 : decode (am_b 293) 14 = .ok (.iinc 2 1, 3) := by decide +kernel
theorem d_293_17 : decode (am_b 293) 17 = .ok (.goto (-12), 3) := by decide +kernel
theorem d_293_20 : decode (am_b 293) 20 = .ok (.return_, 1) := by decide +kernel
