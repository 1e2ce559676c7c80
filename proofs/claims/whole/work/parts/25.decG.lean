/-! decode rows, printed by wip/whole/gen_decparts.py -/
theorem d_260_0 : decode (am_b 260) 0 = .ok (.aload_n 0, 1) := by decide +kernel
theorem d_260_1 : decode (am_b 260) 1 = .ok (.getfield 127, 3) := by decide +kernel
theorem d_260_4 : decode (am_b 260) 4 = .ok (.invokestatic 270, 3) := by decide +kernel
theorem d_260_7 : decode (am_b 260) 7 = .ok (.istore_n 2, 1) := by decide +kernel
theorem d_260_8 : decode (am_b 260) 8 = .ok (.iconst 0, 1) := by decide +kernel
theorem d_260_9 : decode (am_b 260) 9 = .ok (.istore_n 3, 1) := by decide +kernel
theorem d_260_10 : decode (am_b 260) 10 = .ok (.iload_n 3, 1) := by decide +kernel
theorem d_260_11 : decode (am_b 260) 11 = .ok (.iload_n 2, 1) := by decide +kernel
theorem d_260_12 : decode (am_b 260) 12 = .ok (.if_icmp .ge 151, 3) := by decide +kernel
theorem d_260_15 : decode (am_b 260) 15 = .ok (.aload_n 0, 1) := by decide +kernel
theorem d_260_16 : decode (am_b 260) 16 = .ok (.iload_n 3, 1) := by decide +kernel
theorem d_260_17 : decode (am_b 260) 17 = .ok (.aload_n 0, 1) := by decide +kernel
theorem d_260_18 : decode (am_b 260) 18 = .ok (.getfield 127, 3) := by decide +kernel
theorem d_260_21 : decode (am_b 260) 21 = .ok (.invokevirtual 273, 3) := by decide +kernel
theorem d_260_24 : decode (am_b 260) 24 = .ok (.iload_n 1, 1) := by decide +kernel
theorem d_260_25 : decode (am_b 260) 25 = .ok (.iconst (-1), 1) := by decide +kernel
theorem d_260_26 : decode (am_b 260) 26 = .ok (.if_icmp .eq 15, 3) := by decide +kernel
theorem d_260_29 : decode (am_b 260) 29 = .ok (.aload_n 0, 1) := by decide +kernel
theorem d_260_30 : decode (am_b 260) 30 = .ok (.getfield 55, 3) := by decide +kernel
theorem d_260_33 : decode (am_b 260) 33 = .ok (.iload_n 1, 1) := by decide +kernel
theorem d_260_34 : decode (am_b 260) 34 = .ok (.iaload, 1) := by decide +kernel
theorem d_260_35 : decode (am_b 260) 35 = .ok (.ifCond .eq 6, 3) := by decide +kernel
theorem d_260_38 : decode (am_b 260) 38 = .ok (.goto 119, 3) := by decide +kernel
theorem d_260_41 : decode (am_b 260) 41 = .ok (.aload_n 0, 1) := by decide +kernel
theorem d_260_42 : decode (am_b 260) 42 = .ok (.invokevirtual 276, 3) := by decide +kernel
theorem d_260_45 : decode (am_b 260) 45 = .ok (.iconst 0, 1) := by decide +kernel
theorem d_260_46 : decode (am_b 260) 46 = .ok (.istore 4, 2) := by decide +kernel
theorem d_260_48 : decode (am_b 260) 48 = .ok (.iconst 0, 1) := by decide +kernel
theorem d_260_49 : decode (am_b 260) 49 = .ok (.istore 5, 2) := by decide +kernel
theorem d_260_51 : decode (am_b 260) 51 = .ok (.iload 5, 2) := by decide +kernel
theorem d_260_53 : decode (am_b 260) 53 = .ok (.aload_n 0, 1) := by decide +kernel
theorem d_260_54 : decode (am_b 260) 54 = .ok (.getfield 127, 3) := by decide +kernel
theorem d_260_57 : decode (am_b 260) 57 = .ok (.aload_n 0, 1) := by decide +kernel
theorem d_260_58 : decode (am_b 260) 58 = .ok (.getfield 127, 3) := by decide +kernel
theorem d_260_61 : decode (am_b 260) 61 = .ok (.imul, 1) := by decide +kernel
theorem d_260_62 : decode (am_b 260) 62 = .ok (.if_icmp .ge 38, 3) := by decide +kernel
theorem d_260_65 : decode (am_b 260) 65 = .ok (.aload_n 0, 1) := by decide +kernel
theorem d_260_66 : decode (am_b 260) 66 = .ok (.getfield 312, 3) := by decide +kernel
theorem d_260_69 : decode (am_b 260) 69 = .ok (.ifCond .eq 31, 3) := by decide +kernel
theorem d_260_72 : decode (am_b 260) 72 = .ok (.iload 4, 2) := by decide +kernel
theorem d_260_74 : decode (am_b 260) 74 = .ok (.ifCond .ne 26, 3) := by decide +kernel
theorem d_260_77 : decode (am_b 260) 77 = .ok (.aload_n 0, 1) := by decide +kernel
theorem d_260_78 : decode (am_b 260) 78 = .ok (.getfield 26, 3) := by decide +kernel
theorem d_260_81 : decode (am_b 260) 81 = .ok (.iload 5, 2) := by decide +kernel
theorem d_260_83 : decode (am_b 260) 83 = .ok (.iaload, 1) := by decide +kernel
theorem d_260_84 : decode (am_b 260) 84 = .ok (.aload_n 0, 1) := by decide +kernel
theorem d_260_85 : decode (am_b 260) 85 = .ok (.getfield 73, 3) := by decide +kernel
theorem d_260_88 : decode (am_b 260) 88 = .ok (.iload 5, 2) := by decide +kernel
theorem d_260_90 : decode (am_b 260) 90 = .ok (.iaload, 1) := by decide +kernel
theorem d_260_91 : decode (am_b 260) 91 = .ok (.isub, 1) := by decide +kernel
theorem d_260_92 : decode (am_b 260) 92 = .ok (.istore 4, 2) := by decide +kernel
theorem d_260_94 : decode (am_b 260) 94 = .ok (.iinc 5 1, 3) := by decide +kernel
theorem d_260_97 : decode (am_b 260) 97 = .ok (.goto (-46), 3) := by decide +kernel
theorem d_260_100 : decode (am_b 260) 100 = .ok (.aload_n 0, 1) := by decide +kernel
theorem d_260_101 : decode (am_b 260) 101 = .ok (.getfield 312, 3) := by decide +kernel
theorem d_260_104 : decode (am_b 260) 104 = .ok (.ifCond .eq 11, 3) := by decide +kernel
theorem d_260_107 : decode (am_b 260) 107 = .ok (.iload 4, 2) := by decide +kernel
theorem d_260_109 : decode (am_b 260) 109 = .ok (.ifCond .lt 6, 3) := by decide +kernel
theorem d_260_112 : decode (am_b 260) 112 = .ok (.goto 45, 3) := by decide +kernel
theorem d_260_115 : decode (am_b 260) 115 = .ok (.aload_n 0, 1) := by decide +kernel
theorem d_260_116 : decode (am_b 260) 116 = .ok (.iconst 1, 1) := by decide +kernel
theorem d_260_117 : decode (am_b 260) 117 = .ok (.putfield 312, 3) := by decide +kernel
theorem d_260_120 : decode (am_b 260) 120 = .ok (.iconst 0, 1) := by decide +kernel
theorem d_260_121 : decode (am_b 260) 121 = .ok (.istore 5, 2) := by decide +kernel
theorem d_260_123 : decode (am_b 260) 123 = .ok (.iload 5, 2) := by decide +kernel
theorem d_260_125 : decode (am_b 260) 125 = .ok (.aload_n 0, 1) := by decide +kernel
theorem d_260_126 : decode (am_b 260) 126 = .ok (.getfield 127, 3) := by decide +kernel
theorem d_260_129 : decode (am_b 260) 129 = .ok (.aload_n 0, 1) := by decide +kernel
theorem d_260_130 : decode (am_b 260) 130 = .ok (.getfield 127, 3) := by decide +kernel
theorem d_260_133 : decode (am_b 260) 133 = .ok (.imul, 1) := by decide +kernel
theorem d_260_134 : decode (am_b 260) 134 = .ok (.if_icmp .ge 23, 3) := by decide +kernel
theorem d_260_137 : decode (am_b 260) 137 = .ok (.aload_n 0, 1) := by decide +kernel
theorem d_260_138 : decode (am_b 260) 138 = .ok (.getfield 73, 3) := by decide +kernel
theorem d_260_141 : decode (am_b 260) 141 = .ok (.iload 5, 2) := by decide +kernel
theorem d_260_143 : decode (am_b 260) 143 = .ok (.aload_n 0, 1) := by decide +kernel
theorem d_260_144 : decode (am_b 260) 144 = .ok (.getfield 26, 3) := by decide +kernel
theorem d_260_147 : decode (am_b 260) 147 = .ok (.iload 5, 2) := by decide +kernel
theorem d_260_149 : decode (am_b 260) 149 = .ok (.iaload, 1) := by decide +kernel
theorem d_260_150 : decode (am_b 260) 150 = .ok (.iastore, 1) := by decide +kernel
theorem d_260_151 : decode (am_b 260) 151 = .ok (.iinc 5 1, 3) := by decide +kernel
theorem d_260_154 : decode (am_b 260) 154 = .ok (.goto (-31), 3) := by decide +kernel
theorem d_260_157 : decode (am_b 260) 157 = .ok (.iinc 3 1, 3) := by decide +kernel
theorem d_260_160 : decode (am_b 260) 160 = .ok (.goto (-150), 3) := by decide +kernel
theorem d_260_163 : decode (am_b 260) 163 = .ok (.return_, 1) := by decide +kernel
theorem d_261_0 : decode (am_b 261) 0 = .ok (.aload_n 0, 1) := by decide +kernel
theorem d_261_1 : decode (am_b 261) 1 = .ok (.iload_n 1, 1) := by decide +kernel
theorem d_261_2 : decode (am_b 261) 2 = .ok (.invokevirtual 124, 3) := by decide +kernel
theorem d_261_5 : decode (am_b 261) 5 = .ok (.ifCond .eq 20, 3) := by decide +kernel
theorem d_261_8 : decode (am_b 261) 8 = .ok (.aload_n 0, 1) := by decide +kernel
theorem d_261_9 : decode (am_b 261) 9 = .ok (.iload_n 2, 1) := by decide +kernel
theorem d_261_10 : decode (am_b 261) 10 = .ok (.invokevirtual 124, 3) := by decide +kernel
theorem d_261_13 : decode (am_b 261) 13 = .ok (.ifCond .eq 12, 3) := by decide +kernel
theorem d_261_16 : decode (am_b 261) 16 = .ok (.iload_n 3, 1) := by decide +kernel
theorem d_261_17 : decode (am_b 261) 17 = .ok (.iconst 0, 1) := by decide +kernel
theorem d_261_18 : decode (am_b 261) 18 = .ok (.iconst 2, 1) := by decide +kernel
theorem d_261_19 : decode (am_b 261) 19 = .ok (.invokestatic 106, 3) := by decide +kernel
theorem d_261_22 : decode (am_b 261) 22 = .ok (.ifCond .ne 5, 3) := by decide +kernel
theorem d_261_25 : decode (am_b 261) 25 = .ok (.iconst (-1), 1) := by decide +kernel
theorem d_261_26 : decode (am_b 261) 26 = .ok (.ireturn, 1) := by decide +kernel
theorem d_261_27 : decode (am_b 261) 27 = .ok (.aload_n 0, 1) := by decide +kernel
theorem d_261_28 : decode (am_b 261) 28 = .ok (.iload_n 1, 1) := by decide +kernel
theorem d_261_29 : decode (am_b 261) 29 = .ok (.invokevirtual 121, 3) := by decide +kernel
theorem d_261_32 : decode (am_b 261) 32 = .ok (.aload_n 0, 1) := by decide +kernel
theorem d_261_33 : decode (am_b 261) 33 = .ok (.iload_n 2, 1) := by decide +kernel
theorem d_261_34 : decode (am_b 261) 34 = .ok (.invokevirtual 121, 3) := by decide +kernel
theorem d_261_37 : decode (am_b 261) 37 = .ok (.if_icmp .eq 5, 3) := by decide +kernel
theorem d_261_40 : decode (am_b 261) 40 = .ok (.iconst 0, 1) := by decide +kernel
theorem d_261_41 : decode (am_b 261) 41 = .ok (.ireturn, 1) := by decide +kernel
theorem d_261_42 : decode (am_b 261) 42 = .ok (.aload_n 0, 1) := by decide +kernel
theorem d_261_43 : decode (am_b 261) 43 = .ok (.iload_n 1, 1) := by decide +kernel
theorem d_261_44 : decode (am_b 261) 44 = .ok (.iload_n 3, 1) := by decide +kernel
theorem d_261_45 : decode (am_b 261) 45 = .ok (.invokevirtual 319, 3) := by decide +kernel
theorem d_261_48 : decode (am_b 261) 48 = .ok (.iconst 0, 1) := by decide +kernel
theorem d_261_49 : decode (am_b 261) 49 = .ok (.istore 4, 2) := by decide +kernel
theorem d_261_51 : decode (am_b 261) 51 = .ok (.iload 4, 2) := by decide +kernel
theorem d_261_53 : decode (am_b 261) 53 = .ok (.bipush 36, 2) := by decide +kernel
theorem d_261_55 : decode (am_b 261) 55 = .ok (.if_icmp .ge 23, 3) := by decide +kernel
theorem d_261_58 : decode (am_b 261) 58 = .ok (.aload_n 0, 1) := by decide +kernel
theorem d_261_59 : decode (am_b 261) 59 = .ok (.getfield 76, 3) := by decide +kernel
theorem d_261_62 : decode (am_b 261) 62 = .ok (.iload 4, 2) := by decide +kernel
theorem d_261_64 : decode (am_b 261) 64 = .ok (.aload_n 0, 1) := by decide +kernel
theorem d_261_65 : decode (am_b 261) 65 = .ok (.getfield 73, 3) := by decide +kernel
theorem d_261_68 : decode (am_b 261) 68 = .ok (.iload 4, 2) := by decide +kernel
theorem d_261_70 : decode (am_b 261) 70 = .ok (.iaload, 1) := by decide +kernel
theorem d_261_71 : decode (am_b 261) 71 = .ok (.iastore, 1) := by decide +kernel
theorem d_261_72 : decode (am_b 261) 72 = .ok (.iinc 4 1, 3) := by decide +kernel
theorem d_261_75 : decode (am_b 261) 75 = .ok (.goto (-24), 3) := by decide +kernel
theorem d_261_78 : decode (am_b 261) 78 = .ok (.aload_n 0, 1) := by decide +kernel
theorem d_261_79 : decode (am_b 261) 79 = .ok (.iload_n 2, 1) := by decide +kernel
theorem d_261_80 : decode (am_b 261) 80 = .ok (.iload_n 3, 1) := by decide +kernel
theorem d_261_81 : decode (am_b 261) 81 = .ok (.invokevirtual 319, 3) := by decide +kernel
theorem d_261_84 : decode (am_b 261) 84 = .ok (.iconst 0, 1) := by decide +kernel
theorem d_261_85 : decode (am_b 261) 85 = .ok (.istore 4, 2) := by decide +kernel
theorem d_261_87 : decode (am_b 261) 87 = .ok (.iload 4, 2) := by decide +kernel
theorem d_261_89 : decode (am_b 261) 89 = .ok (.aload_n 0, 1) := by decide +kernel
theorem d_261_90 : decode (am_b 261) 90 = .ok (.getfield 127, 3) := by decide +kernel
theorem d_261_93 : decode (am_b 261) 93 = .ok (.aload_n 0, 1) := by decide +kernel
theorem d_261_94 : decode (am_b 261) 94 = .ok (.getfield 127, 3) := by decide +kernel
theorem d_261_97 : decode (am_b 261) 97 = .ok (.imul, 1) := by decide +kernel
theorem d_261_98 : decode (am_b 261) 98 = .ok (.if_icmp .ge 28, 3) := by decide +kernel
theorem d_261_101 : decode (am_b 261) 101 = .ok (.aload_n 0, 1) := by decide +kernel
theorem d_261_102 : decode (am_b 261) 102 = .ok (.getfield 73, 3) := by decide +kernel
theorem d_261_105 : decode (am_b 261) 105 = .ok (.iload 4, 2) := by decide +kernel
theorem d_261_107 : decode (am_b 261) 107 = .ok (.iaload, 1) := by decide +kernel
theorem d_261_108 : decode (am_b 261) 108 = .ok (.aload_n 0, 1) := by decide +kernel
theorem d_261_109 : decode (am_b 261) 109 = .ok (.getfield 76, 3) := by decide +kernel
theorem d_261_112 : decode (am_b 261) 112 = .ok (.iload 4, 2) := by decide +kernel
theorem d_261_114 : decode (am_b 261) 114 = .ok (.iaload, 1) := by decide +kernel
theorem d_261_115 : decode (am_b 261) 115 = .ok (.if_icmp .eq 5, 3) := by decide +kernel
theorem d_261_118 : decode (am_b 261) 118 = .ok (.iconst 0, 1) := by decide +kernel
theorem d_261_119 : decode (am_b 261) 119 = .ok (.ireturn, 1) := by decide +kernel
theorem d_261_120 : decode (am_b 261) 120 = .ok (.iinc 4 1, 3) := by decide +kernel
theorem d_261_123 : decode (am_b 261) 123 = .ok (.goto (-36), 3) := by decide +kernel
theorem d_261_126 : decode (am_b 261) 126 = .ok (.iconst 1, 1) := by decide +kernel
theorem d_261_127 : decode (am_b 261) 127 = .ok (.ireturn, 1) := by decide +kernel
theorem d_262_0 : decode (am_b 262) 0 = .ok (.aload_n 0, 1) := by decide +kernel
theorem d_262_1 : decode (am_b 262) 1 = .ok (.iload_n 1, 1) := by decide +kernel
theorem d_262_2 : decode (am_b 262) 2 = .ok (.invokevirtual 124, 3) := by decide +kernel
theorem d_262_5 : decode (am_b 262) 5 = .ok (.ifCond .eq 12, 3) := by decide +kernel
theorem d_262_8 : decode (am_b 262) 8 = .ok (.iload_n 2, 1) := by decide +kernel
theorem d_262_9 : decode (am_b 262) 9 = .ok (.iconst 0, 1) := by decide +kernel
theorem d_262_10 : decode (am_b 262) 10 = .ok (.iconst 1, 1) := by decide +kernel
theorem d_262_11 : decode (am_b 262) 11 = .ok (.invokestatic 106, 3) := by decide +kernel
theorem d_262_14 : decode (am_b 262) 14 = .ok (.ifCond .ne 5, 3) := by decide +kernel
theorem d_262_17 : decode (am_b 262) 17 = .ok (.iconst (-1), 1) := by decide +kernel
theorem d_262_18 : decode (am_b 262) 18 = .ok (.ireturn, 1) := by decide +kernel
theorem d_262_19 : decode (am_b 262) 19 = .ok (.aload_n 0, 1) := by decide +kernel
theorem d_262_20 : decode (am_b 262) 20 = .ok (.iload_n 1, 1) := by decide +kernel
theorem d_262_21 : decode (am_b 262) 21 = .ok (.invokevirtual 248, 3) := by decide +kernel
theorem d_262_24 : decode (am_b 262) 24 = .ok (.iconst 0, 1) := by decide +kernel
theorem d_262_25 : decode (am_b 262) 25 = .ok (.istore_n 3, 1) := by decide +kernel
theorem d_262_26 : decode (am_b 262) 26 = .ok (.iload_n 3, 1) := by decide +kernel
theorem d_262_27 : decode (am_b 262) 27 = .ok (.aload_n 0, 1) := by decide +kernel
theorem d_262_28 : decode (am_b 262) 28 = .ok (.getfield 127, 3) := by decide +kernel
theorem d_262_31 : decode (am_b 262) 31 = .ok (.aload_n 0, 1) := by decide +kernel
theorem d_262_32 : decode (am_b 262) 32 = .ok (.getfield 127, 3) := by decide +kernel
theorem d_262_35 : decode (am_b 262) 35 = .ok (.imul, 1) := by decide +kernel
theorem d_262_36 : decode (am_b 262) 36 = .ok (.if_icmp .ge 21, 3) := by decide +kernel
theorem d_262_39 : decode (am_b 262) 39 = .ok (.aload_n 0, 1) := by decide +kernel
theorem d_262_40 : decode (am_b 262) 40 = .ok (.getfield 76, 3) := by decide +kernel
theorem d_262_43 : decode (am_b 262) 43 = .ok (.iload_n 3, 1) := by decide +kernel
theorem d_262_44 : decode (am_b 262) 44 = .ok (.aload_n 0, 1) := by decide +kernel
theorem d_262_45 : decode (am_b 262) 45 = .ok (.getfield 23, 3) := by decide +kernel
theorem d_262_48 : decode (am_b 262) 48 = .ok (.iload_n 3, 1) := by decide +kernel
theorem d_262_49 : decode (am_b 262) 49 = .ok (.iaload, 1) := by decide +kernel
theorem d_262_50 : decode (am_b 262) 50 = .ok (.iastore, 1) := by decide +kernel
theorem d_262_51 : decode (am_b 262) 51 = .ok (.iinc 3 1, 3) := by decide +kernel
theorem d_262_54 : decode (am_b 262) 54 = .ok (.goto (-28), 3) := by decide +kernel
theorem d_262_57 : decode (am_b 262) 57 = .ok (.iload_n 2, 1) := by decide +kernel
theorem d_262_58 : decode (am_b 262) 58 = .ok (.ifCond .ne 8, 3) := by decide +kernel
theorem d_262_61 : decode (am_b 262) 61 = .ok (.aload_n 0, 1) := by decide +kernel
theorem d_262_62 : decode (am_b 262) 62 = .ok (.invokevirtual 322, 3) := by decide +kernel
theorem d_262_65 : decode (am_b 262) 65 = .ok (.ireturn, 1) := by decide +kernel
theorem d_262_66 : decode (am_b 262) 66 = .ok (.aload_n 0, 1) := by decide +kernel
theorem d_262_67 : decode (am_b 262) 67 = .ok (.iconst 0, 1) := by decide +kernel
theorem d_262_68 : decode (am_b 262) 68 = .ok (.iconst 0, 1) := by decide +kernel
theorem d_262_69 : decode (am_b 262) 69 = .ok (.invokevirtual 263, 3) := by decide +kernel
theorem d_262_72 : decode (am_b 262) 72 = .ok (.iconst 0, 1) := by decide +kernel
theorem d_262_73 : decode (am_b 262) 73 = .ok (.istore_n 3, 1) := by decide +kernel
theorem d_262_74 : decode (am_b 262) 74 = .ok (.iload_n 3, 1) := by decide +kernel
theorem d_262_75 : decode (am_b 262) 75 = .ok (.aload_n 0, 1) := by decide +kernel
theorem d_262_76 : decode (am_b 262) 76 = .ok (.getfield 127, 3) := by decide +kernel
theorem d_262_79 : decode (am_b 262) 79 = .ok (.aload_n 0, 1) := by decide +kernel
theorem d_262_80 : decode (am_b 262) 80 = .ok (.getfield 127, 3) := by decide +kernel
theorem d_262_83 : decode (am_b 262) 83 = .ok (.imul, 1) := by decide +kernel
theorem d_262_84 : decode (am_b 262) 84 = .ok (.if_icmp .ge 21, 3) := by decide +kernel
theorem d_262_87 : decode (am_b 262) 87 = .ok (.aload_n 0, 1) := by decide +kernel
theorem d_262_88 : decode (am_b 262) 88 = .ok (.getfield 76, 3) := by decide +kernel
theorem d_262_91 : decode (am_b 262) 91 = .ok (.iload_n 3, 1) := by decide +kernel
theorem d_262_92 : decode (am_b 262) 92 = .ok (.aload_n 0, 1) := by decide +kernel
theorem d_262_93 : decode (am_b 262) 93 = .ok (.getfield 26, 3) := by decide +kernel
theorem d_262_96 : decode (am_b 262) 96 = .ok (.iload_n 3, 1) := by decide +kernel
theorem d_262_97 : decode (am_b 262) 97 = .ok (.iaload, 1) := by decide +kernel
theorem d_262_98 : decode (am_b 262) 98 = .ok (.iastore, 1) := by decide +kernel
theorem d_262_99 : decode (am_b 262) 99 = .ok (.iinc 3 1, 3) := by decide +kernel
theorem d_262_102 : decode (am_b 262) 102 = .ok (.goto (-28), 3) := by decide +kernel
theorem d_262_105 : decode (am_b 262) 105 = .ok (.iconst 0, 1) := by decide +kernel
theorem d_262_106 : decode (am_b 262) 106 = .ok (.istore_n 3, 1) := by decide +kernel
theorem d_262_107 : decode (am_b 262) 107 = .ok (.iconst 0, 1) := by decide +kernel
theorem d_262_108 : decode (am_b 262) 108 = .ok (.istore 4, 2) := by decide +kernel
theorem d_262_110 : decode (am_b 262) 110 = .ok (.iload 4, 2) := by decide +kernel
theorem d_262_112 : decode (am_b 262) 112 = .ok (.aload_n 0, 1) := by decide +kernel
theorem d_262_113 : decode (am_b 262) 113 = .ok (.getfield 127, 3) := by decide +kernel
theorem d_262_116 : decode (am_b 262) 116 = .ok (.aload_n 0, 1) := by decide +kernel
theorem d_262_117 : decode (am_b 262) 117 = .ok (.getfield 127, 3) := by decide +kernel
theorem d_262_120 : decode (am_b 262) 120 = .ok (.imul, 1) := by decide +kernel
theorem d_262_121 : decode (am_b 262) 121 = .ok (.if_icmp .ge 108, 3) := by decide +kernel
theorem d_262_124 : decode (am_b 262) 124 = .ok (.iconst 0, 1) := by decide +kernel
theorem d_262_125 : decode (am_b 262) 125 = .ok (.istore 5, 2) := by decide +kernel
theorem d_262_127 : decode (am_b 262) 127 = .ok (.iload 5, 2) := by decide +kernel
theorem d_262_129 : decode (am_b 262) 129 = .ok (.aload_n 0, 1) := by decide +kernel
theorem d_262_130 : decode (am_b 262) 130 = .ok (.getfield 127, 3) := by decide +kernel
theorem d_262_133 : decode (am_b 262) 133 = .ok (.aload_n 0, 1) := by decide +kernel
theorem d_262_134 : decode (am_b 262) 134 = .ok (.getfield 127, 3) := by decide +kernel
theorem d_262_137 : decode (am_b 262) 137 = .ok (.imul, 1) := by decide +kernel
theorem d_262_138 : decode (am_b 262) 138 = .ok (.if_icmp .ge 23, 3) := by decide +kernel
theorem d_262_141 : decode (am_b 262) 141 = .ok (.aload_n 0, 1) := by decide +kernel
theorem d_262_142 : decode (am_b 262) 142 = .ok (.getfield 23, 3) := by decide +kernel
theorem d_262_145 : decode (am_b 262) 145 = .ok (.iload 5, 2) := by decide +kernel
theorem d_262_147 : decode (am_b 262) 147 = .ok (.aload_n 0, 1) := by decide +kernel
theorem d_262_148 : decode (am_b 262) 148 = .ok (.getfield 76, 3) := by decide +kernel
theorem d_262_151 : decode (am_b 262) 151 = .ok (.iload 5, 2) := by decide +kernel
theorem d_262_153 : decode (am_b 262) 153 = .ok (.iaload, 1) := by decide +kernel
theorem d_262_154 : decode (am_b 262) 154 = .ok (.iastore, 1) := by decide +kernel
theorem d_262_155 : decode (am_b 262) 155 = .ok (.iinc 5 1, 3) := by decide +kernel
theorem d_262_158 : decode (am_b 262) 158 = .ok (.goto (-31), 3) := by decide +kernel
theorem d_262_161 : decode (am_b 262) 161 = .ok (.aload_n 0, 1) := by decide +kernel
theorem d_262_162 : decode (am_b 262) 162 = .ok (.iload 4, 2) := by decide +kernel
theorem d_262_164 : decode (am_b 262) 164 = .ok (.aload_n 0, 1) := by decide +kernel
theorem d_262_165 : decode (am_b 262) 165 = .ok (.getfield 127, 3) := by decide +kernel
theorem d_262_168 : decode (am_b 262) 168 = .ok (.idiv, 1) := by decide +kernel
theorem d_262_169 : decode (am_b 262) 169 = .ok (.iload 4, 2) := by decide +kernel
theorem d_262_171 : decode (am_b 262) 171 = .ok (.aload_n 0, 1) := by decide +kernel
theorem d_262_172 : decode (am_b 262) 172 = .ok (.getfield 127, 3) := by decide +kernel
theorem d_262_175 : decode (am_b 262) 175 = .ok (.irem, 1) := by decide +kernel
theorem d_262_176 : decode (am_b 262) 176 = .ok (.invokevirtual 263, 3) := by decide +kernel
theorem d_262_179 : decode (am_b 262) 179 = .ok (.iconst 0, 1) := by decide +kernel
theorem d_262_180 : decode (am_b 262) 180 = .ok (.istore 5, 2) := by decide +kernel
theorem d_262_182 : decode (am_b 262) 182 = .ok (.iload 5, 2) := by decide +kernel
theorem d_262_184 : decode (am_b 262) 184 = .ok (.aload_n 0, 1) := by decide +kernel
theorem d_262_185 : decode (am_b 262) 185 = .ok (.getfield 127, 3) := by decide +kernel
theorem d_262_188 : decode (am_b 262) 188 = .ok (.aload_n 0, 1) := by decide +kernel
theorem d_262_189 : decode (am_b 262) 189 = .ok (.getfield 127, 3) := by decide +kernel
theorem d_262_192 : decode (am_b 262) 192 = .ok (.imul, 1) := by decide +kernel
theorem d_262_193 : decode (am_b 262) 193 = .ok (.if_icmp .ge 23, 3) := by decide +kernel
theorem d_262_196 : decode (am_b 262) 196 = .ok (.aload_n 0, 1) := by decide +kernel
theorem d_262_197 : decode (am_b 262) 197 = .ok (.getfield 23, 3) := by decide +kernel
theorem d_262_200 : decode (am_b 262) 200 = .ok (.iload 5, 2) := by decide +kernel
theorem d_262_202 : decode (am_b 262) 202 = .ok (.aload_n 0, 1) := by decide +kernel
theorem d_262_203 : decode (am_b 262) 203 = .ok (.getfield 26, 3) := by decide +kernel
theorem d_262_206 : decode (am_b 262) 206 = .ok (.iload 5, 2) := by decide +kernel
theorem d_262_208 : decode (am_b 262) 208 = .ok (.iaload, 1) := by decide +kernel
theorem d_262_209 : decode (am_b 262) 209 = .ok (.iastore, 1) := by decide +kernel
theorem d_262_210 : decode (am_b 262) 210 = .ok (.iinc 5 1, 3) := by decide +kernel
theorem d_262_213 : decode (am_b 262) 213 = .ok (.goto (-31), 3) := by decide +kernel
theorem d_262_216 : decode (am_b 262) 216 = .ok (.iload_n 3, 1) := by decide +kernel
theorem d_262_217 : decode (am_b 262) 217 = .ok (.aload_n 0, 1) := by decide +kernel
theorem d_262_218 : decode (am_b 262) 218 = .ok (.invokevirtual 322, 3) := by decide +kernel
theorem d_262_221 : decode (am_b 262) 221 = .ok (.iadd, 1) := by decide +kernel
theorem d_262_222 : decode (am_b 262) 222 = .ok (.istore_n 3, 1) := by decide +kernel
theorem d_262_223 : decode (am_b 262) 223 = .ok (.iinc 4 1, 3) := by decide +kernel
theorem d_262_226 : decode (am_b 262) 226 = .ok (.goto (-116), 3) := by decide +kernel
theorem d_262_229 : decode (am_b 262) 229 = .ok (.iload_n 3, 1) := by decide +kernel
theorem d_262_230 : decode (am_b 262) 230 = .ok (.ireturn, 1) := by decide +kernel
theorem d_263_0 : decode (am_b 263) 0 = .ok (.aload_n 0, 1) := by decide +kernel
theorem d_263_1 : decode (am_b 263) 1 = .ok (.getfield 127, 3) := by decide +kernel
theorem d_263_4 : decode (am_b 263) 4 = .ok (.invokestatic 270, 3) := by decide +kernel
theorem d_263_7 : decode (am_b 263) 7 = .ok (.istore_n 1, 1) := by decide +kernel
theorem d_263_8 : decode (am_b 263) 8 = .ok (.iconst 0, 1) := by decide +kernel
theorem d_263_9 : decode (am_b 263) 9 = .ok (.istore_n 2, 1) := by decide +kernel
theorem d_263_10 : decode (am_b 263) 10 = .ok (.iconst 0, 1) := by decide +kernel
theorem d_263_11 : decode (am_b 263) 11 = .ok (.istore_n 3, 1) := by decide +kernel
theorem d_263_12 : decode (am_b 263) 12 = .ok (.iload_n 3, 1) := by decide +kernel
theorem d_263_13 : decode (am_b 263) 13 = .ok (.iload_n 1, 1) := by decide +kernel
theorem d_263_14 : decode (am_b 263) 14 = .ok (.if_icmp .ge 128, 3) := by decide +kernel
theorem d_263_17 : decode (am_b 263) 17 = .ok (.aload_n 0, 1) := by decide +kernel
theorem d_263_18 : decode (am_b 263) 18 = .ok (.iload_n 3, 1) := by decide +kernel
theorem d_263_19 : decode (am_b 263) 19 = .ok (.aload_n 0, 1) := by decide +kernel
theorem d_263_20 : decode (am_b 263) 20 = .ok (.getfield 127, 3) := by decide +kernel
theorem d_263_23 : decode (am_b 263) 23 = .ok (.invokevirtual 273, 3) := by decide +kernel
theorem d_263_26 : decode (am_b 263) 26 = .ok (.iconst 1, 1) := by decide +kernel
theorem d_263_27 : decode (am_b 263) 27 = .ok (.istore 4, 2) := by decide +kernel
theorem d_263_29 : decode (am_b 263) 29 = .ok (.iconst 0, 1) := by decide +kernel
theorem d_263_30 : decode (am_b 263) 30 = .ok (.istore 5, 2) := by decide +kernel
theorem d_263_32 : decode (am_b 263) 32 = .ok (.iload 5, 2) := by decide +kernel
theorem d_263_34 : decode (am_b 263) 34 = .ok (.aload_n 0, 1) := by decide +kernel
theorem d_263_35 : decode (am_b 263) 35 = .ok (.getfield 127, 3) := by decide +kernel
theorem d_263_38 : decode (am_b 263) 38 = .ok (.if_icmp .ge 85, 3) := by decide +kernel
theorem d_263_41 : decode (am_b 263) 41 = .ok (.iload 4, 2) := by decide +kernel
theorem d_263_43 : decode (am_b 263) 43 = .ok (.ifCond .eq 80, 3) := by decide +kernel
theorem d_263_46 : decode (am_b 263) 46 = .ok (.iconst 0, 1) := by decide +kernel
theorem d_263_47 : decode (am_b 263) 47 = .ok (.istore 6, 2) := by decide +kernel
theorem d_263_49 : decode (am_b 263) 49 = .ok (.iload 6, 2) := by decide +kernel
theorem d_263_51 : decode (am_b 263) 51 = .ok (.aload_n 0, 1) := by decide +kernel
theorem d_263_52 : decode (am_b 263) 52 = .ok (.getfield 127, 3) := by decide +kernel
theorem d_263_55 : decode (am_b 263) 55 = .ok (.if_icmp .ge 62, 3) := by decide +kernel
theorem d_263_58 : decode (am_b 263) 58 = .ok (.iload 4, 2) := by decide +kernel
theorem d_263_60 : decode (am_b 263) 60 = .ok (.ifCond .eq 57, 3) := by decide +kernel
theorem d_263_63 : decode (am_b 263) 63 = .ok (.aload_n 0, 1) := by decide +kernel
theorem d_263_64 : decode (am_b 263) 64 = .ok (.aload_n 0, 1) := by decide +kernel
theorem d_263_65 : decode (am_b 263) 65 = .ok (.getfield 55, 3) := by decide +kernel
theorem d_263_68 : decode (am_b 263) 68 = .ok (.iload 5, 2) := by decide +kernel
theorem d_263_70 : decode (am_b 263) 70 = .ok (.iaload, 1) := by decide +kernel
theorem d_263_71 : decode (am_b 263) 71 = .ok (.aload_n 0, 1) := by decide +kernel
theorem d_263_72 : decode (am_b 263) 72 = .ok (.getfield 55, 3) := by decide +kernel
theorem d_263_75 : decode (am_b 263) 75 = .ok (.iload 6, 2) := by decide +kernel
theorem d_263_77 : decode (am_b 263) 77 = .ok (.iaload, 1) := by decide +kernel
theorem d_263_78 : decode (am_b 263) 78 = .ok (.invokevirtual 130, 3) := by decide +kernel
theorem d_263_81 : decode (am_b 263) 81 = .ok (.aload_n 0, 1) := by decide +kernel
theorem d_263_82 : decode (am_b 263) 82 = .ok (.getfield 55, 3) := by decide +kernel
theorem d_263_85 : decode (am_b 263) 85 = .ok (.aload_n 0, 1) := by decide +kernel
theorem d_263_86 : decode (am_b 263) 86 = .ok (.getfield 76, 3) := by decide +kernel
theorem d_263_89 : decode (am_b 263) 89 = .ok (.aload_n 0, 1) := by decide +kernel
theorem d_263_90 : decode (am_b 263) 90 = .ok (.getfield 127, 3) := by decide +kernel
theorem d_263_93 : decode (am_b 263) 93 = .ok (.iload 5, 2) := by decide +kernel
theorem d_263_95 : decode (am_b 263) 95 = .ok (.imul, 1) := by decide +kernel
theorem d_263_96 : decode (am_b 263) 96 = .ok (.iload 6, 2) := by decide +kernel
theorem d_263_98 : decode (am_b 263) 98 = .ok (.iadd, 1) := by decide +kernel
theorem d_263_99 : decode (am_b 263) 99 = .ok (.iaload, 1) := by decide +kernel
theorem d_263_100 : decode (am_b 263) 100 = .ok (.iaload, 1) := by decide +kernel
theorem d_263_101 : decode (am_b 263) 101 = .ok (.if_icmp .ne 7, 3) := by decide +kernel
theorem d_263_104 : decode (am_b 263) 104 = .ok (.iconst 1, 1) := by decide +kernel
theorem d_263_105 : decode (am_b 263) 105 = .ok (.goto 4, 3) := by decide +kernel
theorem d_263_108 : decode (am_b 263) 108 = .ok (.iconst 0, 1) := by decide +kernel
theorem d_263_109 : decode (am_b 263) 109 = .ok (.istore 4, 2) := by decide +kernel
theorem d_263_111 : decode (am_b 263) 111 = .ok (.iinc 6 1, 3) := by decide +kernel
theorem d_263_114 : decode (am_b 263) 114 = .ok (.goto (-65), 3) := by decide +kernel
theorem d_263_117 : decode (am_b 263) 117 = .ok (.iinc 5 1, 3) := by decide +kernel
theorem d_263_120 : decode (am_b 263) 120 = .ok (.goto (-88), 3) := by decide +kernel
theorem d_263_123 : decode (am_b 263) 123 = .ok (.iload_n 2, 1) := by decide +kernel
theorem d_263_124 : decode (am_b 263) 124 = .ok (.iload 4, 2) := by decide +kernel
theorem d_263_126 : decode (am_b 263) 126 = .ok (.ifCond .eq 7, 3) := by decide +kernel
theorem d_263_129 : decode (am_b 263) 129 = .ok (.iconst 1, 1) := by decide +kernel
theorem d_263_130 : decode (am_b 263) 130 = .ok (.goto 4, 3) := by decide +kernel
theorem d_263_133 : decode (am_b 263) 133 = .ok (.iconst 0, 1) := by decide +kernel
theorem d_263_134 : decode (am_b 263) 134 = .ok (.iadd, 1) := by decide +kernel
theorem d_263_135 : decode (am_b 263) 135 = .ok (.istore_n 2, 1) := by decide +kernel
theorem d_263_136 : decode (am_b 263) 136 = .ok (.iinc 3 1, 3) := by decide +kernel
theorem d_263_139 : decode (am_b 263) 139 = .ok (.goto (-127), 3) := by decide +kernel
theorem d_263_142 : decode (am_b 263) 142 = .ok (.iload_n 2, 1) := by decide +kernel
theorem d_263_143 : decode (am_b 263) 143 = .ok (.ireturn, 1) := by decide +kernel
theorem d_264_0 : decode (am_b 264) 0 = .ok (.aload_n 0, 1) := by decide +kernel
theorem d_264_1 : decode (am_b 264) 1 = .ok (.iload_n 1, 1) := by decide +kernel
theorem d_264_2 : decode (am_b 264) 2 = .ok (.invokevirtual 124, 3) := by decide +kernel
theorem d_264_5 : decode (am_b 264) 5 = .ok (.ifCond .eq 12, 3) := by decide +kernel
theorem d_264_8 : decode (am_b 264) 8 = .ok (.iload_n 2, 1) := by decide +kernel
theorem d_264_9 : decode (am_b 264) 9 = .ok (.iconst 0, 1) := by decide +kernel
theorem d_264_10 : decode (am_b 264) 10 = .ok (.iconst 2, 1) := by decide +kernel
theorem d_264_11 : decode (am_b 264) 11 = .ok (.invokestatic 106, 3) := by decide +kernel
theorem d_264_14 : decode (am_b 264) 14 = .ok (.ifCond .ne 5, 3) := by decide +kernel
theorem d_264_17 : decode (am_b 264) 17 = .ok (.iconst (-1), 1) := by decide +kernel
theorem d_264_18 : decode (am_b 264) 18 = .ok (.ireturn, 1) := by decide +kernel
theorem d_264_19 : decode (am_b 264) 19 = .ok (.aload_n 0, 1) := by decide +kernel
theorem d_264_20 : decode (am_b 264) 20 = .ok (.iload_n 1, 1) := by decide +kernel
theorem d_264_21 : decode (am_b 264) 21 = .ok (.invokevirtual 248, 3) := by decide +kernel
theorem d_264_24 : decode (am_b 264) 24 = .ok (.iconst 0, 1) := by decide +kernel
theorem d_264_25 : decode (am_b 264) 25 = .ok (.istore_n 3, 1) := by decide +kernel
theorem d_264_26 : decode (am_b 264) 26 = .ok (.iload_n 2, 1) := by decide +kernel
theorem d_264_27 : decode (am_b 264) 27 = .ok (.iconst 2, 1) := by decide +kernel
theorem d_264_28 : decode (am_b 264) 28 = .ok (.if_icmp .ne 129, 3) := by decide +kernel
theorem d_264_31 : decode (am_b 264) 31 = .ok (.iconst 0, 1) := by decide +kernel
theorem d_264_32 : decode (am_b 264) 32 = .ok (.istore 4, 2) := by decide +kernel
theorem d_264_34 : decode (am_b 264) 34 = .ok (.iload 4, 2) := by decide +kernel
theorem d_264_36 : decode (am_b 264) 36 = .ok (.aload_n 0, 1) := by decide +kernel
theorem d_264_37 : decode (am_b 264) 37 = .ok (.getfield 127, 3) := by decide +kernel
theorem d_264_40 : decode (am_b 264) 40 = .ok (.if_icmp .ge 115, 3) := by decide +kernel
theorem d_264_43 : decode (am_b 264) 43 = .ok (.iload 4, 2) := by decide +kernel
theorem d_264_45 : decode (am_b 264) 45 = .ok (.iconst 1, 1) := by decide +kernel
theorem d_264_46 : decode (am_b 264) 46 = .ok (.iadd, 1) := by decide +kernel
theorem d_264_47 : decode (am_b 264) 47 = .ok (.istore 5, 2) := by decide +kernel
theorem d_264_49 : decode (am_b 264) 49 = .ok (.iload 5, 2) := by decide +kernel
theorem d_264_51 : decode (am_b 264) 51 = .ok (.aload_n 0, 1) := by decide +kernel
theorem d_264_52 : decode (am_b 264) 52 = .ok (.getfield 127, 3) := by decide +kernel
theorem d_264_55 : decode (am_b 264) 55 = .ok (.if_icmp .ge 94, 3) := by decide +kernel
theorem d_264_58 : decode (am_b 264) 58 = .ok (.iconst 0, 1) := by decide +kernel
theorem d_264_59 : decode (am_b 264) 59 = .ok (.istore 6, 2) := by decide +kernel
theorem d_264_61 : decode (am_b 264) 61 = .ok (.iload 6, 2) := by decide +kernel
theorem d_264_63 : decode (am_b 264) 63 = .ok (.aload_n 0, 1) := by decide +kernel
theorem d_264_64 : decode (am_b 264) 64 = .ok (.getfield 127, 3) := by decide +kernel
theorem d_264_67 : decode (am_b 264) 67 = .ok (.if_icmp .ge 76, 3) := by decide +kernel
theorem d_264_70 : decode (am_b 264) 70 = .ok (.iload 6, 2) := by decide +kernel
theorem d_264_72 : decode (am_b 264) 72 = .ok (.iconst 1, 1) := by decide +kernel
theorem d_264_73 : decode (am_b 264) 73 = .ok (.iadd, 1) := by decide +kernel
theorem d_264_74 : decode (am_b 264) 74 = .ok (.istore 7, 2) := by decide +kernel
theorem d_264_76 : decode (am_b 264) 76 = .ok (.iload 7, 2) := by decide +kernel
theorem d_264_78 : decode (am_b 264) 78 = .ok (.aload_n 0, 1) := by decide +kernel
theorem d_264_79 : decode (am_b 264) 79 = .ok (.getfield 127, 3) := by decide +kernel
theorem d_264_82 : decode (am_b 264) 82 = .ok (.if_icmp .ge 55, 3) := by decide +kernel
theorem d_264_85 : decode (am_b 264) 85 = .ok (.iload_n 3, 1) := by decide +kernel
theorem d_264_86 : decode (am_b 264) 86 = .ok (.aload_n 0, 1) := by decide +kernel
theorem d_264_87 : decode (am_b 264) 87 = .ok (.iload 4, 2) := by decide +kernel
theorem d_264_89 : decode (am_b 264) 89 = .ok (.iload 6, 2) := by decide +kernel
theorem d_264_91 : decode (am_b 264) 91 = .ok (.invokevirtual 130, 3) := by decide +kernel
theorem d_264_94 : decode (am_b 264) 94 = .ok (.aload_n 0, 1) := by decide +kernel
theorem d_264_95 : decode (am_b 264) 95 = .ok (.iload 5, 2) := by decide +kernel
theorem d_264_97 : decode (am_b 264) 97 = .ok (.iload 7, 2) := by decide +kernel
theorem d_264_99 : decode (am_b 264) 99 = .ok (.invokevirtual 130, 3) := by decide +kernel
theorem d_264_102 : decode (am_b 264) 102 = .ok (.if_icmp .ne 26, 3) := by decide +kernel
theorem d_264_105 : decode (am_b 264) 105 = .ok (.aload_n 0, 1) := by decide +kernel
theorem d_264_106 : decode (am_b 264) 106 = .ok (.iload 4, 2) := by decide +kernel
theorem d_264_108 : decode (am_b 264) 108 = .ok (.iload 7, 2) := by decide +kernel
theorem d_264_110 : decode (am_b 264) 110 = .ok (.invokevirtual 130, 3) := by decide +kernel
theorem d_264_113 : decode (am_b 264) 113 = .ok (.aload_n 0, 1) := by decide +kernel
theorem d_264_114 : decode (am_b 264) 114 = .ok (.iload 5, 2) := by decide +kernel
theorem d_264_116 : decode (am_b 264) 116 = .ok (.iload 6, 2) := by decide +kernel
theorem d_264_118 : decode (am_b 264) 118 = .ok (.invokevirtual 130, 3) := by decide +kernel
theorem d_264_121 : decode (am_b 264) 121 = .ok (.if_icmp .ne 7, 3) := by decide +kernel
theorem d_264_124 : decode (am_b 264) 124 = .ok (.iconst 1, 1) := by decide +kernel
theorem d_264_125 : decode (am_b 264) 125 = .ok (.goto 4, 3) := by decide +kernel
theorem d_264_128 : decode (am_b 264) 128 = .ok (.iconst 0, 1) := by decide +kernel
theorem d_264_129 : decode (am_b 264) 129 = .ok (.iadd, 1) := by decide +kernel
theorem d_264_130 : decode (am_b 264) 130 = .ok (.istore_n 3, 1) := by decide +kernel
theorem d_264_131 : decode (am_b 264) 131 = .ok (.iinc 7 1, 3) := by decide +kernel
theorem d_264_134 : decode (am_b 264) 134 = .ok (.goto (-58), 3) := by decide +kernel
theorem d_264_137 : decode (am_b 264) 137 = .ok (.iinc 6 1, 3) := by decide +kernel
theorem d_264_140 : decode (am_b 264) 140 = .ok (.goto (-79), 3) := by decide +kernel
theorem d_264_143 : decode (am_b 264) 143 = .ok (.iinc 5 1, 3) := by decide +kernel
theorem d_264_146 : decode (am_b 264) 146 = .ok (.goto (-97), 3) := by decide +kernel
theorem d_264_149 : decode (am_b 264) 149 = .ok (.iinc 4 1, 3) := by decide +kernel
theorem d_264_152 : decode (am_b 264) 152 = .ok (.goto (-118), 3) := by decide +kernel
theorem d_264_155 : decode (am_b 264) 155 = .ok (.iload_n 3, 1) := by decide +kernel
theorem d_264_156 : decode (am_b 264) 156 = .ok (.ireturn, 1) := by decide +kernel
theorem d_264_157 : decode (am_b 264) 157 = .ok (.aload_n 0, 1) := by decide +kernel
theorem d_264_158 : decode (am_b 264) 158 = .ok (.invokevirtual 331, 3) := by decide +kernel
theorem d_264_161 : decode (am_b 264) 161 = .ok (.iload_n 2, 1) := by decide +kernel
theorem d_264_162 : decode (am_b 264) 162 = .ok (.ifCond .ne 8, 3) := by decide +kernel
theorem d_264_165 : decode (am_b 264) 165 = .ok (.aload_n 0, 1) := by decide +kernel
theorem d_264_166 : decode (am_b 264) 166 = .ok (.getfield 325, 3) := by decide +kernel
theorem d_264_169 : decode (am_b 264) 169 = .ok (.ireturn, 1) := by decide +kernel
theorem d_264_170 : decode (am_b 264) 170 = .ok (.iconst 0, 1) := by decide +kernel
theorem d_264_171 : decode (am_b 264) 171 = .ok (.istore 4, 2) := by decide +kernel
theorem d_264_173 : decode (am_b 264) 173 = .ok (.iload 4, 2) := by decide +kernel
theorem d_264_175 : decode (am_b 264) 175 = .ok (.aload_n 0, 1) := by decide +kernel
theorem d_264_176 : decode (am_b 264) 176 = .ok (.getfield 127, 3) := by decide +kernel
theorem d_264_179 : decode (am_b 264) 179 = .ok (.if_icmp .ge 17, 3) := by decide +kernel
theorem d_264_182 : decode (am_b 264) 182 = .ok (.aload_n 0, 1) := by decide +kernel
theorem d_264_183 : decode (am_b 264) 183 = .ok (.getfield 82, 3) := by decide +kernel
theorem d_264_186 : decode (am_b 264) 186 = .ok (.iload 4, 2) := by decide +kernel
theorem d_264_188 : decode (am_b 264) 188 = .ok (.iconst 0, 1) := by decide +kernel
theorem d_264_189 : decode (am_b 264) 189 = .ok (.iastore, 1) := by decide +kernel
theorem d_264_190 : decode (am_b 264) 190 = .ok (.iinc 4 1, 3) := by decide +kernel
theorem d_264_193 : decode (am_b 264) 193 = .ok (.goto (-20), 3) := by decide +kernel
theorem d_264_196 : decode (am_b 264) 196 = .ok (.aload_n 0, 1) := by decide +kernel
theorem d_264_197 : decode (am_b 264) 197 = .ok (.iconst 0, 1) := by decide +kernel
theorem d_264_198 : decode (am_b 264) 198 = .ok (.invokevirtual 328, 3) := by decide +kernel
theorem d_264_201 : decode (am_b 264) 201 = .ok (.ireturn, 1) := by decide +kernel
theorem d_265_0 : decode (am_b 265) 0 = .ok (.aload_n 0, 1) := by decide +kernel
theorem d_265_1 : decode (am_b 265) 1 = .ok (.iconst 0, 1) := by decide +kernel
theorem d_265_2 : decode (am_b 265) 2 = .ok (.putfield 325, 3) := by decide +kernel
theorem d_265_5 : decode (am_b 265) 5 = .ok (.aload_n 0, 1) := by decide +kernel
theorem d_265_6 : decode (am_b 265) 6 = .ok (.getfield 127, 3) := by decide +kernel
theorem d_265_9 : decode (am_b 265) 9 = .ok (.invokestatic 270, 3) := by decide +kernel
theorem d_265_12 : decode (am_b 265) 12 = .ok (.istore_n 1, 1) := by decide +kernel
theorem d_265_13 : decode (am_b 265) 13 = .ok (.iconst 0, 1) := by decide +kernel
theorem d_265_14 : decode (am_b 265) 14 = .ok (.istore_n 2, 1) := by decide +kernel
theorem d_265_15 : decode (am_b 265) 15 = .ok (.iload_n 2, 1) := by decide +kernel
theorem d_265_16 : decode (am_b 265) 16 = .ok (.iload_n 1, 1) := by decide +kernel
theorem d_265_17 : decode (am_b 265) 17 = .ok (.if_icmp .ge 91, 3) := by decide +kernel
theorem d_265_20 : decode (am_b 265) 20 = .ok (.aload_n 0, 1) := by decide +kernel
theorem d_265_21 : decode (am_b 265) 21 = .ok (.iload_n 2, 1) := by decide +kernel
theorem d_265_22 : decode (am_b 265) 22 = .ok (.aload_n 0, 1) := by decide +kernel
theorem d_265_23 : decode (am_b 265) 23 = .ok (.getfield 127, 3) := by decide +kernel
theorem d_265_26 : decode (am_b 265) 26 = .ok (.invokevirtual 273, 3) := by decide +kernel
theorem d_265_29 : decode (am_b 265) 29 = .ok (.iconst 0, 1) := by decide +kernel
theorem d_265_30 : decode (am_b 265) 30 = .ok (.istore_n 3, 1) := by decide +kernel
theorem d_265_31 : decode (am_b 265) 31 = .ok (.iconst 0, 1) := by decide +kernel
theorem d_265_32 : decode (am_b 265) 32 = .ok (.istore 4, 2) := by decide +kernel
theorem d_265_34 : decode (am_b 265) 34 = .ok (.iload 4, 2) := by decide +kernel
theorem d_265_36 : decode (am_b 265) 36 = .ok (.aload_n 0, 1) := by decide +kernel
theorem d_265_37 : decode (am_b 265) 37 = .ok (.getfield 127, 3) := by decide +kernel
theorem d_265_40 : decode (am_b 265) 40 = .ok (.if_icmp .ge 27, 3) := by decide +kernel
theorem d_265_43 : decode (am_b 265) 43 = .ok (.iload_n 3, 1) := by decide +kernel
theorem d_265_44 : decode (am_b 265) 44 = .ok (.iconst 1, 1) := by decide +kernel
theorem d_265_45 : decode (am_b 265) 45 = .ok (.aload_n 0, 1) := by decide +kernel
theorem d_265_46 : decode (am_b 265) 46 = .ok (.iload 4, 2) := by decide +kernel
theorem d_265_48 : decode (am_b 265) 48 = .ok (.aload_n 0, 1) := by decide +kernel
theorem d_265_49 : decode (am_b 265) 49 = .ok (.getfield 55, 3) := by decide +kernel
theorem d_265_52 : decode (am_b 265) 52 = .ok (.iload 4, 2) := by decide +kernel
theorem d_265_54 : decode (am_b 265) 54 = .ok (.iaload, 1) := by decide +kernel
theorem d_265_55 : decode (am_b 265) 55 = .ok (.invokevirtual 130, 3) := by decide +kernel
theorem d_265_58 : decode (am_b 265) 58 = .ok (.ishl, 1) := by decide +kernel
theorem d_265_59 : decode (am_b 265) 59 = .ok (.ior, 1) := by decide +kernel
theorem d_265_60 : decode (am_b 265) 60 = .ok (.istore_n 3, 1) := by decide +kernel
theorem d_265_61 : decode (am_b 265) 61 = .ok (.iinc 4 1, 3) := by decide +kernel
theorem d_265_64 : decode (am_b 265) 64 = .ok (.goto (-30), 3) := by decide +kernel
theorem d_265_67 : decode (am_b 265) 67 = .ok (.iload_n 3, 1) := by decide +kernel
theorem d_265_68 : decode (am_b 265) 68 = .ok (.iconst 1, 1) := by decide +kernel
theorem d_265_69 : decode (am_b 265) 69 = .ok (.aload_n 0, 1) := by decide +kernel
theorem d_265_70 : decode (am_b 265) 70 = .ok (.getfield 127, 3) := by decide +kernel
theorem d_265_73 : decode (am_b 265) 73 = .ok (.ishl, 1) := by decide +kernel
theorem d_265_74 : decode (am_b 265) 74 = .ok (.iconst 1, 1) := by decide +kernel
theorem d_265_75 : decode (am_b 265) 75 = .ok (.isub, 1) := by decide +kernel
theorem d_265_76 : decode (am_b 265) 76 = .ok (.if_icmp .eq 6, 3) := by decide +kernel
theorem d_265_79 : decode (am_b 265) 79 = .ok (.goto 23, 3) := by decide +kernel
theorem d_265_82 : decode (am_b 265) 82 = .ok (.aload_n 0, 1) := by decide +kernel
theorem d_265_83 : decode (am_b 265) 83 = .ok (.getfield 79, 3) := by decide +kernel
theorem d_265_86 : decode (am_b 265) 86 = .ok (.aload_n 0, 1) := by decide +kernel
theorem d_265_87 : decode (am_b 265) 87 = .ok (.getfield 325, 3) := by decide +kernel
theorem d_265_90 : decode (am_b 265) 90 = .ok (.iload_n 2, 1) := by decide +kernel
theorem d_265_91 : decode (am_b 265) 91 = .ok (.iastore, 1) := by decide +kernel
theorem d_265_92 : decode (am_b 265) 92 = .ok (.aload_n 0, 1) := by decide +kernel
theorem d_265_93 : decode (am_b 265) 93 = .ok (.dup, 1) := by decide +kernel
theorem d_265_94 : decode (am_b 265) 94 = .ok (.getfield 325, 3) := by decide +kernel
theorem d_265_97 : decode (am_b 265) 97 = .ok (.iconst 1, 1) := by decide +kernel
theorem d_265_98 : decode (am_b 265) 98 = .ok (.iadd, 1) := by decide +kernel
theorem d_265_99 : decode (am_b 265) 99 = .ok (.putfield 325, 3) := by decide +kernel
theorem d_265_102 : decode (am_b 265) 102 = .ok (.iinc 2 1, 3) := by decide +kernel
theorem d_265_105 : decode (am_b 265) 105 = .ok (.goto (-90), 3) := by decide +kernel
theorem d_265_108 : decode (am_b 265) 108 = .ok (.return_, 1) := by decide +kernel
theorem d_266_0 : decode (am_b 266) 0 = .ok (.iload_n 1, 1) := by decide +kernel
theorem d_266_1 : decode (am_b 266) 1 = .ok (.aload_n 0, 1) := by decide +kernel
theorem d_266_2 : decode (am_b 266) 2 = .ok (.getfield 127, 3) := by decide +kernel
theorem d_266_5 : decode (am_b 266) 5 = .ok (.if_icmp .ne 5, 3) := by decide +kernel
theorem d_266_8 : decode (am_b 266) 8 = .ok (.iconst 1, 1) := by decide +kernel
theorem d_266_9 : decode (am_b 266) 9 = .ok (.ireturn, 1) := by decide +kernel
theorem d_266_10 : decode (am_b 266) 10 = .ok (.iconst 0, 1) := by decide +kernel
theorem d_266_11 : decode (am_b 266) 11 = .ok (.istore_n 2, 1) := by decide +kernel
theorem d_266_12 : decode (am_b 266) 12 = .ok (.iconst 0, 1) := by decide +kernel
theorem d_266_13 : decode (am_b 266) 13 = .ok (.istore_n 3, 1) := by decide +kernel
theorem d_266_14 : decode (am_b 266) 14 = .ok (.iload_n 3, 1) := by decide +kernel
theorem d_266_15 : decode (am_b 266) 15 = .ok (.aload_n 0, 1) := by decide +kernel
theorem d_266_16 : decode (am_b 266) 16 = .ok (.getfield 325, 3) := by decide +kernel
theorem d_266_19 : decode (am_b 266) 19 = .ok (.if_icmp .ge 198, 3) := by decide +kernel
theorem d_266_22 : decode (am_b 266) 22 = .ok (.aload_n 0, 1) := by decide +kernel
theorem d_266_23 : decode (am_b 266) 23 = .ok (.aload_n 0, 1) := by decide +kernel
theorem d_266_24 : decode (am_b 266) 24 = .ok (.getfield 79, 3) := by decide +kernel
theorem d_266_27 : decode (am_b 266) 27 = .ok (.iload_n 3, 1) := by decide +kernel
theorem d_266_28 : decode (am_b 266) 28 = .ok (.iaload, 1) := by decide +kernel
theorem d_266_29 : decode (am_b 266) 29 = .ok (.aload_n 0, 1) := by decide +kernel
theorem d_266_30 : decode (am_b 266) 30 = .ok (.getfield 127, 3) := by decide +kernel
theorem d_266_33 : decode (am_b 266) 33 = .ok (.invokevirtual 273, 3) := by decide +kernel
theorem d_266_36 : decode (am_b 266) 36 = .ok (.aload_n 0, 1) := by decide +kernel
theorem d_266_37 : decode (am_b 266) 37 = .ok (.getfield 55, 3) := by decide +kernel
theorem d_266_40 : decode (am_b 266) 40 = .ok (.iconst 0, 1) := by decide +kernel
theorem d_266_41 : decode (am_b 266) 41 = .ok (.iaload, 1) := by decide +kernel
theorem d_266_42 : decode (am_b 266) 42 = .ok (.iload_n 1, 1) := by decide +kernel
theorem d_266_43 : decode (am_b 266) 43 = .ok (.if_icmp .ne 7, 3) := by decide +kernel
theorem d_266_46 : decode (am_b 266) 46 = .ok (.iconst 1, 1) := by decide +kernel
theorem d_266_47 : decode (am_b 266) 47 = .ok (.goto 4, 3) := by decide +kernel
theorem d_266_50 : decode (am_b 266) 50 = .ok (.iconst 0, 1) := by decide +kernel
theorem d_266_51 : decode (am_b 266) 51 = .ok (.istore 4, 2) := by decide +kernel
theorem d_266_53 : decode (am_b 266) 53 = .ok (.iconst 0, 1) := by decide +kernel
theorem d_266_54 : decode (am_b 266) 54 = .ok (.istore 5, 2) := by decide +kernel
theorem d_266_56 : decode (am_b 266) 56 = .ok (.iload 5, 2) := by decide +kernel
theorem d_266_58 : decode (am_b 266) 58 = .ok (.aload_n 0, 1) := by decide +kernel
theorem d_266_59 : decode (am_b 266) 59 = .ok (.getfield 127, 3) := by decide +kernel
theorem d_266_62 : decode (am_b 266) 62 = .ok (.if_icmp .ge 41, 3) := by decide +kernel
theorem d_266_65 : decode (am_b 266) 65 = .ok (.iload 4, 2) := by decide +kernel
theorem d_266_67 : decode (am_b 266) 67 = .ok (.ifCond .eq 27, 3) := by decide +kernel
theorem d_266_70 : decode (am_b 266) 70 = .ok (.aload_n 0, 1) := by decide +kernel
theorem d_266_71 : decode (am_b 266) 71 = .ok (.getfield 82, 3) := by decide +kernel
theorem d_266_74 : decode (am_b 266) 74 = .ok (.iload 5, 2) := by decide +kernel
theorem d_266_76 : decode (am_b 266) 76 = .ok (.iaload, 1) := by decide +kernel
theorem d_266_77 : decode (am_b 266) 77 = .ok (.aload_n 0, 1) := by decide +kernel
theorem d_266_78 : decode (am_b 266) 78 = .ok (.getfield 55, 3) := by decide +kernel
theorem d_266_81 : decode (am_b 266) 81 = .ok (.iload 5, 2) := by decide +kernel
theorem d_266_83 : decode (am_b 266) 83 = .ok (.iaload, 1) := by decide +kernel
theorem d_266_84 : decode (am_b 266) 84 = .ok (.ishr, 1) := by decide +kernel
theorem d_266_85 : decode (am_b 266) 85 = .ok (.iconst 1, 1) := by decide +kernel
theorem d_266_86 : decode (am_b 266) 86 = .ok (.iand, 1) := by decide +kernel
theorem d_266_87 : decode (am_b 266) 87 = .ok (.ifCond .ne 7, 3) := by decide +kernel
theorem d_266_90 : decode (am_b 266) 90 = .ok (.iconst 1, 1) := by decide +kernel
theorem d_266_91 : decode (am_b 266) 91 = .ok (.goto 4, 3) := by decide +kernel
theorem d_266_94 : decode (am_b 266) 94 = .ok (.iconst 0, 1) := by decide +kernel
theorem d_266_95 : decode (am_b 266) 95 = .ok (.istore 4, 2) := by decide +kernel
theorem d_266_97 : decode (am_b 266) 97 = .ok (.iinc 5 1, 3) := by decide +kernel
theorem d_266_100 : decode (am_b 266) 100 = .ok (.goto (-44), 3) := by decide +kernel
theorem d_266_103 : decode (am_b 266) 103 = .ok (.iload 4, 2) := by decide +kernel
theorem d_266_105 : decode (am_b 266) 105 = .ok (.ifCond .ne 6, 3) := by decide +kernel
theorem d_266_108 : decode (am_b 266) 108 = .ok (.goto 103, 3) := by decide +kernel
theorem d_266_111 : decode (am_b 266) 111 = .ok (.iconst 0, 1) := by decide +kernel
theorem d_266_112 : decode (am_b 266) 112 = .ok (.istore 5, 2) := by decide +kernel
theorem d_266_114 : decode (am_b 266) 114 = .ok (.iload 5, 2) := by decide +kernel
theorem d_266_116 : decode (am_b 266) 116 = .ok (.aload_n 0, 1) := by decide +kernel
theorem d_266_117 : decode (am_b 266) 117 = .ok (.getfield 127, 3) := by decide +kernel
theorem d_266_120 : decode (am_b 266) 120 = .ok (.if_icmp .ge 28, 3) := by decide +kernel
theorem d_266_123 : decode (am_b 266) 123 = .ok (.aload_n 0, 1) := by decide +kernel
theorem d_266_124 : decode (am_b 266) 124 = .ok (.getfield 82, 3) := by decide +kernel
theorem d_266_127 : decode (am_b 266) 127 = .ok (.iload 5, 2) := by decide +kernel
theorem d_266_129 : decode (am_b 266) 129 = .ok (.dup2, 1) := by decide +kernel
theorem d_266_130 : decode (am_b 266) 130 = .ok (.iaload, 1) := by decide +kernel
theorem d_266_131 : decode (am_b 266) 131 = .ok (.iconst 1, 1) := by decide +kernel
theorem d_266_132 : decode (am_b 266) 132 = .ok (.aload_n 0, 1) := by decide +kernel
theorem d_266_133 : decode (am_b 266) 133 = .ok (.getfield 55, 3) := by decide +kernel
theorem d_266_136 : decode (am_b 266) 136 = .ok (.iload 5, 2) := by decide +kernel
theorem d_266_138 : decode (am_b 266) 138 = .ok (.iaload, 1) := by decide +kernel
theorem d_266_139 : decode (am_b 266) 139 = .ok (.ishl, 1) := by decide +kernel
theorem d_266_140 : decode (am_b 266) 140 = .ok (.ior, 1) := by decide +kernel
theorem d_266_141 : decode (am_b 266) 141 = .ok (.iastore, 1) := by decide +kernel
theorem d_266_142 : decode (am_b 266) 142 = .ok (.iinc 5 1, 3) := by decide +kernel
theorem d_266_145 : decode (am_b 266) 145 = .ok (.goto (-31), 3) := by decide +kernel
theorem d_266_148 : decode (am_b 266) 148 = .ok (.iload_n 2, 1) := by decide +kernel
theorem d_266_149 : decode (am_b 266) 149 = .ok (.aload_n 0, 1) := by decide +kernel
theorem d_266_150 : decode (am_b 266) 150 = .ok (.iload_n 1, 1) := by decide +kernel
theorem d_266_151 : decode (am_b 266) 151 = .ok (.iconst 1, 1) := by decide +kernel
theorem d_266_152 : decode (am_b 266) 152 = .ok (.iadd, 1) := by decide +kernel
theorem d_266_153 : decode (am_b 266) 153 = .ok (.invokevirtual 328, 3) := by decide +kernel
theorem d_266_156 : decode (am_b 266) 156 = .ok (.iadd, 1) := by decide +kernel
theorem d_266_157 : decode (am_b 266) 157 = .ok (.istore_n 2, 1) := by decide +kernel
theorem d_266_158 : decode (am_b 266) 158 = .ok (.aload_n 0, 1) := by decide +kernel
theorem d_266_159 : decode (am_b 266) 159 = .ok (.aload_n 0, 1) := by decide +kernel
theorem d_266_160 : decode (am_b 266) 160 = .ok (.getfield 79, 3) := by decide +kernel
theorem d_266_163 : decode (am_b 266) 163 = .ok (.iload_n 3, 1) := by decide +kernel
theorem d_266_164 : decode (am_b 266) 164 = .ok (.iaload, 1) := by decide +kernel
theorem d_266_165 : decode (am_b 266) 165 = .ok (.aload_n 0, 1) := by decide +kernel
theorem d_266_166 : decode (am_b 266) 166 = .ok (.getfield 127, 3) := by decide +kernel
theorem d_266_169 : decode (am_b 266) 169 = .ok (.invokevirtual 273, 3) := by decide +kernel
theorem d_266_172 : decode (am_b 266) 172 = .ok (.iconst 0, 1) := by decide +kernel
theorem d_266_173 : decode (am_b 266) 173 = .ok (.istore 5, 2) := by decide +kernel
theorem d_266_175 : decode (am_b 266) 175 = .ok (.iload 5, 2) := by decide +kernel
theorem d_266_177 : decode (am_b 266) 177 = .ok (.aload_n 0, 1) := by decide +kernel
theorem d_266_178 : decode (am_b 266) 178 = .ok (.getfield 127, 3) := by decide +kernel
theorem d_266_181 : decode (am_b 266) 181 = .ok (.if_icmp .ge 30, 3) := by decide +kernel
theorem d_266_184 : decode (am_b 266) 184 = .ok (.aload_n 0, 1) := by decide +kernel
theorem d_266_185 : decode (am_b 266) 185 = .ok (.getfield 82, 3) := by decide +kernel
theorem d_266_188 : decode (am_b 266) 188 = .ok (.iload 5, 2) := by decide +kernel
theorem d_266_190 : decode (am_b 266) 190 = .ok (.dup2, 1) := by decide +kernel
theorem d_266_191 : decode (am_b 266) 191 = .ok (.iaload, 1) := by decide +kernel
theorem d_266_192 : decode (am_b 266) 192 = .ok (.iconst 1, 1) := by decide +kernel
theorem d_266_193 : decode (am_b 266) 193 = .ok (.aload_n 0, 1) := by decide +kernel
theorem d_266_194 : decode (am_b 266) 194 = .ok (.getfield 55, 3) := by decide +kernel
theorem d_266_197 : decode (am_b 266) 197 = .ok (.iload 5, 2) := by decide +kernel
theorem d_266_199 : decode (am_b 266) 199 = .ok (.iaload, 1) := by decide +kernel
theorem d_266_200 : decode (am_b 266) 200 = .ok (.ishl, 1) := by decide +kernel
theorem d_266_201 : decode (am_b 266) 201 = .ok (.iconst (-1), 1) := by decide +kernel
theorem d_266_202 : decode (am_b 266) 202 = .ok (.ixor, 1) := by decide +kernel
theorem d_266_203 : decode (am_b 266) 203 = .ok (.iand, 1) := by decide +kernel
theorem d_266_204 : decode (am_b 266) 204 = .ok (.iastore, 1) := by decide +kernel
theorem d_266_205 : decode (am_b 266) 205 = .ok (.iinc 5 1, 3) := by decide +kernel
theorem d_266_208 : decode (am_b 266) 208 = .ok (.goto (-33), 3) := by decide +kernel
theorem d_266_211 : decode (am_b 266) 211 = .ok (.iinc 3 1, 3) := by decide +kernel
theorem d_266_214 : decode (am_b 266) 214 = .ok (.goto (-200), 3) := by decide +kernel
theorem d_266_217 : decode (am_b 266) 217 = .ok (.iload_n 2, 1) := by decide +kernel
theorem d_266_218 : decode (am_b 266) 218 = .ok (.ireturn, 1) := by decide +kernel
theorem d_267_0 : decode (am_b 267) 0 = .ok (.aload_n 0, 1) := by decide +kernel
theorem d_267_1 : decode (am_b 267) 1 = .ok (.iload_n 1, 1) := by decide +kernel
theorem d_267_2 : decode (am_b 267) 2 = .ok (.invokevirtual 124, 3) := by decide +kernel
theorem d_267_5 : decode (am_b 267) 5 = .ok (.ifCond .eq 13, 3) := by decide +kernel
theorem d_267_8 : decode (am_b 267) 8 = .ok (.iload 4, 2) := by decide +kernel
theorem d_267_10 : decode (am_b 267) 10 = .ok (.iconst 0, 1) := by decide +kernel
theorem d_267_11 : decode (am_b 267) 11 = .ok (.iconst 1, 1) := by decide +kernel
theorem d_267_12 : decode (am_b 267) 12 = .ok (.invokestatic 106, 3) := by decide +kernel
theorem d_267_15 : decode (am_b 267) 15 = .ok (.ifCond .ne 5, 3) := by decide +kernel
theorem d_267_18 : decode (am_b 267) 18 = .ok (.iconst (-1), 1) := by decide +kernel
theorem d_267_19 : decode (am_b 267) 19 = .ok (.ireturn, 1) := by decide +kernel
theorem d_267_20 : decode (am_b 267) 20 = .ok (.aload_n 0, 1) := by decide +kernel
theorem d_267_21 : decode (am_b 267) 21 = .ok (.iload_n 1, 1) := by decide +kernel
theorem d_267_22 : decode (am_b 267) 22 = .ok (.invokevirtual 248, 3) := by decide +kernel
theorem d_267_25 : decode (am_b 267) 25 = .ok (.aload_n 0, 1) := by decide +kernel
theorem d_267_26 : decode (am_b 267) 26 = .ok (.iload_n 2, 1) := by decide +kernel
theorem d_267_27 : decode (am_b 267) 27 = .ok (.invokevirtual 260, 3) := by decide +kernel
theorem d_267_30 : decode (am_b 267) 30 = .ok (.ifCond .eq 16, 3) := by decide +kernel
theorem d_267_33 : decode (am_b 267) 33 = .ok (.aload_n 0, 1) := by decide +kernel
theorem d_267_34 : decode (am_b 267) 34 = .ok (.iload_n 3, 1) := by decide +kernel
theorem d_267_35 : decode (am_b 267) 35 = .ok (.invokevirtual 260, 3) := by decide +kernel
theorem d_267_38 : decode (am_b 267) 38 = .ok (.ifCond .eq 8, 3) := by decide +kernel
theorem d_267_41 : decode (am_b 267) 41 = .ok (.iload_n 2, 1) := by decide +kernel
theorem d_267_42 : decode (am_b 267) 42 = .ok (.iload_n 3, 1) := by decide +kernel
theorem d_267_43 : decode (am_b 267) 43 = .ok (.if_icmp .ne 5, 3) := by decide +kernel
theorem d_267_46 : decode (am_b 267) 46 = .ok (.iconst (-1), 1) := by decide +kernel
theorem d_267_47 : decode (am_b 267) 47 = .ok (.ireturn, 1) := by decide +kernel
theorem d_267_48 : decode (am_b 267) 48 = .ok (.iconst 0, 1) := by decide +kernel
theorem d_267_49 : decode (am_b 267) 49 = .ok (.istore 5, 2) := by decide +kernel
theorem d_267_51 : decode (am_b 267) 51 = .ok (.iconst 0, 1) := by decide +kernel
theorem d_267_52 : decode (am_b 267) 52 = .ok (.istore 6, 2) := by decide +kernel
theorem d_267_54 : decode (am_b 267) 54 = .ok (.iconst 0, 1) := by decide +kernel
theorem d_267_55 : decode (am_b 267) 55 = .ok (.istore 7, 2) := by decide +kernel
theorem d_267_57 : decode (am_b 267) 57 = .ok (.iconst 0, 1) := by decide +kernel
theorem d_267_58 : decode (am_b 267) 58 = .ok (.istore 8, 2) := by decide +kernel
theorem d_267_60 : decode (am_b 267) 60 = .ok (.iload 8, 2) := by decide +kernel
theorem d_267_62 : decode (am_b 267) 62 = .ok (.aload_n 0, 1) := by decide +kernel
theorem d_267_63 : decode (am_b 267) 63 = .ok (.getfield 127, 3) := by decide +kernel
theorem d_267_66 : decode (am_b 267) 66 = .ok (.if_icmp .ge 88, 3) := by decide +kernel
theorem d_267_69 : decode (am_b 267) 69 = .ok (.iload 5, 2) := by decide +kernel
theorem d_267_71 : decode (am_b 267) 71 = .ok (.iload 8, 2) := by decide +kernel
theorem d_267_73 : decode (am_b 267) 73 = .ok (.ishr, 1) := by decide +kernel
theorem d_267_74 : decode (am_b 267) 74 = .ok (.iconst 1, 1) := by decide +kernel
theorem d_267_75 : decode (am_b 267) 75 = .ok (.iand, 1) := by decide +kernel
theorem d_267_76 : decode (am_b 267) 76 = .ok (.iconst 1, 1) := by decide +kernel
theorem d_267_77 : decode (am_b 267) 77 = .ok (.if_icmp .ne 6, 3) := by decide +kernel
theorem d_267_80 : decode (am_b 267) 80 = .ok (.goto 68, 3) := by decide +kernel
theorem d_267_83 : decode (am_b 267) 83 = .ok (.iconst 0, 1) := by decide +kernel
theorem d_267_84 : decode (am_b 267) 84 = .ok (.istore 9, 2) := by decide +kernel
theorem d_267_86 : decode (am_b 267) 86 = .ok (.iload 8, 2) := by decide +kernel
theorem d_267_88 : decode (am_b 267) 88 = .ok (.istore 10, 2) := by decide +kernel
theorem d_267_90 : decode (am_b 267) 90 = .ok (.iload 5, 2) := by decide +kernel
theorem d_267_92 : decode (am_b 267) 92 = .ok (.iload 10, 2) := by decide +kernel
theorem d_267_94 : decode (am_b 267) 94 = .ok (.ishr, 1) := by decide +kernel
theorem d_267_95 : decode (am_b 267) 95 = .ok (.iconst 1, 1) := by decide +kernel
theorem d_267_96 : decode (am_b 267) 96 = .ok (.iand, 1) := by decide +kernel
theorem d_267_97 : decode (am_b 267) 97 = .ok (.ifCond .ne 32, 3) := by decide +kernel
theorem d_267_100 : decode (am_b 267) 100 = .ok (.iload 5, 2) := by decide +kernel
theorem d_267_102 : decode (am_b 267) 102 = .ok (.iconst 1, 1) := by decide +kernel
theorem d_267_103 : decode (am_b 267) 103 = .ok (.iload 10, 2) := by decide +kernel
theorem d_267_105 : decode (am_b 267) 105 = .ok (.ishl, 1) := by decide +kernel
theorem d_267_106 : decode (am_b 267) 106 = .ok (.ior, 1) := by decide +kernel
theorem d_267_107 : decode (am_b 267) 107 = .ok (.istore 5, 2) := by decide +kernel
theorem d_267_109 : decode (am_b 267) 109 = .ok (.iinc 9 1, 3) := by decide +kernel
theorem d_267_112 : decode (am_b 267) 112 = .ok (.aload_n 0, 1) := by decide +kernel
theorem d_267_113 : decode (am_b 267) 113 = .ok (.iload_n 2, 1) := by decide +kernel
theorem d_267_114 : decode (am_b 267) 114 = .ok (.aload_n 0, 1) := by decide +kernel
theorem d_267_115 : decode (am_b 267) 115 = .ok (.iload_n 3, 1) := by decide +kernel
theorem d_267_116 : decode (am_b 267) 116 = .ok (.iload 10, 2) := by decide +kernel
theorem d_267_118 : decode (am_b 267) 118 = .ok (.invokevirtual 130, 3) := by decide +kernel
theorem d_267_121 : decode (am_b 267) 121 = .ok (.invokevirtual 211, 3) := by decide +kernel
theorem d_267_124 : decode (am_b 267) 124 = .ok (.istore 10, 2) := by decide +kernel
theorem d_267_126 : decode (am_b 267) 126 = .ok (.goto (-36), 3) := by decide +kernel
theorem d_267_129 : decode (am_b 267) 129 = .ok (.iinc 6 1, 3) := by decide +kernel
theorem d_267_132 : decode (am_b 267) 132 = .ok (.iload 9, 2) := by decide +kernel
theorem d_267_134 : decode (am_b 267) 134 = .ok (.iload 7, 2) := by decide +kernel
theorem d_267_136 : decode (am_b 267) 136 = .ok (.if_icmp .le 8, 3) := by decide +kernel
theorem d_267_139 : decode (am_b 267) 139 = .ok (.iload 9, 2) := by decide +kernel
theorem d_267_141 : decode (am_b 267) 141 = .ok (.goto 5, 3) := by decide +kernel
theorem d_267_144 : decode (am_b 267) 144 = .ok (.iload 7, 2) := by decide +kernel
theorem d_267_146 : decode (am_b 267) 146 = .ok (.istore 7, 2) := by decide +kernel
theorem d_267_148 : decode (am_b 267) 148 = .ok (.iinc 8 1, 3) := by decide +kernel
theorem d_267_151 : decode (am_b 267) 151 = .ok (.goto (-91), 3) := by decide +kernel
theorem d_267_154 : decode (am_b 267) 154 = .ok (.iload 4, 2) := by decide +kernel
theorem d_267_156 : decode (am_b 267) 156 = .ok (.ifCond .ne 8, 3) := by decide +kernel
theorem d_267_159 : decode (am_b 267) 159 = .ok (.iload 6, 2) := by decide +kernel
theorem d_267_161 : decode (am_b 267) 161 = .ok (.goto 5, 3) := by decide +kernel
theorem d_267_164 : decode (am_b 267) 164 = .ok (.iload 7, 2) := by decide +kernel
theorem d_267_166 : decode (am_b 267) 166 = .ok (.ireturn, 1) := by decide +kernel
theorem d_268_0 : decode (am_b 268) 0 = .ok (.aload_n 0, 1) := by decide +kernel
theorem d_268_1 : decode (am_b 268) 1 = .ok (.iload_n 1, 1) := by decide +kernel
theorem d_268_2 : decode (am_b 268) 2 = .ok (.invokevirtual 124, 3) := by decide +kernel
theorem d_268_5 : decode (am_b 268) 5 = .ok (.ifCond .eq 24, 3) := by decide +kernel
theorem d_268_8 : decode (am_b 268) 8 = .ok (.aload_n 0, 1) := by decide +kernel
theorem d_268_9 : decode (am_b 268) 9 = .ok (.iload_n 2, 1) := by decide +kernel
theorem d_268_10 : decode (am_b 268) 10 = .ok (.invokevirtual 124, 3) := by decide +kernel
theorem d_268_13 : decode (am_b 268) 13 = .ok (.ifCond .eq 16, 3) := by decide +kernel
theorem d_268_16 : decode (am_b 268) 16 = .ok (.aload_n 0, 1) := by decide +kernel
theorem d_268_17 : decode (am_b 268) 17 = .ok (.iload_n 1, 1) := by decide +kernel
theorem d_268_18 : decode (am_b 268) 18 = .ok (.invokevirtual 121, 3) := by decide +kernel
theorem d_268_21 : decode (am_b 268) 21 = .ok (.aload_n 0, 1) := by decide +kernel
theorem d_268_22 : decode (am_b 268) 22 = .ok (.iload_n 2, 1) := by decide +kernel
theorem d_268_23 : decode (am_b 268) 23 = .ok (.invokevirtual 121, 3) := by decide +kernel
theorem d_268_26 : decode (am_b 268) 26 = .ok (.if_icmp .eq 5, 3) := by decide +kernel
theorem d_268_29 : decode (am_b 268) 29 = .ok (.iconst (-1), 1) := by decide +kernel
theorem d_268_30 : decode (am_b 268) 30 = .ok (.ireturn, 1) := by decide +kernel
theorem d_268_31 : decode (am_b 268) 31 = .ok (.iconst 0, 1) := by decide +kernel
theorem d_268_32 : decode (am_b 268) 32 = .ok (.istore_n 3, 1) := by decide +kernel
theorem d_268_33 : decode (am_b 268) 33 = .ok (.iconst 1, 1) := by decide +kernel
theorem d_268_34 : decode (am_b 268) 34 = .ok (.istore 4, 2) := by decide +kernel
theorem d_268_36 : decode (am_b 268) 36 = .ok (.iload 4, 2) := by decide +kernel
theorem d_268_38 : decode (am_b 268) 38 = .ok (.aload_n 0, 1) := by decide +kernel
theorem d_268_39 : decode (am_b 268) 39 = .ok (.iload_n 1, 1) := by decide +kernel
theorem d_268_40 : decode (am_b 268) 40 = .ok (.invokevirtual 121, 3) := by decide +kernel
theorem d_268_43 : decode (am_b 268) 43 = .ok (.aload_n 0, 1) := by decide +kernel
theorem d_268_44 : decode (am_b 268) 44 = .ok (.iload_n 1, 1) := by decide +kernel
theorem d_268_45 : decode (am_b 268) 45 = .ok (.invokevirtual 121, 3) := by decide +kernel
theorem d_268_48 : decode (am_b 268) 48 = .ok (.imul, 1) := by decide +kernel
theorem d_268_49 : decode (am_b 268) 49 = .ok (.if_icmp .gt 44, 3) := by decide +kernel
theorem d_268_52 : decode (am_b 268) 52 = .ok (.iload_n 3, 1) := by decide +kernel
theorem d_268_53 : decode (am_b 268) 53 = .ok (.aload_n 0, 1) := by decide +kernel
theorem d_268_54 : decode (am_b 268) 54 = .ok (.getfield 13, 3) := by decide +kernel
theorem d_268_57 : decode (am_b 268) 57 = .ok (.bipush 37, 2) := by decide +kernel
theorem d_268_59 : decode (am_b 268) 59 = .ok (.iload_n 1, 1) := by decide +kernel
theorem d_268_60 : decode (am_b 268) 60 = .ok (.imul, 1) := by decide +kernel
theorem d_268_61 : decode (am_b 268) 61 = .ok (.iload 4, 2) := by decide +kernel
theorem d_268_63 : decode (am_b 268) 63 = .ok (.iadd, 1) := by decide +kernel
theorem d_268_64 : decode (am_b 268) 64 = .ok (.iaload, 1) := by decide +kernel
theorem d_268_65 : decode (am_b 268) 65 = .ok (.aload_n 0, 1) := by decide +kernel
theorem d_268_66 : decode (am_b 268) 66 = .ok (.getfield 13, 3) := by decide +kernel
theorem d_268_69 : decode (am_b 268) 69 = .ok (.bipush 37, 2) := by decide +kernel
theorem d_268_71 : decode (am_b 268) 71 = .ok (.iload_n 2, 1) := by decide +kernel
theorem d_268_72 : decode (am_b 268) 72 = .ok (.imul, 1) := by decide +kernel
theorem d_268_73 : decode (am_b 268) 73 = .ok (.iload 4, 2) := by decide +kernel
theorem d_268_75 : decode (am_b 268) 75 = .ok (.iadd, 1) := by decide +kernel
theorem d_268_76 : decode (am_b 268) 76 = .ok (.iaload, 1) := by decide +kernel
theorem d_268_77 : decode (am_b 268) 77 = .ok (.if_icmp .ne 7, 3) := by decide +kernel
theorem d_268_80 : decode (am_b 268) 80 = .ok (.iconst 0, 1) := by decide +kernel
theorem d_268_81 : decode (am_b 268) 81 = .ok (.goto 4, 3) := by decide +kernel
theorem d_268_84 : decode (am_b 268) 84 = .ok (.iconst 1, 1) := by decide +kernel
theorem d_268_85 : decode (am_b 268) 85 = .ok (.iadd, 1) := by decide +kernel
theorem d_268_86 : decode (am_b 268) 86 = .ok (.istore_n 3, 1) := by decide +kernel
theorem d_268_87 : decode (am_b 268) 87 = .ok (.iinc 4 1, 3) := by decide +kernel
theorem d_268_90 : decode (am_b 268) 90 = .ok (.goto (-54), 3) := by decide +kernel
theorem d_268_93 : decode (am_b 268) 93 = .ok (.iload_n 3, 1) := by decide +kernel
theorem d_268_94 : decode (am_b 268) 94 = .ok (.ireturn, 1) := by decide +kernel
theorem d_269_0 : decode (am_b 269) 0 = .ok (.aload_n 0, 1) := by decide +kernel
theorem d_269_1 : decode (am_b 269) 1 = .ok (.iload_n 1, 1) := by decide +kernel
theorem d_269_2 : decode (am_b 269) 2 = .ok (.invokevirtual 124, 3) := by decide +kernel
theorem d_269_5 : decode (am_b 269) 5 = .ok (.ifCond .eq 12, 3) := by decide +kernel
theorem d_269_8 : decode (am_b 269) 8 = .ok (.iload_n 2, 1) := by decide +kernel
theorem d_269_9 : decode (am_b 269) 9 = .ok (.iconst 0, 1) := by decide +kernel
theorem d_269_10 : decode (am_b 269) 10 = .ok (.iconst 1, 1) := by decide +kernel
theorem d_269_11 : decode (am_b 269) 11 = .ok (.invokestatic 106, 3) := by decide +kernel
theorem d_269_14 : decode (am_b 269) 14 = .ok (.ifCond .ne 5, 3) := by decide +kernel
theorem d_269_17 : decode (am_b 269) 17 = .ok (.iconst (-1), 1) := by decide +kernel
theorem d_269_18 : decode (am_b 269) 18 = .ok (.ireturn, 1) := by decide +kernel
theorem d_269_19 : decode (am_b 269) 19 = .ok (.aload_n 0, 1) := by decide +kernel
theorem d_269_20 : decode (am_b 269) 20 = .ok (.iload_n 1, 1) := by decide +kernel
theorem d_269_21 : decode (am_b 269) 21 = .ok (.invokevirtual 121, 3) := by decide +kernel
theorem d_269_24 : decode (am_b 269) 24 = .ok (.istore_n 3, 1) := by decide +kernel
theorem d_269_25 : decode (am_b 269) 25 = .ok (.bipush 37, 2) := by decide +kernel
theorem d_269_27 : decode (am_b 269) 27 = .ok (.istore 4, 2) := by decide +kernel
theorem d_269_29 : decode (am_b 269) 29 = .ok (.iconst 0, 1) := by decide +kernel
theorem d_269_30 : decode (am_b 269) 30 = .ok (.istore 5, 2) := by decide +kernel
theorem d_269_32 : decode (am_b 269) 32 = .ok (.iconst 0, 1) := by decide +kernel
theorem d_269_33 : decode (am_b 269) 33 = .ok (.istore 6, 2) := by decide +kernel
theorem d_269_35 : decode (am_b 269) 35 = .ok (.iload 6, 2) := by decide +kernel
theorem d_269_37 : decode (am_b 269) 37 = .ok (.iconst 2, 1) := by decide +kernel
theorem d_269_38 : decode (am_b 269) 38 = .ok (.if_icmp .ge 241, 3) := by decide +kernel
theorem d_269_41 : decode (am_b 269) 41 = .ok (.aload_n 0, 1) := by decide +kernel
theorem d_269_42 : decode (am_b 269) 42 = .ok (.iload_n 3, 1) := by decide +kernel
theorem d_269_43 : decode (am_b 269) 43 = .ok (.iload 6, 2) := by decide +kernel
theorem d_269_45 : decode (am_b 269) 45 = .ok (.invokevirtual 334, 3) := by decide +kernel
theorem d_269_48 : decode (am_b 269) 48 = .ok (.ifCond .ne 6, 3) := by decide +kernel
theorem d_269_51 : decode (am_b 269) 51 = .ok (.goto 222, 3) := by decide +kernel
theorem d_269_54 : decode (am_b 269) 54 = .ok (.iconst 0, 1) := by decide +kernel
theorem d_269_55 : decode (am_b 269) 55 = .ok (.istore 7, 2) := by decide +kernel
theorem d_269_57 : decode (am_b 269) 57 = .ok (.iload 7, 2) := by decide +kernel
theorem d_269_59 : decode (am_b 269) 59 = .ok (.aload_n 0, 1) := by decide +kernel
theorem d_269_60 : decode (am_b 269) 60 = .ok (.getfield 127, 3) := by decide +kernel
theorem d_269_63 : decode (am_b 269) 63 = .ok (.aload_n 0, 1) := by decide +kernel
theorem d_269_64 : decode (am_b 269) 64 = .ok (.getfield 127, 3) := by decide +kernel
theorem d_269_67 : decode (am_b 269) 67 = .ok (.imul, 1) := by decide +kernel
theorem d_269_68 : decode (am_b 269) 68 = .ok (.if_icmp .ge 23, 3) := by decide +kernel
theorem d_269_71 : decode (am_b 269) 71 = .ok (.aload_n 0, 1) := by decide +kernel
theorem d_269_72 : decode (am_b 269) 72 = .ok (.getfield 76, 3) := by decide +kernel
theorem d_269_75 : decode (am_b 269) 75 = .ok (.iload 7, 2) := by decide +kernel
theorem d_269_77 : decode (am_b 269) 77 = .ok (.aload_n 0, 1) := by decide +kernel
theorem d_269_78 : decode (am_b 269) 78 = .ok (.getfield 23, 3) := by decide +kernel
theorem d_269_81 : decode (am_b 269) 81 = .ok (.iload 7, 2) := by decide +kernel
theorem d_269_83 : decode (am_b 269) 83 = .ok (.iaload, 1) := by decide +kernel
theorem d_269_84 : decode (am_b 269) 84 = .ok (.iastore, 1) := by decide +kernel
theorem d_269_85 : decode (am_b 269) 85 = .ok (.iinc 7 1, 3) := by decide +kernel
theorem d_269_88 : decode (am_b 269) 88 = .ok (.goto (-31), 3) := by decide +kernel
theorem d_269_91 : decode (am_b 269) 91 = .ok (.aload_n 0, 1) := by decide +kernel
theorem d_269_92 : decode (am_b 269) 92 = .ok (.invokevirtual 322, 3) := by decide +kernel
theorem d_269_95 : decode (am_b 269) 95 = .ok (.istore 7, 2) := by decide +kernel
theorem d_269_97 : decode (am_b 269) 97 = .ok (.aload_n 0, 1) := by decide +kernel
theorem d_269_98 : decode (am_b 269) 98 = .ok (.getfield 127, 3) := by decide +kernel
theorem d_269_101 : decode (am_b 269) 101 = .ok (.invokestatic 270, 3) := by decide +kernel
theorem d_269_104 : decode (am_b 269) 104 = .ok (.istore 8, 2) := by decide +kernel
theorem d_269_106 : decode (am_b 269) 106 = .ok (.iconst 0, 1) := by decide +kernel
theorem d_269_107 : decode (am_b 269) 107 = .ok (.istore 9, 2) := by decide +kernel
theorem d_269_109 : decode (am_b 269) 109 = .ok (.bipush 37, 2) := by decide +kernel
theorem d_269_111 : decode (am_b 269) 111 = .ok (.istore 10, 2) := by decide +kernel
theorem d_269_113 : decode (am_b 269) 113 = .ok (.iconst 0, 1) := by decide +kernel
theorem d_269_114 : decode (am_b 269) 114 = .ok (.istore 11, 2) := by decide +kernel
theorem d_269_116 : decode (am_b 269) 116 = .ok (.iload 11, 2) := by decide +kernel
theorem d_269_118 : decode (am_b 269) 118 = .ok (.iload 8, 2) := by decide +kernel
theorem d_269_120 : decode (am_b 269) 120 = .ok (.if_icmp .ge 114, 3) := by decide +kernel
theorem d_269_123 : decode (am_b 269) 123 = .ok (.aload_n 0, 1) := by decide +kernel
theorem d_269_124 : decode (am_b 269) 124 = .ok (.iload 11, 2) := by decide +kernel
theorem d_269_126 : decode (am_b 269) 126 = .ok (.aload_n 0, 1) := by decide +kernel
theorem d_269_127 : decode (am_b 269) 127 = .ok (.getfield 127, 3) := by decide +kernel
theorem d_269_130 : decode (am_b 269) 130 = .ok (.invokevirtual 273, 3) := by decide +kernel
theorem d_269_133 : decode (am_b 269) 133 = .ok (.aload_n 0, 1) := by decide +kernel
theorem d_269_134 : decode (am_b 269) 134 = .ok (.invokevirtual 276, 3) := by decide +kernel
theorem d_269_137 : decode (am_b 269) 137 = .ok (.iconst 0, 1) := by decide +kernel
theorem d_269_138 : decode (am_b 269) 138 = .ok (.istore 12, 2) := by decide +kernel
theorem d_269_140 : decode (am_b 269) 140 = .ok (.iconst 0, 1) := by decide +kernel
theorem d_269_141 : decode (am_b 269) 141 = .ok (.istore 13, 2) := by decide +kernel
theorem d_269_143 : decode (am_b 269) 143 = .ok (.iload 13, 2) := by decide +kernel
theorem d_269_145 : decode (am_b 269) 145 = .ok (.aload_n 0, 1) := by decide +kernel
theorem d_269_146 : decode (am_b 269) 146 = .ok (.getfield 127, 3) := by decide +kernel
theorem d_269_149 : decode (am_b 269) 149 = .ok (.aload_n 0, 1) := by decide +kernel
theorem d_269_150 : decode (am_b 269) 150 = .ok (.getfield 127, 3) := by decide +kernel
theorem d_269_153 : decode (am_b 269) 153 = .ok (.imul, 1) := by decide +kernel
theorem d_269_154 : decode (am_b 269) 154 = .ok (.if_icmp .ge 43, 3) := by decide +kernel
theorem d_269_157 : decode (am_b 269) 157 = .ok (.iload 12, 2) := by decide +kernel
theorem d_269_159 : decode (am_b 269) 159 = .ok (.aload_n 0, 1) := by decide +kernel
theorem d_269_160 : decode (am_b 269) 160 = .ok (.getfield 26, 3) := by decide +kernel
theorem d_269_163 : decode (am_b 269) 163 = .ok (.iload 13, 2) := by decide +kernel
theorem d_269_165 : decode (am_b 269) 165 = .ok (.iaload, 1) := by decide +kernel
theorem d_269_166 : decode (am_b 269) 166 = .ok (.aload_n 0, 1) := by decide +kernel
theorem d_269_167 : decode (am_b 269) 167 = .ok (.getfield 13, 3) := by decide +kernel
theorem d_269_170 : decode (am_b 269) 170 = .ok (.bipush 37, 2) := by decide +kernel
theorem d_269_172 : decode (am_b 269) 172 = .ok (.iload_n 1, 1) := by decide +kernel
theorem d_269_173 : decode (am_b 269) 173 = .ok (.imul, 1) := by decide +kernel
theorem d_269_174 : decode (am_b 269) 174 = .ok (.iconst 1, 1) := by decide +kernel
theorem d_269_175 : decode (am_b 269) 175 = .ok (.iadd, 1) := by decide +kernel
theorem d_269_176 : decode (am_b 269) 176 = .ok (.iload 13, 2) := by decide +kernel
theorem d_269_178 : decode (am_b 269) 178 = .ok (.iadd, 1) := by decide +kernel
theorem d_269_179 : decode (am_b 269) 179 = .ok (.iaload, 1) := by decide +kernel
theorem d_269_180 : decode (am_b 269) 180 = .ok (.if_icmp .ne 7, 3) := by decide +kernel
theorem d_269_183 : decode (am_b 269) 183 = .ok (.iconst 0, 1) := by decide +kernel
theorem d_269_184 : decode (am_b 269) 184 = .ok (.goto 4, 3) := by decide +kernel
theorem d_269_187 : decode (am_b 269) 187 = .ok (.iconst 1, 1) := by decide +kernel
theorem d_269_188 : decode (am_b 269) 188 = .ok (.iadd, 1) := by decide +kernel
theorem d_269_189 : decode (am_b 269) 189 = .ok (.istore 12, 2) := by decide +kernel
theorem d_269_191 : decode (am_b 269) 191 = .ok (.iinc 13 1, 3) := by decide +kernel
theorem d_269_194 : decode (am_b 269) 194 = .ok (.goto (-51), 3) := by decide +kernel
theorem d_269_197 : decode (am_b 269) 197 = .ok (.iload 12, 2) := by decide +kernel
theorem d_269_199 : decode (am_b 269) 199 = .ok (.iload 10, 2) := by decide +kernel
theorem d_269_201 : decode (am_b 269) 201 = .ok (.if_icmp .le 6, 3) := by decide +kernel
theorem d_269_204 : decode (am_b 269) 204 = .ok (.goto 24, 3) := by decide +kernel
theorem d_269_207 : decode (am_b 269) 207 = .ok (.iload 12, 2) := by decide +kernel
theorem d_269_209 : decode (am_b 269) 209 = .ok (.iload 10, 2) := by decide +kernel
theorem d_269_211 : decode (am_b 269) 211 = .ok (.if_icmp .ge 7, 3) := by decide +kernel
theorem d_269_214 : decode (am_b 269) 214 = .ok (.iconst 1, 1) := by decide +kernel
theorem d_269_215 : decode (am_b 269) 215 = .ok (.goto 7, 3) := by decide +kernel
theorem d_269_218 : decode (am_b 269) 218 = .ok (.iload 9, 2) := by decide +kernel
theorem d_269_220 : decode (am_b 269) 220 = .ok (.iconst 1, 1) := by decide +kernel
theorem d_269_221 : decode (am_b 269) 221 = .ok (.iadd, 1) := by decide +kernel
theorem d_269_222 : decode (am_b 269) 222 = .ok (.istore 9, 2) := by decide +kernel
theorem d_269_224 : decode (am_b 269) 224 = .ok (.iload 12, 2) := by decide +kernel
theorem d_269_226 : decode (am_b 269) 226 = .ok (.istore 10, 2) := by decide +kernel
theorem d_269_228 : decode (am_b 269) 228 = .ok (.iinc 11 1, 3) := by decide +kernel
theorem d_269_231 : decode (am_b 269) 231 = .ok (.goto (-115), 3) := by decide +kernel
theorem d_269_234 : decode (am_b 269) 234 = .ok (.iload 10, 2) := by decide +kernel
theorem d_269_236 : decode (am_b 269) 236 = .ok (.iload 4, 2) := by decide +kernel
theorem d_269_238 : decode (am_b 269) 238 = .ok (.if_icmp .le 6, 3) := by decide +kernel
theorem d_269_241 : decode (am_b 269) 241 = .ok (.goto 32, 3) := by decide +kernel
theorem d_269_244 : decode (am_b 269) 244 = .ok (.iload 10, 2) := by decide +kernel
theorem d_269_246 : decode (am_b 269) 246 = .ok (.iload 4, 2) := by decide +kernel
theorem d_269_248 : decode (am_b 269) 248 = .ok (.if_icmp .ge 11, 3) := by decide +kernel
theorem d_269_251 : decode (am_b 269) 251 = .ok (.iload 9, 2) := by decide +kernel
theorem d_269_253 : decode (am_b 269) 253 = .ok (.iload 7, 2) := by decide +kernel
theorem d_269_255 : decode (am_b 269) 255 = .ok (.idiv, 1) := by decide +kernel
theorem d_269_256 : decode (am_b 269) 256 = .ok (.goto 11, 3) := by decide +kernel
theorem d_269_259 : decode (am_b 269) 259 = .ok (.iload 5, 2) := by decide +kernel
theorem d_269_261 : decode (am_b 269) 261 = .ok (.iload 9, 2) := by decide +kernel
theorem d_269_263 : decode (am_b 269) 263 = .ok (.iload 7, 2) := by decide +kernel
theorem d_269_265 : decode (am_b 269) 265 = .ok (.idiv, 1) := by decide +kernel
theorem d_269_266 : decode (am_b 269) 266 = .ok (.iadd, 1) := by decide +kernel
theorem d_269_267 : decode (am_b 269) 267 = .ok (.istore 5, 2) := by decide +kernel
theorem d_269_269 : decode (am_b 269) 269 = .ok (.iload 10, 2) := by decide +kernel
theorem d_269_271 : decode (am_b 269) 271 = .ok (.istore 4, 2) := by decide +kernel
theorem d_269_273 : decode (am_b 269) 273 = .ok (.iinc 6 1, 3) := by decide +kernel
theorem d_269_276 : decode (am_b 269) 276 = .ok (.goto (-241), 3) := by decide +kernel
theorem d_269_279 : decode (am_b 269) 279 = .ok (.iload_n 2, 1) := by decide +kernel
theorem d_269_280 : decode (am_b 269) 280 = .ok (.ifCond .ne 8, 3) := by decide +kernel
theorem d_269_283 : decode (am_b 269) 283 = .ok (.iload 4, 2) := by decide +kernel
theorem d_269_285 : decode (am_b 269) 285 = .ok (.goto 5, 3) := by decide +kernel
theorem d_269_288 : decode (am_b 269) 288 = .ok (.iload 5, 2) := by decide +kernel
theorem d_269_290 : decode (am_b 269) 290 = .ok (.ireturn, 1) := by decide +kernel
theorem d_270_0 : decode (am_b 270) 0 = .ok (.iload_n 2, 1) := by decide +kernel
theorem d_270_1 : decode (am_b 270) 1 = .ok (.iconst 1, 1) := by decide +kernel
theorem d_270_2 : decode (am_b 270) 2 = .ok (.if_icmp .ne 16, 3) := by decide +kernel
theorem d_270_5 : decode (am_b 270) 5 = .ok (.iload_n 1, 1) := by decide +kernel
theorem d_270_6 : decode (am_b 270) 6 = .ok (.iconst 4, 1) := by decide +kernel
theorem d_270_7 : decode (am_b 270) 7 = .ok (.if_icmp .eq 11, 3) := by decide +kernel
theorem d_270_10 : decode (am_b 270) 10 = .ok (.iload_n 1, 1) := by decide +kernel
theorem d_270_11 : decode (am_b 270) 11 = .ok (.bipush 6, 2) := by decide +kernel
theorem d_270_13 : decode (am_b 270) 13 = .ok (.if_icmp .eq 5, 3) := by decide +kernel
theorem d_270_16 : decode (am_b 270) 16 = .ok (.iconst 0, 1) := by decide +kernel
theorem d_270_17 : decode (am_b 270) 17 = .ok (.ireturn, 1) := by decide +kernel
theorem d_270_18 : decode (am_b 270) 18 = .ok (.aload_n 0, 1) := by decide +kernel
theorem d_270_19 : decode (am_b 270) 19 = .ok (.iload_n 1, 1) := by decide +kernel
theorem d_270_20 : decode (am_b 270) 20 = .ok (.putfield 127, 3) := by decide +kernel
theorem d_270_23 : decode (am_b 270) 23 = .ok (.iconst 0, 1) := by decide +kernel
theorem d_270_24 : decode (am_b 270) 24 = .ok (.istore_n 3, 1) := by decide +kernel
theorem d_270_25 : decode (am_b 270) 25 = .ok (.iload_n 3, 1) := by decide +kernel
theorem d_270_26 : decode (am_b 270) 26 = .ok (.aload_n 0, 1) := by decide +kernel
theorem d_270_27 : decode (am_b 270) 27 = .ok (.getfield 127, 3) := by decide +kernel
theorem d_270_30 : decode (am_b 270) 30 = .ok (.if_icmp .ge 136, 3) := by decide +kernel
theorem d_270_33 : decode (am_b 270) 33 = .ok (.iconst 0, 1) := by decide +kernel
theorem d_270_34 : decode (am_b 270) 34 = .ok (.istore 4, 2) := by decide +kernel
theorem d_270_36 : decode (am_b 270) 36 = .ok (.iload 4, 2) := by decide +kernel
theorem d_270_38 : decode (am_b 270) 38 = .ok (.aload_n 0, 1) := by decide +kernel
theorem d_270_39 : decode (am_b 270) 39 = .ok (.getfield 127, 3) := by decide +kernel
theorem d_270_42 : decode (am_b 270) 42 = .ok (.if_icmp .ge 118, 3) := by decide +kernel
theorem d_270_45 : decode (am_b 270) 45 = .ok (.iload_n 3, 1) := by decide +kernel
theorem d_270_46 : decode (am_b 270) 46 = .ok (.iconst 3, 1) := by decide +kernel
theorem d_270_47 : decode (am_b 270) 47 = .ok (.if_icmp .ge 16, 3) := by decide +kernel
theorem d_270_50 : decode (am_b 270) 50 = .ok (.iload_n 3, 1) := by decide +kernel
theorem d_270_51 : decode (am_b 270) 51 = .ok (.iconst 3, 1) := by decide +kernel
theorem d_270_52 : decode (am_b 270) 52 = .ok (.irem, 1) := by decide +kernel
theorem d_270_53 : decode (am_b 270) 53 = .ok (.iload 4, 2) := by decide +kernel
theorem d_270_55 : decode (am_b 270) 55 = .ok (.iconst 3, 1) := by decide +kernel
theorem d_270_56 : decode (am_b 270) 56 = .ok (.irem, 1) := by decide +kernel
theorem d_270_57 : decode (am_b 270) 57 = .ok (.iadd, 1) := by decide +kernel
theorem d_270_58 : decode (am_b 270) 58 = .ok (.iconst 3, 1) := by decide +kernel
theorem d_270_59 : decode (am_b 270) 59 = .ok (.irem, 1) := by decide +kernel
theorem d_270_60 : decode (am_b 270) 60 = .ok (.goto 15, 3) := by decide +kernel
theorem d_270_63 : decode (am_b 270) 63 = .ok (.iload_n 3, 1) := by decide +kernel
theorem d_270_64 : decode (am_b 270) 64 = .ok (.iconst 3, 1) := by decide +kernel
theorem d_270_65 : decode (am_b 270) 65 = .ok (.irem, 1) := by decide +kernel
theorem d_270_66 : decode (am_b 270) 66 = .ok (.iconst 3, 1) := by decide +kernel
theorem d_270_67 : decode (am_b 270) 67 = .ok (.iadd, 1) := by decide +kernel
theorem d_270_68 : decode (am_b 270) 68 = .ok (.iload 4, 2) := by decide +kernel
theorem d_270_70 : decode (am_b 270) 70 = .ok (.iconst 3, 1) := by decide +kernel
theorem d_270_71 : decode (am_b 270) 71 = .ok (.irem, 1) := by decide +kernel
theorem d_270_72 : decode (am_b 270) 72 = .ok (.isub, 1) := by decide +kernel
theorem d_270_73 : decode (am_b 270) 73 = .ok (.iconst 3, 1) := by decide +kernel
theorem d_270_74 : decode (am_b 270) 74 = .ok (.irem, 1) := by decide +kernel
theorem d_270_75 : decode (am_b 270) 75 = .ok (.istore 5, 2) := by decide +kernel
theorem d_270_77 : decode (am_b 270) 77 = .ok (.aload_n 0, 1) := by decide +kernel
theorem d_270_78 : decode (am_b 270) 78 = .ok (.getfield 23, 3) := by decide +kernel
theorem d_270_81 : decode (am_b 270) 81 = .ok (.aload_n 0, 1) := by decide +kernel
theorem d_270_82 : decode (am_b 270) 82 = .ok (.getfield 127, 3) := by decide +kernel
theorem d_270_85 : decode (am_b 270) 85 = .ok (.iload_n 3, 1) := by decide +kernel
theorem d_270_86 : decode (am_b 270) 86 = .ok (.imul, 1) := by decide +kernel
theorem d_270_87 : decode (am_b 270) 87 = .ok (.iload 4, 2) := by decide +kernel
theorem d_270_89 : decode (am_b 270) 89 = .ok (.iadd, 1) := by decide +kernel
theorem d_270_90 : decode (am_b 270) 90 = .ok (.iload_n 2, 1) := by decide +kernel
theorem d_270_91 : decode (am_b 270) 91 = .ok (.ifCond .ne 15, 3) := by decide +kernel
theorem d_270_94 : decode (am_b 270) 94 = .ok (.iload_n 3, 1) := by decide +kernel
theorem d_270_95 : decode (am_b 270) 95 = .ok (.iload 4, 2) := by decide +kernel
theorem d_270_97 : decode (am_b 270) 97 = .ok (.iadd, 1) := by decide +kernel
theorem d_270_98 : decode (am_b 270) 98 = .ok (.aload_n 0, 1) := by decide +kernel
theorem d_270_99 : decode (am_b 270) 99 = .ok (.getfield 127, 3) := by decide +kernel
theorem d_270_102 : decode (am_b 270) 102 = .ok (.irem, 1) := by decide +kernel
theorem d_270_103 : decode (am_b 270) 103 = .ok (.goto 50, 3) := by decide +kernel
theorem d_270_106 : decode (am_b 270) 106 = .ok (.aload_n 0, 1) := by decide +kernel
theorem d_270_107 : decode (am_b 270) 107 = .ok (.getfield 127, 3) := by decide +kernel
theorem d_270_110 : decode (am_b 270) 110 = .ok (.iconst 4, 1) := by decide +kernel
theorem d_270_111 : decode (am_b 270) 111 = .ok (.if_icmp .ne 10, 3) := by decide +kernel
theorem d_270_114 : decode (am_b 270) 114 = .ok (.iload_n 3, 1) := by decide +kernel
theorem d_270_115 : decode (am_b 270) 115 = .ok (.iload 4, 2) := by decide +kernel
theorem d_270_117 : decode (am_b 270) 117 = .ok (.ixor, 1) := by decide +kernel
theorem d_270_118 : decode (am_b 270) 118 = .ok (.goto 35, 3) := by decide +kernel
theorem d_270_121 : decode (am_b 270) 121 = .ok (.iload 5, 2) := by decide +kernel
theorem d_270_123 : decode (am_b 270) 123 = .ok (.iload_n 3, 1) := by decide +kernel
theorem d_270_124 : decode (am_b 270) 124 = .ok (.iconst 3, 1) := by decide +kernel
theorem d_270_125 : decode (am_b 270) 125 = .ok (.if_icmp .ge 7, 3) := by decide +kernel
theorem d_270_128 : decode (am_b 270) 128 = .ok (.iconst 1, 1) := by decide +kernel
theorem d_270_129 : decode (am_b 270) 129 = .ok (.goto 4, 3) := by decide +kernel
theorem d_270_132 : decode (am_b 270) 132 = .ok (.iconst 0, 1) := by decide +kernel
theorem d_270_133 : decode (am_b 270) 133 = .ok (.iload 4, 2) := by decide +kernel
theorem d_270_135 : decode (am_b 270) 135 = .ok (.iconst 3, 1) := by decide +kernel
theorem d_270_136 : decode (am_b 270) 136 = .ok (.if_icmp .ge 7, 3) := by decide +kernel
theorem d_270_139 : decode (am_b 270) 139 = .ok (.iconst 1, 1) := by decide +kernel
theorem d_270_140 : decode (am_b 270) 140 = .ok (.goto 4, 3) := by decide +kernel
theorem d_270_143 : decode (am_b 270) 143 = .ok (.iconst 0, 1) := by decide +kernel
theorem d_270_144 : decode (am_b 270) 144 = .ok (.if_icmp .ne 7, 3) := by decide +kernel
theorem d_270_147 : decode (am_b 270) 147 = .ok (.iconst 0, 1) := by decide +kernel
theorem d_270_148 : decode (am_b 270) 148 = .ok (.goto 4, 3) := by decide +kernel
theorem d_270_151 : decode (am_b 270) 151 = .ok (.iconst 3, 1) := by decide +kernel
theorem d_270_152 : decode (am_b 270) 152 = .ok (.iadd, 1) := by decide +kernel
theorem d_270_153 : decode (am_b 270) 153 = .ok (.iastore, 1) := by decide +kernel
theorem d_270_154 : decode (am_b 270) 154 = .ok (.iinc 4 1, 3) := by decide +kernel
theorem d_270_157 : decode (am_b 270) 157 = .ok (.goto (-121), 3) := by decide +kernel
theorem d_270_160 : decode (am_b 270) 160 = .ok (.iinc 3 1, 3) := by decide +kernel
theorem d_270_163 : decode (am_b 270) 163 = .ok (.goto (-138), 3) := by decide +kernel
theorem d_270_166 : decode (am_b 270) 166 = .ok (.iconst 1, 1) := by decide +kernel
theorem d_270_167 : decode (am_b 270) 167 = .ok (.ireturn, 1) := by decide +kernel
theorem d_271_0 : decode (am_b 271) 0 = .ok (.iload_n 1, 1) := by decide +kernel
theorem d_271_1 : decode (am_b 271) 1 = .ok (.iconst 1, 1) := by decide +kernel
theorem d_271_2 : decode (am_b 271) 2 = .ok (.bipush 6, 2) := by decide +kernel
theorem d_271_4 : decode (am_b 271) 4 = .ok (.invokestatic 106, 3) := by decide +kernel
theorem d_271_7 : decode (am_b 271) 7 = .ok (.ifCond .eq 19, 3) := by decide +kernel
theorem d_271_10 : decode (am_b 271) 10 = .ok (.aload_n 0, 1) := by decide +kernel
theorem d_271_11 : decode (am_b 271) 11 = .ok (.iload_n 2, 1) := by decide +kernel
theorem d_271_12 : decode (am_b 271) 12 = .ok (.invokevirtual 361, 3) := by decide +kernel
theorem d_271_15 : decode (am_b 271) 15 = .ok (.ifCond .eq 11, 3) := by decide +kernel
theorem d_271_18 : decode (am_b 271) 18 = .ok (.aload_n 0, 1) := by decide +kernel
theorem d_271_19 : decode (am_b 271) 19 = .ok (.iload_n 3, 1) := by decide +kernel
theorem d_271_20 : decode (am_b 271) 20 = .ok (.invokevirtual 361, 3) := by decide +kernel
theorem d_271_23 : decode (am_b 271) 23 = .ok (.ifCond .ne 5, 3) := by decide +kernel
theorem d_271_26 : decode (am_b 271) 26 = .ok (.iconst (-1), 1) := by decide +kernel
theorem d_271_27 : decode (am_b 271) 27 = .ok (.ireturn, 1) := by decide +kernel
theorem d_271_28 : decode (am_b 271) 28 = .ok (.aload_n 0, 1) := by decide +kernel
theorem d_271_29 : decode (am_b 271) 29 = .ok (.getfield 94, 3) := by decide +kernel
theorem d_271_32 : decode (am_b 271) 32 = .ok (.aload_n 0, 1) := by decide +kernel
theorem d_271_33 : decode (am_b 271) 33 = .ok (.getfield 103, 3) := by decide +kernel
theorem d_271_36 : decode (am_b 271) 36 = .ok (.if_icmp .ne 32, 3) := by decide +kernel
theorem d_271_39 : decode (am_b 271) 39 = .ok (.aload_n 0, 1) := by decide +kernel
theorem d_271_40 : decode (am_b 271) 40 = .ok (.getfield 364, 3) := by decide +kernel
theorem d_271_43 : decode (am_b 271) 43 = .ok (.iload_n 1, 1) := by decide +kernel
theorem d_271_44 : decode (am_b 271) 44 = .ok (.if_icmp .ne 24, 3) := by decide +kernel
theorem d_271_47 : decode (am_b 271) 47 = .ok (.aload_n 0, 1) := by decide +kernel
theorem d_271_48 : decode (am_b 271) 48 = .ok (.getfield 367, 3) := by decide +kernel
theorem d_271_51 : decode (am_b 271) 51 = .ok (.iload_n 2, 1) := by decide +kernel
theorem d_271_52 : decode (am_b 271) 52 = .ok (.if_icmp .ne 16, 3) := by decide +kernel
theorem d_271_55 : decode (am_b 271) 55 = .ok (.aload_n 0, 1) := by decide +kernel
theorem d_271_56 : decode (am_b 271) 56 = .ok (.getfield 370, 3) := by decide +kernel
theorem d_271_59 : decode (am_b 271) 59 = .ok (.iload_n 3, 1) := by decide +kernel
theorem d_271_60 : decode (am_b 271) 60 = .ok (.if_icmp .ne 8, 3) := by decide +kernel
theorem d_271_63 : decode (am_b 271) 63 = .ok (.aload_n 0, 1) := by decide +kernel
theorem d_271_64 : decode (am_b 271) 64 = .ok (.getfield 373, 3) := by decide +kernel
theorem d_271_67 : decode (am_b 271) 67 = .ok (.ireturn, 1) := by decide +kernel
theorem d_271_68 : decode (am_b 271) 68 = .ok (.aload_n 0, 1) := by decide +kernel
theorem d_271_69 : decode (am_b 271) 69 = .ok (.aload_n 0, 1) := by decide +kernel
theorem d_271_70 : decode (am_b 271) 70 = .ok (.iload_n 1, 1) := by decide +kernel
theorem d_271_71 : decode (am_b 271) 71 = .ok (.iload_n 2, 1) := by decide +kernel
theorem d_271_72 : decode (am_b 271) 72 = .ok (.iload_n 3, 1) := by decide +kernel
theorem d_271_73 : decode (am_b 271) 73 = .ok (.iconst (-1), 1) := by decide +kernel
theorem d_271_74 : decode (am_b 271) 74 = .ok (.invokevirtual 376, 3) := by decide +kernel
theorem d_271_77 : decode (am_b 271) 77 = .ok (.putfield 373, 3) := by decide +kernel
theorem d_271_80 : decode (am_b 271) 80 = .ok (.aload_n 0, 1) := by decide +kernel
theorem d_271_81 : decode (am_b 271) 81 = .ok (.aload_n 0, 1) := by decide +kernel
theorem d_271_82 : decode (am_b 271) 82 = .ok (.getfield 103, 3) := by decide +kernel
theorem d_271_85 : decode (am_b 271) 85 = .ok (.putfield 94, 3) := by decide +kernel
theorem d_271_88 : decode (am_b 271) 88 = .ok (.aload_n 0, 1) := by decide +kernel
theorem d_271_89 : decode (am_b 271) 89 = .ok (.iload_n 1, 1) := by decide +kernel
theorem d_271_90 : decode (am_b 271) 90 = .ok (.putfield 364, 3) := by decide +kernel
theorem d_271_93 : decode (am_b 271) 93 = .ok (.aload_n 0, 1) := by decide +kernel
theorem d_271_94 : decode (am_b 271) 94 = .ok (.iload_n 2, 1) := by decide +kernel
theorem d_271_95 : decode (am_b 271) 95 = .ok (.putfield 367, 3) := by decide +kernel
theorem d_271_98 : decode (am_b 271) 98 = .ok (.aload_n 0, 1) := by decide +kernel
theorem d_271_99 : decode (am_b 271) 99 = .ok (.iload_n 3, 1) := by decide +kernel
theorem d_271_100 : decode (am_b 271) 100 = .ok (.putfield 370, 3) := by decide +kernel
theorem d_271_103 : decode (am_b 271) 103 = .ok (.aload_n 0, 1) := by decide +kernel
theorem d_271_104 : decode (am_b 271) 104 = .ok (.getfield 373, 3) := by decide +kernel
theorem d_271_107 : decode (am_b 271) 107 = .ok (.ireturn, 1) := by decide +kernel
theorem d_272_0 : decode (am_b 272) 0 = .ok (.iload_n 1, 1) := by decide +kernel
theorem d_272_1 : decode (am_b 272) 1 = .ok (.iconst 0, 1) := by decide +kernel
theorem d_272_2 : decode (am_b 272) 2 = .ok (.iconst 1, 1) := by decide +kernel
theorem d_272_3 : decode (am_b 272) 3 = .ok (.aload_n 0, 1) := by decide +kernel
theorem d_272_4 : decode (am_b 272) 4 = .ok (.getfield 13, 3) := by decide +kernel
theorem d_272_7 : decode (am_b 272) 7 = .ok (.sipush 2509, 3) := by decide +kernel
theorem d_272_10 : decode (am_b 272) 10 = .ok (.iaload, 1) := by decide +kernel
theorem d_272_11 : decode (am_b 272) 11 = .ok (.ishl, 1) := by decide +kernel
theorem d_272_12 : decode (am_b 272) 12 = .ok (.iconst 1, 1) := by decide +kernel
theorem d_272_13 : decode (am_b 272) 13 = .ok (.isub, 1) := by decide +kernel
theorem d_272_14 : decode (am_b 272) 14 = .ok (.invokestatic 106, 3) := by decide +kernel
theorem d_272_17 : decode (am_b 272) 17 = .ok (.ireturn, 1) := by decide +kernel
theorem d_273_0 : decode (am_b 273) 0 = .ok (.aload_n 0, 1) := by decide +kernel
theorem d_273_1 : decode (am_b 273) 1 = .ok (.iload_n 1, 1) := by decide +kernel
theorem d_273_2 : decode (am_b 273) 2 = .ok (.iload 4, 2) := by decide +kernel
theorem d_273_4 : decode (am_b 273) 4 = .ok (.invokevirtual 358, 3) := by decide +kernel
theorem d_273_7 : decode (am_b 273) 7 = .ok (.iconst 0, 1) := by decide +kernel
theorem d_273_8 : decode (am_b 273) 8 = .ok (.istore 5, 2) := by decide +kernel
theorem d_273_10 : decode (am_b 273) 10 = .ok (.iload 5, 2) := by decide +kernel
theorem d_273_12 : decode (am_b 273) 12 = .ok (.aload_n 0, 1) := by decide +kernel
theorem d_273_13 : decode (am_b 273) 13 = .ok (.getfield 127, 3) := by decide +kernel
theorem d_273_16 : decode (am_b 273) 16 = .ok (.aload_n 0, 1) := by decide +kernel
theorem d_273_17 : decode (am_b 273) 17 = .ok (.getfield 127, 3) := by decide +kernel
theorem d_273_20 : decode (am_b 273) 20 = .ok (.imul, 1) := by decide +kernel
theorem d_273_21 : decode (am_b 273) 21 = .ok (.if_icmp .ge 51, 3) := by decide +kernel
theorem d_273_24 : decode (am_b 273) 24 = .ok (.aload_n 0, 1) := by decide +kernel
theorem d_273_25 : decode (am_b 273) 25 = .ok (.getfield 91, 3) := by decide +kernel
theorem d_273_28 : decode (am_b 273) 28 = .ok (.iload 5, 2) := by decide +kernel
theorem d_273_30 : decode (am_b 273) 30 = .ok (.iload 5, 2) := by decide +kernel
theorem d_273_32 : decode (am_b 273) 32 = .ok (.aload_n 0, 1) := by decide +kernel
theorem d_273_33 : decode (am_b 273) 33 = .ok (.getfield 127, 3) := by decide +kernel
theorem d_273_36 : decode (am_b 273) 36 = .ok (.if_icmp .ge 8, 3) := by decide +kernel
theorem d_273_39 : decode (am_b 273) 39 = .ok (.iload 5, 2) := by decide +kernel
theorem d_273_41 : decode (am_b 273) 41 = .ok (.goto 24, 3) := by decide +kernel
theorem d_273_44 : decode (am_b 273) 44 = .ok (.iload 5, 2) := by decide +kernel
theorem d_273_46 : decode (am_b 273) 46 = .ok (.aload_n 0, 1) := by decide +kernel
theorem d_273_47 : decode (am_b 273) 47 = .ok (.getfield 127, 3) := by decide +kernel
theorem d_273_50 : decode (am_b 273) 50 = .ok (.irem, 1) := by decide +kernel
theorem d_273_51 : decode (am_b 273) 51 = .ok (.ifCond .ne 13, 3) := by decide +kernel
theorem d_273_54 : decode (am_b 273) 54 = .ok (.iload 5, 2) := by decide +kernel
theorem d_273_56 : decode (am_b 273) 56 = .ok (.aload_n 0, 1) := by decide +kernel
theorem d_273_57 : decode (am_b 273) 57 = .ok (.getfield 127, 3) := by decide +kernel
theorem d_273_60 : decode (am_b 273) 60 = .ok (.idiv, 1) := by decide +kernel
theorem d_273_61 : decode (am_b 273) 61 = .ok (.goto 4, 3) := by decide +kernel
theorem d_273_64 : decode (am_b 273) 64 = .ok (.iconst (-1), 1) := by decide +kernel
theorem d_273_65 : decode (am_b 273) 65 = .ok (.iastore, 1) := by decide +kernel
theorem d_273_66 : decode (am_b 273) 66 = .ok (.iinc 5 1, 3) := by decide +kernel
theorem d_273_69 : decode (am_b 273) 69 = .ok (.goto (-59), 3) := by decide +kernel
theorem d_273_72 : decode (am_b 273) 72 = .ok (.aload_n 0, 1) := by decide +kernel
theorem d_273_73 : decode (am_b 273) 73 = .ok (.iconst 1, 1) := by decide +kernel
theorem d_273_74 : decode (am_b 273) 74 = .ok (.putfield 343, 3) := by decide +kernel
theorem d_273_77 : decode (am_b 273) 77 = .ok (.aload_n 0, 1) := by decide +kernel
theorem d_273_78 : decode (am_b 273) 78 = .ok (.iload_n 2, 1) := by decide +kernel
theorem d_273_79 : decode (am_b 273) 79 = .ok (.putfield 352, 3) := by decide +kernel
theorem d_273_82 : decode (am_b 273) 82 = .ok (.aload_n 0, 1) := by decide +kernel
theorem d_273_83 : decode (am_b 273) 83 = .ok (.iload_n 3, 1) := by decide +kernel
theorem d_273_84 : decode (am_b 273) 84 = .ok (.putfield 355, 3) := by decide +kernel
theorem d_273_87 : decode (am_b 273) 87 = .ok (.aload_n 0, 1) := by decide +kernel
theorem d_273_88 : decode (am_b 273) 88 = .ok (.iconst 0, 1) := by decide +kernel
theorem d_273_89 : decode (am_b 273) 89 = .ok (.invokevirtual 349, 3) := by decide +kernel
theorem d_273_92 : decode (am_b 273) 92 = .ok (.aload_n 0, 1) := by decide +kernel
theorem d_273_93 : decode (am_b 273) 93 = .ok (.iconst 0, 1) := by decide +kernel
theorem d_273_94 : decode (am_b 273) 94 = .ok (.putfield 343, 3) := by decide +kernel
theorem d_273_97 : decode (am_b 273) 97 = .ok (.aload_n 0, 1) := by decide +kernel
theorem d_273_98 : decode (am_b 273) 98 = .ok (.getfield 337, 3) := by decide +kernel
theorem d_273_101 : decode (am_b 273) 101 = .ok (.ireturn, 1) := by decide +kernel
theorem d_274_0 : decode (am_b 274) 0 = .ok (.aload_n 0, 1) := by decide +kernel
theorem d_274_1 : decode (am_b 274) 1 = .ok (.iload_n 1, 1) := by decide +kernel
theorem d_274_2 : decode (am_b 274) 2 = .ok (.putfield 127, 3) := by decide +kernel
theorem d_274_5 : decode (am_b 274) 5 = .ok (.aload_n 0, 1) := by decide +kernel
theorem d_274_6 : decode (am_b 274) 6 = .ok (.iload_n 1, 1) := by decide +kernel
theorem d_274_7 : decode (am_b 274) 7 = .ok (.putfield 134, 3) := by decide +kernel
theorem d_274_10 : decode (am_b 274) 10 = .ok (.aload_n 0, 1) := by decide +kernel
theorem d_274_11 : decode (am_b 274) 11 = .ok (.iload_n 2, 1) := by decide +kernel
theorem d_274_12 : decode (am_b 274) 12 = .ok (.putfield 340, 3) := by decide +kernel
theorem d_274_15 : decode (am_b 274) 15 = .ok (.aload_n 0, 1) := by decide +kernel
theorem d_274_16 : decode (am_b 274) 16 = .ok (.iconst 0, 1) := by decide +kernel
theorem d_274_17 : decode (am_b 274) 17 = .ok (.putfield 337, 3) := by decide +kernel
theorem d_274_20 : decode (am_b 274) 20 = .ok (.iconst 0, 1) := by decide +kernel
theorem d_274_21 : decode (am_b 274) 21 = .ok (.istore_n 3, 1) := by decide +kernel
theorem d_274_22 : decode (am_b 274) 22 = .ok (.iload_n 3, 1) := by decide +kernel
theorem d_274_23 : decode (am_b 274) 23 = .ok (.bipush 6, 2) := by decide +kernel
theorem d_274_25 : decode (am_b 274) 25 = .ok (.if_icmp .ge 23, 3) := by decide +kernel
theorem d_274_28 : decode (am_b 274) 28 = .ok (.aload_n 0, 1) := by decide +kernel
theorem d_274_29 : decode (am_b 274) 29 = .ok (.getfield 85, 3) := by decide +kernel
theorem d_274_32 : decode (am_b 274) 32 = .ok (.iload_n 3, 1) := by decide +kernel
theorem d_274_33 : decode (am_b 274) 33 = .ok (.iconst 0, 1) := by decide +kernel
theorem d_274_34 : decode (am_b 274) 34 = .ok (.iastore, 1) := by decide +kernel
theorem d_274_35 : decode (am_b 274) 35 = .ok (.aload_n 0, 1) := by decide +kernel
theorem d_274_36 : decode (am_b 274) 36 = .ok (.getfield 88, 3) := by decide +kernel
theorem d_274_39 : decode (am_b 274) 39 = .ok (.iload_n 3, 1) := by decide +kernel
theorem d_274_40 : decode (am_b 274) 40 = .ok (.iconst 0, 1) := by decide +kernel
theorem d_274_41 : decode (am_b 274) 41 = .ok (.iastore, 1) := by decide +kernel
theorem d_274_42 : decode (am_b 274) 42 = .ok (.iinc 3 1, 3) := by decide +kernel
theorem d_274_45 : decode (am_b 274) 45 = .ok (.goto (-23), 3) := by decide +kernel
theorem d_274_48 : decode (am_b 274) 48 = .ok (.return_, 1) := by decide +kernel
theorem d_275_0 : decode (am_b 275) 0 = .ok (.aload_n 0, 1) := by decide +kernel
theorem d_275_1 : decode (am_b 275) 1 = .ok (.getfield 337, 3) := by decide +kernel
theorem d_275_4 : decode (am_b 275) 4 = .ok (.aload_n 0, 1) := by decide +kernel
theorem d_275_5 : decode (am_b 275) 5 = .ok (.getfield 340, 3) := by decide +kernel
theorem d_275_8 : decode (am_b 275) 8 = .ok (.if_icmp .ne 4, 3) := by decide +kernel
theorem d_275_11 : decode (am_b 275) 11 = .ok (.return_, 1) := by decide +kernel
theorem d_275_12 : decode (am_b 275) 12 = .ok (.iload_n 1, 1) := by decide +kernel
theorem d_275_13 : decode (am_b 275) 13 = .ok (.aload_n 0, 1) := by decide +kernel
theorem d_275_14 : decode (am_b 275) 14 = .ok (.getfield 127, 3) := by decide +kernel
theorem d_275_17 : decode (am_b 275) 17 = .ok (.aload_n 0, 1) := by decide +kernel
theorem d_275_18 : decode (am_b 275) 18 = .ok (.getfield 127, 3) := by decide +kernel
theorem d_275_21 : decode (am_b 275) 21 = .ok (.imul, 1) := by decide +kernel
theorem d_275_22 : decode (am_b 275) 22 = .ok (.if_icmp .ne 73, 3) := by decide +kernel
theorem d_275_25 : decode (am_b 275) 25 = .ok (.aload_n 0, 1) := by decide +kernel
theorem d_275_26 : decode (am_b 275) 26 = .ok (.getfield 343, 3) := by decide +kernel
theorem d_275_29 : decode (am_b 275) 29 = .ok (.ifCond .eq 11, 3) := by decide +kernel
theorem d_275_32 : decode (am_b 275) 32 = .ok (.aload_n 0, 1) := by decide +kernel
theorem d_275_33 : decode (am_b 275) 33 = .ok (.invokevirtual 346, 3) := by decide +kernel
theorem d_275_36 : decode (am_b 275) 36 = .ok (.ifCond .ne 4, 3) := by decide +kernel
theorem d_275_39 : decode (am_b 275) 39 = .ok (.return_, 1) := by decide +kernel
theorem d_275_40 : decode (am_b 275) 40 = .ok (.aload_n 0, 1) := by decide +kernel
theorem d_275_41 : decode (am_b 275) 41 = .ok (.dup, 1) := by decide +kernel
theorem d_275_42 : decode (am_b 275) 42 = .ok (.getfield 337, 3) := by decide +kernel
theorem d_275_45 : decode (am_b 275) 45 = .ok (.iconst 1, 1) := by decide +kernel
theorem d_275_46 : decode (am_b 275) 46 = .ok (.iadd, 1) := by decide +kernel
theorem d_275_47 : decode (am_b 275) 47 = .ok (.putfield 337, 3) := by decide +kernel
theorem d_275_50 : decode (am_b 275) 50 = .ok (.aload_n 0, 1) := by decide +kernel
theorem d_275_51 : decode (am_b 275) 51 = .ok (.getfield 337, 3) := by decide +kernel
theorem d_275_54 : decode (am_b 275) 54 = .ok (.aload_n 0, 1) := by decide +kernel
theorem d_275_55 : decode (am_b 275) 55 = .ok (.getfield 340, 3) := by decide +kernel
theorem d_275_58 : decode (am_b 275) 58 = .ok (.if_icmp .ne 36, 3) := by decide +kernel
theorem d_275_61 : decode (am_b 275) 61 = .ok (.iconst 0, 1) := by decide +kernel
theorem d_275_62 : decode (am_b 275) 62 = .ok (.istore_n 2, 1) := by decide +kernel
theorem d_275_63 : decode (am_b 275) 63 = .ok (.iload_n 2, 1) := by decide +kernel
theorem d_275_64 : decode (am_b 275) 64 = .ok (.aload_n 0, 1) := by decide +kernel
theorem d_275_65 : decode (am_b 275) 65 = .ok (.getfield 127, 3) := by decide +kernel
theorem d_275_68 : decode (am_b 275) 68 = .ok (.aload_n 0, 1) := by decide +kernel
theorem d_275_69 : decode (am_b 275) 69 = .ok (.getfield 127, 3) := by decide +kernel
theorem d_275_72 : decode (am_b 275) 72 = .ok (.imul, 1) := by decide +kernel
theorem d_275_73 : decode (am_b 275) 73 = .ok (.if_icmp .ge 21, 3) := by decide +kernel
theorem d_275_76 : decode (am_b 275) 76 = .ok (.aload_n 0, 1) := by decide +kernel
theorem d_275_77 : decode (am_b 275) 77 = .ok (.getfield 26, 3) := by decide +kernel
theorem d_275_80 : decode (am_b 275) 80 = .ok (.iload_n 2, 1) := by decide +kernel
theorem d_275_81 : decode (am_b 275) 81 = .ok (.aload_n 0, 1) := by decide +kernel
theorem d_275_82 : decode (am_b 275) 82 = .ok (.getfield 23, 3) := by decide +kernel
theorem d_275_85 : decode (am_b 275) 85 = .ok (.iload_n 2, 1) := by decide +kernel
theorem d_275_86 : decode (am_b 275) 86 = .ok (.iaload, 1) := by decide +kernel
theorem d_275_87 : decode (am_b 275) 87 = .ok (.iastore, 1) := by decide +kernel
theorem d_275_88 : decode (am_b 275) 88 = .ok (.iinc 2 1, 3) := by decide +kernel
theorem d_275_91 : decode (am_b 275) 91 = .ok (.goto (-28), 3) := by decide +kernel
theorem d_275_94 : decode (am_b 275) 94 = .ok (.return_, 1) := by decide +kernel
theorem d_275_95 : decode (am_b 275) 95 = .ok (.iload_n 1, 1) := by decide +kernel
theorem d_275_96 : decode (am_b 275) 96 = .ok (.aload_n 0, 1) := by decide +kernel
theorem d_275_97 : decode (am_b 275) 97 = .ok (.getfield 127, 3) := by decide +kernel
theorem d_275_100 : decode (am_b 275) 100 = .ok (.idiv, 1) := by decide +kernel
theorem d_275_101 : decode (am_b 275) 101 = .ok (.istore_n 2, 1) := by decide +kernel
theorem d_275_102 : decode (am_b 275) 102 = .ok (.iload_n 1, 1) := by decide +kernel
theorem d_275_103 : decode (am_b 275) 103 = .ok (.aload_n 0, 1) := by decide +kernel
theorem d_275_104 : decode (am_b 275) 104 = .ok (.getfield 127, 3) := by decide +kernel
theorem d_275_107 : decode (am_b 275) 107 = .ok (.irem, 1) := by decide +kernel
theorem d_275_108 : decode (am_b 275) 108 = .ok (.istore_n 3, 1) := by decide +kernel
theorem d_275_109 : decode (am_b 275) 109 = .ok (.iconst 0, 1) := by decide +kernel
theorem d_275_110 : decode (am_b 275) 110 = .ok (.istore 4, 2) := by decide +kernel
theorem d_275_112 : decode (am_b 275) 112 = .ok (.iload 4, 2) := by decide +kernel
theorem d_275_114 : decode (am_b 275) 114 = .ok (.aload_n 0, 1) := by decide +kernel
theorem d_275_115 : decode (am_b 275) 115 = .ok (.getfield 127, 3) := by decide +kernel
theorem d_275_118 : decode (am_b 275) 118 = .ok (.if_icmp .ge 132, 3) := by decide +kernel
theorem d_275_121 : decode (am_b 275) 121 = .ok (.aload_n 0, 1) := by decide +kernel
theorem d_275_122 : decode (am_b 275) 122 = .ok (.getfield 337, 3) := by decide +kernel
theorem d_275_125 : decode (am_b 275) 125 = .ok (.aload_n 0, 1) := by decide +kernel
theorem d_275_126 : decode (am_b 275) 126 = .ok (.getfield 340, 3) := by decide +kernel
theorem d_275_129 : decode (am_b 275) 129 = .ok (.if_icmp .eq 121, 3) := by decide +kernel
theorem d_275_132 : decode (am_b 275) 132 = .ok (.iconst 1, 1) := by decide +kernel
theorem d_275_133 : decode (am_b 275) 133 = .ok (.iload 4, 2) := by decide +kernel
theorem d_275_135 : decode (am_b 275) 135 = .ok (.ishl, 1) := by decide +kernel
theorem d_275_136 : decode (am_b 275) 136 = .ok (.istore 5, 2) := by decide +kernel
theorem d_275_138 : decode (am_b 275) 138 = .ok (.aload_n 0, 1) := by decide +kernel
theorem d_275_139 : decode (am_b 275) 139 = .ok (.getfield 91, 3) := by decide +kernel
theorem d_275_142 : decode (am_b 275) 142 = .ok (.iload_n 1, 1) := by decide +kernel
theorem d_275_143 : decode (am_b 275) 143 = .ok (.iaload, 1) := by decide +kernel
theorem d_275_144 : decode (am_b 275) 144 = .ok (.iconst (-1), 1) := by decide +kernel
theorem d_275_145 : decode (am_b 275) 145 = .ok (.if_icmp .eq 14, 3) := by decide +kernel
theorem d_275_148 : decode (am_b 275) 148 = .ok (.aload_n 0, 1) := by decide +kernel
theorem d_275_149 : decode (am_b 275) 149 = .ok (.getfield 91, 3) := by decide +kernel
theorem d_275_152 : decode (am_b 275) 152 = .ok (.iload_n 1, 1) := by decide +kernel
theorem d_275_153 : decode (am_b 275) 153 = .ok (.iaload, 1) := by decide +kernel
theorem d_275_154 : decode (am_b 275) 154 = .ok (.iload 4, 2) := by decide +kernel
theorem d_275_156 : decode (am_b 275) 156 = .ok (.if_icmp .ne 88, 3) := by decide +kernel
theorem d_275_159 : decode (am_b 275) 159 = .ok (.aload_n 0, 1) := by decide +kernel
theorem d_275_160 : decode (am_b 275) 160 = .ok (.getfield 85, 3) := by decide +kernel
theorem d_275_163 : decode (am_b 275) 163 = .ok (.iload_n 2, 1) := by decide +kernel
theorem d_275_164 : decode (am_b 275) 164 = .ok (.iaload, 1) := by decide +kernel
theorem d_275_165 : decode (am_b 275) 165 = .ok (.aload_n 0, 1) := by decide +kernel
theorem d_275_166 : decode (am_b 275) 166 = .ok (.getfield 88, 3) := by decide +kernel
theorem d_275_169 : decode (am_b 275) 169 = .ok (.iload_n 3, 1) := by decide +kernel
theorem d_275_170 : decode (am_b 275) 170 = .ok (.iaload, 1) := by decide +kernel
theorem d_275_171 : decode (am_b 275) 171 = .ok (.ior, 1) := by decide +kernel
theorem d_275_172 : decode (am_b 275) 172 = .ok (.iload 5, 2) := by decide +kernel
theorem d_275_174 : decode (am_b 275) 174 = .ok (.iand, 1) := by decide +kernel
theorem d_275_175 : decode (am_b 275) 175 = .ok (.ifCond .eq 6, 3) := by decide +kernel
theorem d_275_178 : decode (am_b 275) 178 = .ok (.goto 66, 3) := by decide +kernel
theorem d_275_181 : decode (am_b 275) 181 = .ok (.aload_n 0, 1) := by decide +kernel
theorem d_275_182 : decode (am_b 275) 182 = .ok (.getfield 85, 3) := by decide +kernel
theorem d_275_185 : decode (am_b 275) 185 = .ok (.iload_n 2, 1) := by decide +kernel
theorem d_275_186 : decode (am_b 275) 186 = .ok (.dup2, 1) := by decide +kernel
theorem d_275_187 : decode (am_b 275) 187 = .ok (.iaload, 1) := by decide +kernel
theorem d_275_188 : decode (am_b 275) 188 = .ok (.iload 5, 2) := by decide +kernel
theorem d_275_190 : decode (am_b 275) 190 = .ok (.ior, 1) := by decide +kernel
theorem d_275_191 : decode (am_b 275) 191 = .ok (.iastore, 1) := by decide +kernel
theorem d_275_192 : decode (am_b 275) 192 = .ok (.aload_n 0, 1) := by decide +kernel
theorem d_275_193 : decode (am_b 275) 193 = .ok (.getfield 88, 3) := by decide +kernel
theorem d_275_196 : decode (am_b 275) 196 = .ok (.iload_n 3, 1) := by decide +kernel
theorem d_275_197 : decode (am_b 275) 197 = .ok (.dup2, 1) := by decide +kernel
theorem d_275_198 : decode (am_b 275) 198 = .ok (.iaload, 1) := by decide +kernel
theorem d_275_199 : decode (am_b 275) 199 = .ok (.iload 5, 2) := by decide +kernel
theorem d_275_201 : decode (am_b 275) 201 = .ok (.ior, 1) := by decide +kernel
theorem d_275_202 : decode (am_b 275) 202 = .ok (.iastore, 1) := by decide +kernel
theorem d_275_203 : decode (am_b 275) 203 = .ok (.aload_n 0, 1) := by decide +kernel
theorem d_275_204 : decode (am_b 275) 204 = .ok (.getfield 23, 3) := by decide +kernel
theorem d_275_207 : decode (am_b 275) 207 = .ok (.iload_n 1, 1) := by decide +kernel
theorem d_275_208 : decode (am_b 275) 208 = .ok (.iload 4, 2) := by decide +kernel
theorem d_275_210 : decode (am_b 275) 210 = .ok (.iastore, 1) := by decide +kernel
theorem d_275_211 : decode (am_b 275) 211 = .ok (.aload_n 0, 1) := by decide +kernel
theorem d_275_212 : decode (am_b 275) 212 = .ok (.iload_n 1, 1) := by decide +kernel
theorem d_275_213 : decode (am_b 275) 213 = .ok (.iconst 1, 1) := by decide +kernel
theorem d_275_214 : decode (am_b 275) 214 = .ok (.iadd, 1) := by decide +kernel
theorem d_275_215 : decode (am_b 275) 215 = .ok (.invokevirtual 349, 3) := by decide +kernel
theorem d_275_218 : decode (am_b 275) 218 = .ok (.aload_n 0, 1) := by decide +kernel
theorem d_275_219 : decode (am_b 275) 219 = .ok (.getfield 85, 3) := by decide +kernel
theorem d_275_222 : decode (am_b 275) 222 = .ok (.iload_n 2, 1) := by decide +kernel
theorem d_275_223 : decode (am_b 275) 223 = .ok (.dup2, 1) := by decide +kernel
theorem d_275_224 : decode (am_b 275) 224 = .ok (.iaload, 1) := by decide +kernel
theorem d_275_225 : decode (am_b 275) 225 = .ok (.iload 5, 2) := by decide +kernel
theorem d_275_227 : decode (am_b 275) 227 = .ok (.iconst (-1), 1) := by decide +kernel
theorem d_275_228 : decode (am_b 275) 228 = .ok (.ixor, 1) := by decide +kernel
theorem d_275_229 : decode (am_b 275) 229 = .ok (.iand, 1) := by decide +kernel
theorem d_275_230 : decode (am_b 275) 230 = .ok (.iastore, 1) := by decide +kernel
theorem d_275_231 : decode (am_b 275) 231 = .ok (.aload_n 0, 1) := by decide +kernel
theorem d_275_232 : decode (am_b 275) 232 = .ok (.getfield 88, 3) := by decide +kernel
theorem d_275_235 : decode (am_b 275) 235 = .ok (.iload_n 3, 1) := by decide +kernel
theorem d_275_236 : decode (am_b 275) 236 = .ok (.dup2, 1) := by decide +kernel
theorem d_275_237 : decode (am_b 275) 237 = .ok (.iaload, 1) := by decide +kernel
theorem d_275_238 : decode (am_b 275) 238 = .ok (.iload 5, 2) := by decide +kernel
theorem d_275_240 : decode (am_b 275) 240 = .ok (.iconst (-1), 1) := by decide +kernel
theorem d_275_241 : decode (am_b 275) 241 = .ok (.ixor, 1) := by decide +kernel
theorem d_275_242 : decode (am_b 275) 242 = .ok (.iand, 1) := by decide +kernel
theorem d_275_243 : decode (am_b 275) 243 = .ok (.iastore, 1) := by decide +kernel
theorem d_275_244 : decode (am_b 275) 244 = .ok (.iinc 4 1, 3) := by decide +kernel
theorem d_275_247 : decode (am_b 275) 247 = .ok (.goto (-135), 3) := by decide +kernel
theorem d_275_250 : decode (am_b 275) 250 = .ok (.return_, 1) := by decide +kernel
theorem d_276_0 : decode (am_b 276) 0 = .ok (.iconst 0, 1) := by decide +kernel
theorem d_276_1 : decode (am_b 276) 1 = .ok (.istore_n 1, 1) := by decide +kernel
theorem d_276_2 : decode (am_b 276) 2 = .ok (.iload_n 1, 1) := by decide +kernel
theorem d_276_3 : decode (am_b 276) 3 = .ok (.aload_n 0, 1) := by decide +kernel
theorem d_276_4 : decode (am_b 276) 4 = .ok (.getfield 13, 3) := by decide +kernel
theorem d_276_7 : decode (am_b 276) 7 = .ok (.sipush 2509, 3) := by decide +kernel
theorem d_276_10 : decode (am_b 276) 10 = .ok (.iaload, 1) := by decide +kernel
theorem d_276_11 : decode (am_b 276) 11 = .ok (.if_icmp .ge 83, 3) := by decide +kernel
theorem d_276_14 : decode (am_b 276) 14 = .ok (.aload_n 0, 1) := by decide +kernel
theorem d_276_15 : decode (am_b 276) 15 = .ok (.getfield 352, 3) := by decide +kernel
theorem d_276_18 : decode (am_b 276) 18 = .ok (.iload_n 1, 1) := by decide +kernel
theorem d_276_19 : decode (am_b 276) 19 = .ok (.ishr, 1) := by decide +kernel
theorem d_276_20 : decode (am_b 276) 20 = .ok (.iconst 1, 1) := by decide +kernel
theorem d_276_21 : decode (am_b 276) 21 = .ok (.iand, 1) := by decide +kernel
theorem d_276_22 : decode (am_b 276) 22 = .ok (.iconst 1, 1) := by decide +kernel
theorem d_276_23 : decode (am_b 276) 23 = .ok (.if_icmp .ne 7, 3) := by decide +kernel
theorem d_276_26 : decode (am_b 276) 26 = .ok (.iconst 1, 1) := by decide +kernel
theorem d_276_27 : decode (am_b 276) 27 = .ok (.goto 4, 3) := by decide +kernel
theorem d_276_30 : decode (am_b 276) 30 = .ok (.iconst 0, 1) := by decide +kernel
theorem d_276_31 : decode (am_b 276) 31 = .ok (.istore_n 2, 1) := by decide +kernel
theorem d_276_32 : decode (am_b 276) 32 = .ok (.aload_n 0, 1) := by decide +kernel
theorem d_276_33 : decode (am_b 276) 33 = .ok (.getfield 355, 3) := by decide +kernel
theorem d_276_36 : decode (am_b 276) 36 = .ok (.iload_n 1, 1) := by decide +kernel
theorem d_276_37 : decode (am_b 276) 37 = .ok (.ishr, 1) := by decide +kernel
theorem d_276_38 : decode (am_b 276) 38 = .ok (.iconst 1, 1) := by decide +kernel
theorem d_276_39 : decode (am_b 276) 39 = .ok (.iand, 1) := by decide +kernel
theorem d_276_40 : decode (am_b 276) 40 = .ok (.iconst 1, 1) := by decide +kernel
theorem d_276_41 : decode (am_b 276) 41 = .ok (.if_icmp .ne 7, 3) := by decide +kernel
theorem d_276_44 : decode (am_b 276) 44 = .ok (.iconst 1, 1) := by decide +kernel
theorem d_276_45 : decode (am_b 276) 45 = .ok (.goto 4, 3) := by decide +kernel
theorem d_276_48 : decode (am_b 276) 48 = .ok (.iconst 0, 1) := by decide +kernel
theorem d_276_49 : decode (am_b 276) 49 = .ok (.istore_n 3, 1) := by decide +kernel
theorem d_276_50 : decode (am_b 276) 50 = .ok (.iload_n 2, 1) := by decide +kernel
theorem d_276_51 : decode (am_b 276) 51 = .ok (.ifCond .ne 10, 3) := by decide +kernel
theorem d_276_54 : decode (am_b 276) 54 = .ok (.iload_n 3, 1) := by decide +kernel
theorem d_276_55 : decode (am_b 276) 55 = .ok (.ifCond .ne 6, 3) := by decide +kernel
theorem d_276_58 : decode (am_b 276) 58 = .ok (.goto 30, 3) := by decide +kernel
theorem d_276_61 : decode (am_b 276) 61 = .ok (.aload_n 0, 1) := by decide +kernel
theorem d_276_62 : decode (am_b 276) 62 = .ok (.iload_n 1, 1) := by decide +kernel
theorem d_276_63 : decode (am_b 276) 63 = .ok (.invokevirtual 251, 3) := by decide +kernel
theorem d_276_66 : decode (am_b 276) 66 = .ok (.istore 4, 2) := by decide +kernel
theorem d_276_68 : decode (am_b 276) 68 = .ok (.iload_n 2, 1) := by decide +kernel
theorem d_276_69 : decode (am_b 276) 69 = .ok (.ifCond .eq 8, 3) := by decide +kernel
theorem d_276_72 : decode (am_b 276) 72 = .ok (.iload 4, 2) := by decide +kernel
theorem d_276_74 : decode (am_b 276) 74 = .ok (.ifCond .eq 12, 3) := by decide +kernel
theorem d_276_77 : decode (am_b 276) 77 = .ok (.iload_n 3, 1) := by decide +kernel
theorem d_276_78 : decode (am_b 276) 78 = .ok (.ifCond .eq 10, 3) := by decide +kernel
theorem d_276_81 : decode (am_b 276) 81 = .ok (.iload 4, 2) := by decide +kernel
theorem d_276_83 : decode (am_b 276) 83 = .ok (.ifCond .eq 5, 3) := by decide +kernel
theorem d_276_86 : decode (am_b 276) 86 = .ok (.iconst 0, 1) := by decide +kernel
theorem d_276_87 : decode (am_b 276) 87 = .ok (.ireturn, 1) := by decide +kernel
theorem d_276_88 : decode (am_b 276) 88 = .ok (.iinc 1 1, 3) := by decide +kernel
theorem d_276_91 : decode (am_b 276) 91 = .ok (.goto (-89), 3) := by decide +kernel
theorem d_276_94 : decode (am_b 276) 94 = .ok (.iconst 1, 1) := by decide +kernel
theorem d_276_95 : decode (am_b 276) 95 = .ok (.ireturn, 1) := by decide +kernel
theorem d_277_0 : decode (am_b 277) 0 = .ok (.iload_n 1, 1) := by decide +kernel
theorem d_277_1 : decode (am_b 277) 1 = .ok (.invokestatic 117, 3) := by decide +kernel
theorem d_277_4 : decode (am_b 277) 4 = .ok (.ifCond .eq 30, 3) := by decide +kernel
theorem d_277_7 : decode (am_b 277) 7 = .ok (.iload_n 2, 1) := by decide +kernel
theorem d_277_8 : decode (am_b 277) 8 = .ok (.iconst 1, 1) := by decide +kernel
theorem d_277_9 : decode (am_b 277) 9 = .ok (.bipush 6, 2) := by decide +kernel
theorem d_277_11 : decode (am_b 277) 11 = .ok (.invokestatic 106, 3) := by decide +kernel
theorem d_277_14 : decode (am_b 277) 14 = .ok (.ifCond .eq 20, 3) := by decide +kernel
theorem d_277_17 : decode (am_b 277) 17 = .ok (.aload_n 0, 1) := by decide +kernel
theorem d_277_18 : decode (am_b 277) 18 = .ok (.iload_n 3, 1) := by decide +kernel
theorem d_277_19 : decode (am_b 277) 19 = .ok (.invokevirtual 361, 3) := by decide +kernel
theorem d_277_22 : decode (am_b 277) 22 = .ok (.ifCond .eq 12, 3) := by decide +kernel
theorem d_277_25 : decode (am_b 277) 25 = .ok (.aload_n 0, 1) := by decide +kernel
theorem d_277_26 : decode (am_b 277) 26 = .ok (.iload 4, 2) := by decide +kernel
theorem d_277_28 : decode (am_b 277) 28 = .ok (.invokevirtual 361, 3) := by decide +kernel
theorem d_277_31 : decode (am_b 277) 31 = .ok (.ifCond .ne 9, 3) := by decide +kernel
theorem d_277_34 : decode (am_b 277) 34 = .ok (.aload_n 0, 1) := by decide +kernel
theorem d_277_35 : decode (am_b 277) 35 = .ok (.iconst (-1), 1) := by decide +kernel
theorem d_277_36 : decode (am_b 277) 36 = .ok (.invokevirtual 110, 3) := by decide +kernel
theorem d_277_39 : decode (am_b 277) 39 = .ok (.ireturn, 1) := by decide +kernel
theorem d_277_40 : decode (am_b 277) 40 = .ok (.iload 5, 2) := by decide +kernel
theorem d_277_42 : decode (am_b 277) 42 = .ok (.iconst 0, 1) := by decide +kernel
theorem d_277_43 : decode (am_b 277) 43 = .ok (.sipush 9407, 3) := by decide +kernel
theorem d_277_46 : decode (am_b 277) 46 = .ok (.invokestatic 106, 3) := by decide +kernel
theorem d_277_49 : decode (am_b 277) 49 = .ok (.ifCond .eq 22, 3) := by decide +kernel
theorem d_277_52 : decode (am_b 277) 52 = .ok (.aload_n 0, 1) := by decide +kernel
theorem d_277_53 : decode (am_b 277) 53 = .ok (.iload_n 2, 1) := by decide +kernel
theorem d_277_54 : decode (am_b 277) 54 = .ok (.iload_n 3, 1) := by decide +kernel
theorem d_277_55 : decode (am_b 277) 55 = .ok (.iload 4, 2) := by decide +kernel
theorem d_277_57 : decode (am_b 277) 57 = .ok (.iload 5, 2) := by decide +kernel
theorem d_277_59 : decode (am_b 277) 59 = .ok (.iconst 1, 1) := by decide +kernel
theorem d_277_60 : decode (am_b 277) 60 = .ok (.iadd, 1) := by decide +kernel
theorem d_277_61 : decode (am_b 277) 61 = .ok (.invokevirtual 376, 3) := by decide +kernel
theorem d_277_64 : decode (am_b 277) 64 = .ok (.iload 5, 2) := by decide +kernel
theorem d_277_66 : decode (am_b 277) 66 = .ok (.iconst 1, 1) := by decide +kernel
theorem d_277_67 : decode (am_b 277) 67 = .ok (.iadd, 1) := by decide +kernel
theorem d_277_68 : decode (am_b 277) 68 = .ok (.if_icmp .eq 10, 3) := by decide +kernel
theorem d_277_71 : decode (am_b 277) 71 = .ok (.aload_n 0, 1) := by decide +kernel
theorem d_277_72 : decode (am_b 277) 72 = .ok (.bipush (-3), 2) := by decide +kernel
theorem d_277_74 : decode (am_b 277) 74 = .ok (.invokevirtual 110, 3) := by decide +kernel
theorem d_277_77 : decode (am_b 277) 77 = .ok (.ireturn, 1) := by decide +kernel
theorem d_277_78 : decode (am_b 277) 78 = .ok (.aload_n 0, 1) := by decide +kernel
theorem d_277_79 : decode (am_b 277) 79 = .ok (.iload_n 1, 1) := by decide +kernel
theorem d_277_80 : decode (am_b 277) 80 = .ok (.invokevirtual 257, 3) := by decide +kernel
theorem d_277_83 : decode (am_b 277) 83 = .ok (.aload_n 0, 1) := by decide +kernel
theorem d_277_84 : decode (am_b 277) 84 = .ok (.iconst 0, 1) := by decide +kernel
theorem d_277_85 : decode (am_b 277) 85 = .ok (.invokevirtual 114, 3) := by decide +kernel
theorem d_277_88 : decode (am_b 277) 88 = .ok (.ireturn, 1) := by decide +kernel
theorem d_278_0 : decode (am_b 278) 0 = .ok (.iload_n 1, 1) := by decide +kernel
theorem d_278_1 : decode (am_b 278) 1 = .ok (.iconst 1, 1) := by decide +kernel
theorem d_278_2 : decode (am_b 278) 2 = .ok (.bipush 6, 2) := by decide +kernel
theorem d_278_4 : decode (am_b 278) 4 = .ok (.invokestatic 106, 3) := by decide +kernel
theorem d_278_7 : decode (am_b 278) 7 = .ok (.ifCond .ne 9, 3) := by decide +kernel
theorem d_278_10 : decode (am_b 278) 10 = .ok (.aload_n 0, 1) := by decide +kernel
theorem d_278_11 : decode (am_b 278) 11 = .ok (.iconst (-1), 1) := by decide +kernel
theorem d_278_12 : decode (am_b 278) 12 = .ok (.invokevirtual 110, 3) := by decide +kernel
theorem d_278_15 : decode (am_b 278) 15 = .ok (.ireturn, 1) := by decide +kernel
theorem d_278_16 : decode (am_b 278) 16 = .ok (.aload_n 0, 1) := by decide +kernel
theorem d_278_17 : decode (am_b 278) 17 = .ok (.getfield 13, 3) := by decide +kernel
theorem d_278_20 : decode (am_b 278) 20 = .ok (.sipush 222, 3) := by decide +kernel
theorem d_278_23 : decode (am_b 278) 23 = .ok (.iload_n 1, 1) := by decide +kernel
theorem d_278_24 : decode (am_b 278) 24 = .ok (.iastore, 1) := by decide +kernel
theorem d_278_25 : decode (am_b 278) 25 = .ok (.iconst 0, 1) := by decide +kernel
theorem d_278_26 : decode (am_b 278) 26 = .ok (.istore_n 2, 1) := by decide +kernel
theorem d_278_27 : decode (am_b 278) 27 = .ok (.iload_n 2, 1) := by decide +kernel
theorem d_278_28 : decode (am_b 278) 28 = .ok (.bipush 36, 2) := by decide +kernel
theorem d_278_30 : decode (am_b 278) 30 = .ok (.if_icmp .ge 20, 3) := by decide +kernel
theorem d_278_33 : decode (am_b 278) 33 = .ok (.aload_n 0, 1) := by decide +kernel
theorem d_278_34 : decode (am_b 278) 34 = .ok (.getfield 13, 3) := by decide +kernel
theorem d_278_37 : decode (am_b 278) 37 = .ok (.sipush 223, 3) := by decide +kernel
theorem d_278_40 : decode (am_b 278) 40 = .ok (.iload_n 2, 1) := by decide +kernel
theorem d_278_41 : decode (am_b 278) 41 = .ok (.iadd, 1) := by decide +kernel
theorem d_278_42 : decode (am_b 278) 42 = .ok (.iconst (-1), 1) := by decide +kernel
theorem d_278_43 : decode (am_b 278) 43 = .ok (.iastore, 1) := by decide +kernel
theorem d_278_44 : decode (am_b 278) 44 = .ok (.iinc 2 1, 3) := by decide +kernel
theorem d_278_47 : decode (am_b 278) 47 = .ok (.goto (-20), 3) := by decide +kernel
theorem d_278_50 : decode (am_b 278) 50 = .ok (.aload_n 0, 1) := by decide +kernel
theorem d_278_51 : decode (am_b 278) 51 = .ok (.iconst 0, 1) := by decide +kernel
theorem d_278_52 : decode (am_b 278) 52 = .ok (.invokevirtual 114, 3) := by decide +kernel
theorem d_278_55 : decode (am_b 278) 55 = .ok (.ireturn, 1) := by decide +kernel
theorem d_279_0 : decode (am_b 279) 0 = .ok (.aload_n 0, 1) := by decide +kernel
theorem d_279_1 : decode (am_b 279) 1 = .ok (.iload_n 1, 1) := by decide +kernel
theorem d_279_2 : decode (am_b 279) 2 = .ok (.iload_n 2, 1) := by decide +kernel
theorem d_279_3 : decode (am_b 279) 3 = .ok (.invokevirtual 380, 3) := by decide +kernel
theorem d_279_6 : decode (am_b 279) 6 = .ok (.ifCond .eq 21, 3) := by decide +kernel
theorem d_279_9 : decode (am_b 279) 9 = .ok (.iload_n 3, 1) := by decide +kernel
theorem d_279_10 : decode (am_b 279) 10 = .ok (.iconst (-1), 1) := by decide +kernel
theorem d_279_11 : decode (am_b 279) 11 = .ok (.aload_n 0, 1) := by decide +kernel
theorem d_279_12 : decode (am_b 279) 12 = .ok (.getfield 13, 3) := by decide +kernel
theorem d_279_15 : decode (am_b 279) 15 = .ok (.sipush 222, 3) := by decide +kernel
theorem d_279_18 : decode (am_b 279) 18 = .ok (.iaload, 1) := by decide +kernel
theorem d_279_19 : decode (am_b 279) 19 = .ok (.iconst 1, 1) := by decide +kernel
theorem d_279_20 : decode (am_b 279) 20 = .ok (.isub, 1) := by decide +kernel
theorem d_279_21 : decode (am_b 279) 21 = .ok (.invokestatic 106, 3) := by decide +kernel
theorem d_279_24 : decode (am_b 279) 24 = .ok (.ifCond .ne 9, 3) := by decide +kernel
theorem d_279_27 : decode (am_b 279) 27 = .ok (.aload_n 0, 1) := by decide +kernel
theorem d_279_28 : decode (am_b 279) 28 = .ok (.iconst (-1), 1) := by decide +kernel
theorem d_279_29 : decode (am_b 279) 29 = .ok (.invokevirtual 110, 3) := by decide +kernel
theorem d_279_32 : decode (am_b 279) 32 = .ok (.ireturn, 1) := by decide +kernel
theorem d_279_33 : decode (am_b 279) 33 = .ok (.sipush 223, 3) := by decide +kernel
theorem d_279_36 : decode (am_b 279) 36 = .ok (.aload_n 0, 1) := by decide +kernel
theorem d_279_37 : decode (am_b 279) 37 = .ok (.getfield 13, 3) := by decide +kernel
theorem d_279_40 : decode (am_b 279) 40 = .ok (.sipush 222, 3) := by decide +kernel
theorem d_279_43 : decode (am_b 279) 43 = .ok (.iaload, 1) := by decide +kernel
theorem d_279_44 : decode (am_b 279) 44 = .ok (.iload_n 1, 1) := by decide +kernel
theorem d_279_45 : decode (am_b 279) 45 = .ok (.imul, 1) := by decide +kernel
theorem d_279_46 : decode (am_b 279) 46 = .ok (.iadd, 1) := by decide +kernel
theorem d_279_47 : decode (am_b 279) 47 = .ok (.iload_n 2, 1) := by decide +kernel
theorem d_279_48 : decode (am_b 279) 48 = .ok (.iadd, 1) := by decide +kernel
theorem d_279_49 : decode (am_b 279) 49 = .ok (.istore 4, 2) := by decide +kernel
theorem d_279_51 : decode (am_b 279) 51 = .ok (.aload_n 0, 1) := by decide +kernel
theorem d_279_52 : decode (am_b 279) 52 = .ok (.getfield 13, 3) := by decide +kernel
theorem d_279_55 : decode (am_b 279) 55 = .ok (.iload 4, 2) := by decide +kernel
theorem d_279_57 : decode (am_b 279) 57 = .ok (.iaload, 1) := by decide +kernel
theorem d_279_58 : decode (am_b 279) 58 = .ok (.istore 5, 2) := by decide +kernel
theorem d_279_60 : decode (am_b 279) 60 = .ok (.aload_n 0, 1) := by decide +kernel
theorem d_279_61 : decode (am_b 279) 61 = .ok (.getfield 13, 3) := by decide +kernel
theorem d_279_64 : decode (am_b 279) 64 = .ok (.iload 4, 2) := by decide +kernel
theorem d_279_66 : decode (am_b 279) 66 = .ok (.iload_n 3, 1) := by decide +kernel
theorem d_279_67 : decode (am_b 279) 67 = .ok (.iastore, 1) := by decide +kernel
theorem d_279_68 : decode (am_b 279) 68 = .ok (.aload_n 0, 1) := by decide +kernel
theorem d_279_69 : decode (am_b 279) 69 = .ok (.iload 5, 2) := by decide +kernel
theorem d_279_71 : decode (am_b 279) 71 = .ok (.invokevirtual 114, 3) := by decide +kernel
theorem d_279_74 : decode (am_b 279) 74 = .ok (.ireturn, 1) := by decide +kernel
theorem d_280_0 : decode (am_b 280) 0 = .ok (.iload_n 1, 1) := by decide +kernel
theorem d_280_1 : decode (am_b 280) 1 = .ok (.iconst 0, 1) := by decide +kernel
theorem d_280_2 : decode (am_b 280) 2 = .ok (.aload_n 0, 1) := by decide +kernel
theorem d_280_3 : decode (am_b 280) 3 = .ok (.getfield 13, 3) := by decide +kernel
theorem d_280_6 : decode (am_b 280) 6 = .ok (.sipush 222, 3) := by decide +kernel
theorem d_280_9 : decode (am_b 280) 9 = .ok (.iaload, 1) := by decide +kernel
theorem d_280_10 : decode (am_b 280) 10 = .ok (.iconst 1, 1) := by decide +kernel
theorem d_280_11 : decode (am_b 280) 11 = .ok (.isub, 1) := by decide +kernel
theorem d_280_12 : decode (am_b 280) 12 = .ok (.invokestatic 106, 3) := by decide +kernel
theorem d_280_15 : decode (am_b 280) 15 = .ok (.ifCond .eq 25, 3) := by decide +kernel
theorem d_280_18 : decode (am_b 280) 18 = .ok (.iload_n 2, 1) := by decide +kernel
theorem d_280_19 : decode (am_b 280) 19 = .ok (.iconst 0, 1) := by decide +kernel
theorem d_280_20 : decode (am_b 280) 20 = .ok (.aload_n 0, 1) := by decide +kernel
theorem d_280_21 : decode (am_b 280) 21 = .ok (.getfield 13, 3) := by decide +kernel
theorem d_280_24 : decode (am_b 280) 24 = .ok (.sipush 222, 3) := by decide +kernel
theorem d_280_27 : decode (am_b 280) 27 = .ok (.iaload, 1) := by decide +kernel
theorem d_280_28 : decode (am_b 280) 28 = .ok (.iconst 1, 1) := by decide +kernel
theorem d_280_29 : decode (am_b 280) 29 = .ok (.isub, 1) := by decide +kernel
theorem d_280_30 : decode (am_b 280) 30 = .ok (.invokestatic 106, 3) := by decide +kernel
theorem d_280_33 : decode (am_b 280) 33 = .ok (.ifCond .eq 7, 3) := by decide +kernel
theorem d_280_36 : decode (am_b 280) 36 = .ok (.iconst 1, 1) := by decide +kernel
theorem d_280_37 : decode (am_b 280) 37 = .ok (.goto 4, 3) := by decide +kernel
theorem d_280_40 : decode (am_b 280) 40 = .ok (.iconst 0, 1) := by decide +kernel
theorem d_280_41 : decode (am_b 280) 41 = .ok (.ireturn, 1) := by decide +kernel
theorem d_281_0 : decode (am_b 281) 0 = .ok (.aload_n 0, 1) := by decide +kernel
theorem d_281_1 : decode (am_b 281) 1 = .ok (.getfield 13, 3) := by decide +kernel
theorem d_281_4 : decode (am_b 281) 4 = .ok (.sipush 222, 3) := by decide +kernel
theorem d_281_7 : decode (am_b 281) 7 = .ok (.iaload, 1) := by decide +kernel
theorem d_281_8 : decode (am_b 281) 8 = .ok (.ifCond .ne 7, 3) := by decide +kernel
theorem d_281_11 : decode (am_b 281) 11 = .ok (.iconst (-1), 1) := by decide +kernel
theorem d_281_12 : decode (am_b 281) 12 = .ok (.goto 10, 3) := by decide +kernel
theorem d_281_15 : decode (am_b 281) 15 = .ok (.aload_n 0, 1) := by decide +kernel
theorem d_281_16 : decode (am_b 281) 16 = .ok (.sipush 20000, 3) := by decide +kernel
theorem d_281_19 : decode (am_b 281) 19 = .ok (.invokevirtual 383, 3) := by decide +kernel
theorem d_281_22 : decode (am_b 281) 22 = .ok (.ireturn, 1) := by decide +kernel
theorem d_282_0 : decode (am_b 282) 0 = .ok (.aload_n 0, 1) := by decide +kernel
theorem d_282_1 : decode (am_b 282) 1 = .ok (.aload_n 0, 1) := by decide +kernel
theorem d_282_2 : decode (am_b 282) 2 = .ok (.getfield 13, 3) := by decide +kernel
theorem d_282_5 : decode (am_b 282) 5 = .ok (.sipush 222, 3) := by decide +kernel
theorem d_282_8 : decode (am_b 282) 8 = .ok (.iaload, 1) := by decide +kernel
theorem d_282_9 : decode (am_b 282) 9 = .ok (.iload_n 1, 1) := by decide +kernel
theorem d_282_10 : decode (am_b 282) 10 = .ok (.invokevirtual 358, 3) := by decide +kernel
theorem d_282_13 : decode (am_b 282) 13 = .ok (.iconst 0, 1) := by decide +kernel
theorem d_282_14 : decode (am_b 282) 14 = .ok (.istore_n 2, 1) := by decide +kernel
theorem d_282_15 : decode (am_b 282) 15 = .ok (.iload_n 2, 1) := by decide +kernel
theorem d_282_16 : decode (am_b 282) 16 = .ok (.aload_n 0, 1) := by decide +kernel
theorem d_282_17 : decode (am_b 282) 17 = .ok (.getfield 127, 3) := by decide +kernel
theorem d_282_20 : decode (am_b 282) 20 = .ok (.aload_n 0, 1) := by decide +kernel
theorem d_282_21 : decode (am_b 282) 21 = .ok (.getfield 127, 3) := by decide +kernel
theorem d_282_24 : decode (am_b 282) 24 = .ok (.imul, 1) := by decide +kernel
theorem d_282_25 : decode (am_b 282) 25 = .ok (.if_icmp .ge 25, 3) := by decide +kernel
theorem d_282_28 : decode (am_b 282) 28 = .ok (.aload_n 0, 1) := by decide +kernel
theorem d_282_29 : decode (am_b 282) 29 = .ok (.getfield 91, 3) := by decide +kernel
theorem d_282_32 : decode (am_b 282) 32 = .ok (.iload_n 2, 1) := by decide +kernel
theorem d_282_33 : decode (am_b 282) 33 = .ok (.aload_n 0, 1) := by decide +kernel
theorem d_282_34 : decode (am_b 282) 34 = .ok (.getfield 13, 3) := by decide +kernel
theorem d_282_37 : decode (am_b 282) 37 = .ok (.sipush 223, 3) := by decide +kernel
theorem d_282_40 : decode (am_b 282) 40 = .ok (.iload_n 2, 1) := by decide +kernel
theorem d_282_41 : decode (am_b 282) 41 = .ok (.iadd, 1) := by decide +kernel
theorem d_282_42 : decode (am_b 282) 42 = .ok (.iaload, 1) := by decide +kernel
theorem d_282_43 : decode (am_b 282) 43 = .ok (.iastore, 1) := by decide +kernel
theorem d_282_44 : decode (am_b 282) 44 = .ok (.iinc 2 1, 3) := by decide +kernel
theorem d_282_47 : decode (am_b 282) 47 = .ok (.goto (-32), 3) := by decide +kernel
theorem d_282_50 : decode (am_b 282) 50 = .ok (.aload_n 0, 1) := by decide +kernel
theorem d_282_51 : decode (am_b 282) 51 = .ok (.iconst 0, 1) := by decide +kernel
theorem d_282_52 : decode (am_b 282) 52 = .ok (.invokevirtual 349, 3) := by decide +kernel
theorem d_282_55 : decode (am_b 282) 55 = .ok (.aload_n 0, 1) := by decide +kernel
theorem d_282_56 : decode (am_b 282) 56 = .ok (.getfield 337, 3) := by decide +kernel
theorem d_282_59 : decode (am_b 282) 59 = .ok (.ireturn, 1) := by decide +kernel
theorem d_283_0 : decode (am_b 283) 0 = .ok (.iload_n 1, 1) := by decide +kernel
theorem d_283_1 : decode (am_b 283) 1 = .ok (.invokestatic 117, 3) := by decide +kernel
theorem d_283_4 : decode (am_b 283) 4 = .ok (.ifCond .ne 9, 3) := by decide +kernel
theorem d_283_7 : decode (am_b 283) 7 = .ok (.aload_n 0, 1) := by decide +kernel
theorem d_283_8 : decode (am_b 283) 8 = .ok (.iconst (-1), 1) := by decide +kernel
theorem d_283_9 : decode (am_b 283) 9 = .ok (.invokevirtual 110, 3) := by decide +kernel
theorem d_283_12 : decode (am_b 283) 12 = .ok (.ireturn, 1) := by decide +kernel
theorem d_283_13 : decode (am_b 283) 13 = .ok (.aload_n 0, 1) := by decide +kernel
theorem d_283_14 : decode (am_b 283) 14 = .ok (.getfield 13, 3) := by decide +kernel
theorem d_283_17 : decode (am_b 283) 17 = .ok (.sipush 222, 3) := by decide +kernel
theorem d_283_20 : decode (am_b 283) 20 = .ok (.iaload, 1) := by decide +kernel
theorem d_283_21 : decode (am_b 283) 21 = .ok (.ifCond .eq 11, 3) := by decide +kernel
theorem d_283_24 : decode (am_b 283) 24 = .ok (.aload_n 0, 1) := by decide +kernel
theorem d_283_25 : decode (am_b 283) 25 = .ok (.iconst 1, 1) := by decide +kernel
theorem d_283_26 : decode (am_b 283) 26 = .ok (.invokevirtual 383, 3) := by decide +kernel
theorem d_283_29 : decode (am_b 283) 29 = .ok (.ifCond .ne 10, 3) := by decide +kernel
theorem d_283_32 : decode (am_b 283) 32 = .ok (.aload_n 0, 1) := by decide +kernel
theorem d_283_33 : decode (am_b 283) 33 = .ok (.bipush (-3), 2) := by decide +kernel
theorem d_283_35 : decode (am_b 283) 35 = .ok (.invokevirtual 110, 3) := by decide +kernel
theorem d_283_38 : decode (am_b 283) 38 = .ok (.ireturn, 1) := by decide +kernel
theorem d_283_39 : decode (am_b 283) 39 = .ok (.aload_n 0, 1) := by decide +kernel
theorem d_283_40 : decode (am_b 283) 40 = .ok (.iload_n 1, 1) := by decide +kernel
theorem d_283_41 : decode (am_b 283) 41 = .ok (.invokevirtual 257, 3) := by decide +kernel
theorem d_283_44 : decode (am_b 283) 44 = .ok (.aload_n 0, 1) := by decide +kernel
theorem d_283_45 : decode (am_b 283) 45 = .ok (.aload_n 0, 1) := by decide +kernel
theorem d_283_46 : decode (am_b 283) 46 = .ok (.getfield 134, 3) := by decide +kernel
theorem d_283_49 : decode (am_b 283) 49 = .ok (.invokevirtual 114, 3) := by decide +kernel
theorem d_283_52 : decode (am_b 283) 52 = .ok (.ireturn, 1) := by decide +kernel
theorem d_284_0 : decode (am_b 284) 0 = .ok (.aload_n 0, 1) := by decide +kernel
theorem d_284_1 : decode (am_b 284) 1 = .ok (.iload_n 1, 1) := by decide +kernel
theorem d_284_2 : decode (am_b 284) 2 = .ok (.iload_n 2, 1) := by decide +kernel
theorem d_284_3 : decode (am_b 284) 3 = .ok (.invokevirtual 380, 3) := by decide +kernel
theorem d_284_6 : decode (am_b 284) 6 = .ok (.ifCond .ne 5, 3) := by decide +kernel
theorem d_284_9 : decode (am_b 284) 9 = .ok (.iconst (-1), 1) := by decide +kernel
theorem d_284_10 : decode (am_b 284) 10 = .ok (.ireturn, 1) := by decide +kernel
theorem d_284_11 : decode (am_b 284) 11 = .ok (.sipush 223, 3) := by decide +kernel
theorem d_284_14 : decode (am_b 284) 14 = .ok (.aload_n 0, 1) := by decide +kernel
theorem d_284_15 : decode (am_b 284) 15 = .ok (.getfield 13, 3) := by decide +kernel
theorem d_284_18 : decode (am_b 284) 18 = .ok (.sipush 222, 3) := by decide +kernel
theorem d_284_21 : decode (am_b 284) 21 = .ok (.iaload, 1) := by decide +kernel
theorem d_284_22 : decode (am_b 284) 22 = .ok (.iload_n 1, 1) := by decide +kernel
theorem d_284_23 : decode (am_b 284) 23 = .ok (.imul, 1) := by decide +kernel
theorem d_284_24 : decode (am_b 284) 24 = .ok (.iadd, 1) := by decide +kernel
theorem d_284_25 : decode (am_b 284) 25 = .ok (.iload_n 2, 1) := by decide +kernel
theorem d_284_26 : decode (am_b 284) 26 = .ok (.iadd, 1) := by decide +kernel
theorem d_284_27 : decode (am_b 284) 27 = .ok (.istore_n 3, 1) := by decide +kernel
theorem d_284_28 : decode (am_b 284) 28 = .ok (.aload_n 0, 1) := by decide +kernel
theorem d_284_29 : decode (am_b 284) 29 = .ok (.getfield 13, 3) := by decide +kernel
theorem d_284_32 : decode (am_b 284) 32 = .ok (.iload_n 3, 1) := by decide +kernel
theorem d_284_33 : decode (am_b 284) 33 = .ok (.iaload, 1) := by decide +kernel
theorem d_284_34 : decode (am_b 284) 34 = .ok (.istore 4, 2) := by decide +kernel
theorem d_284_36 : decode (am_b 284) 36 = .ok (.iload 4, 2) := by decide +kernel
theorem d_284_38 : decode (am_b 284) 38 = .ok (.iconst (-1), 1) := by decide +kernel
theorem d_284_39 : decode (am_b 284) 39 = .ok (.if_icmp .ne 5, 3) := by decide +kernel
theorem d_284_42 : decode (am_b 284) 42 = .ok (.iconst (-1), 1) := by decide +kernel
theorem d_284_43 : decode (am_b 284) 43 = .ok (.ireturn, 1) := by decide +kernel
theorem d_284_44 : decode (am_b 284) 44 = .ok (.aload_n 0, 1) := by decide +kernel
theorem d_284_45 : decode (am_b 284) 45 = .ok (.sipush 20000, 3) := by decide +kernel
theorem d_284_48 : decode (am_b 284) 48 = .ok (.invokevirtual 383, 3) := by decide +kernel
theorem d_284_51 : decode (am_b 284) 51 = .ok (.istore 5, 2) := by decide +kernel
theorem d_284_53 : decode (am_b 284) 53 = .ok (.aload_n 0, 1) := by decide +kernel
theorem d_284_54 : decode (am_b 284) 54 = .ok (.getfield 13, 3) := by decide +kernel
theorem d_284_57 : decode (am_b 284) 57 = .ok (.iload_n 3, 1) := by decide +kernel
theorem d_284_58 : decode (am_b 284) 58 = .ok (.iconst (-1), 1) := by decide +kernel
theorem d_284_59 : decode (am_b 284) 59 = .ok (.iastore, 1) := by decide +kernel
theorem d_284_60 : decode (am_b 284) 60 = .ok (.aload_n 0, 1) := by decide +kernel
theorem d_284_61 : decode (am_b 284) 61 = .ok (.sipush 20000, 3) := by decide +kernel
theorem d_284_64 : decode (am_b 284) 64 = .ok (.invokevirtual 383, 3) := by decide +kernel
theorem d_284_67 : decode (am_b 284) 67 = .ok (.istore 6, 2) := by decide +kernel
theorem d_284_69 : decode (am_b 284) 69 = .ok (.aload_n 0, 1) := by decide +kernel
theorem d_284_70 : decode (am_b 284) 70 = .ok (.getfield 13, 3) := by decide +kernel
theorem d_284_73 : decode (am_b 284) 73 = .ok (.iload_n 3, 1) := by decide +kernel
theorem d_284_74 : decode (am_b 284) 74 = .ok (.iload 4, 2) := by decide +kernel
theorem d_284_76 : decode (am_b 284) 76 = .ok (.iastore, 1) := by decide +kernel
theorem d_284_77 : decode (am_b 284) 77 = .ok (.iload 5, 2) := by decide +kernel
theorem d_284_79 : decode (am_b 284) 79 = .ok (.iload 6, 2) := by decide +kernel
theorem d_284_81 : decode (am_b 284) 81 = .ok (.if_icmp .ne 7, 3) := by decide +kernel
theorem d_284_84 : decode (am_b 284) 84 = .ok (.iconst 1, 1) := by decide +kernel
theorem d_284_85 : decode (am_b 284) 85 = .ok (.goto 4, 3) := by decide +kernel
theorem d_284_88 : decode (am_b 284) 88 = .ok (.iconst 0, 1) := by decide +kernel
theorem d_284_89 : decode (am_b 284) 89 = .ok (.ireturn, 1) := by decide +kernel
