/-! decode rows, printed by wip/whole/gen_decparts.py -/
theorem d_0_0 : decode (am_b 0) 0 = .ok (.aload_n 0, 1) := by decide +kernel
theorem d_0_1 : decode (am_b 0) 1 = .ok (.invokespecial 5, 3) := by decide +kernel
theorem d_0_4 : decode (am_b 0) 4 = .ok (.aload_n 0, 1) := by decide +kernel
theorem d_0_5 : decode (am_b 0) 5 = .ok (.bipush 36, 2) := by decide +kernel
theorem d_0_7 : decode (am_b 0) 7 = .ok (.newarray .int, 2) := by decide +kernel
theorem d_0_9 : decode (am_b 0) 9 = .ok (.putfield 11, 3) := by decide +kernel
theorem d_0_12 : decode (am_b 0) 12 = .ok (.aload_n 0, 1) := by decide +kernel
theorem d_0_13 : decode (am_b 0) 13 = .ok (.bipush 36, 2) := by decide +kernel
theorem d_0_15 : decode (am_b 0) 15 = .ok (.newarray .int, 2) := by decide +kernel
theorem d_0_17 : decode (am_b 0) 17 = .ok (.putfield 17, 3) := by decide +kernel
theorem d_0_20 : decode (am_b 0) 20 = .ok (.aload_n 0, 1) := by decide +kernel
theorem d_0_21 : decode (am_b 0) 21 = .ok (.bipush 36, 2) := by decide +kernel
theorem d_0_23 : decode (am_b 0) 23 = .ok (.newarray .int, 2) := by decide +kernel
theorem d_0_25 : decode (am_b 0) 25 = .ok (.putfield 20, 3) := by decide +kernel
theorem d_0_28 : decode (am_b 0) 28 = .ok (.aload_n 0, 1) := by decide +kernel
theorem d_0_29 : decode (am_b 0) 29 = .ok (.iconst 4, 1) := by decide +kernel
theorem d_0_30 : decode (am_b 0) 30 = .ok (.newarray .int, 2) := by decide +kernel
theorem d_0_32 : decode (am_b 0) 32 = .ok (.putfield 23, 3) := by decide +kernel
theorem d_0_35 : decode (am_b 0) 35 = .ok (.aload_n 0, 1) := by decide +kernel
theorem d_0_36 : decode (am_b 0) 36 = .ok (.bipush 33, 2) := by decide +kernel
theorem d_0_38 : decode (am_b 0) 38 = .ok (.newarray .int, 2) := by decide +kernel
theorem d_0_40 : decode (am_b 0) 40 = .ok (.putfield 26, 3) := by decide +kernel
theorem d_0_43 : decode (am_b 0) 43 = .ok (.return_, 1) := by decide +kernel
theorem d_1_0 : decode (am_b 1) 0 = .ok (.aload_n 0, 1) := by decide +kernel
theorem d_1_1 : decode (am_b 1) 1 = .ok (.aload_n 1, 1) := by decide +kernel
theorem d_1_2 : decode (am_b 1) 2 = .ok (.getfield 29, 3) := by decide +kernel
theorem d_1_5 : decode (am_b 1) 5 = .ok (.putfield 35, 3) := by decide +kernel
theorem d_1_8 : decode (am_b 1) 8 = .ok (.aload_n 0, 1) := by decide +kernel
theorem d_1_9 : decode (am_b 1) 9 = .ok (.aload_n 1, 1) := by decide +kernel
theorem d_1_10 : decode (am_b 1) 10 = .ok (.getfield 38, 3) := by decide +kernel
theorem d_1_13 : decode (am_b 1) 13 = .ok (.putfield 11, 3) := by decide +kernel
theorem d_1_16 : decode (am_b 1) 16 = .ok (.aload_n 0, 1) := by decide +kernel
theorem d_1_17 : decode (am_b 1) 17 = .ok (.iconst 0, 1) := by decide +kernel
theorem d_1_18 : decode (am_b 1) 18 = .ok (.putfield 41, 3) := by decide +kernel
theorem d_1_21 : decode (am_b 1) 21 = .ok (.aload_n 0, 1) := by decide +kernel
theorem d_1_22 : decode (am_b 1) 22 = .ok (.getfield 23, 3) := by decide +kernel
theorem d_1_25 : decode (am_b 1) 25 = .ok (.iconst 3, 1) := by decide +kernel
theorem d_1_26 : decode (am_b 1) 26 = .ok (.iload_n 2, 1) := by decide +kernel
theorem d_1_27 : decode (am_b 1) 27 = .ok (.iconst 0, 1) := by decide +kernel
theorem d_1_28 : decode (am_b 1) 28 = .ok (.invokestatic 45, 3) := by decide +kernel
theorem d_1_31 : decode (am_b 1) 31 = .ok (.iastore, 1) := by decide +kernel
theorem d_1_32 : decode (am_b 1) 32 = .ok (.return_, 1) := by decide +kernel
theorem d_2_0 : decode (am_b 2) 0 = .ok (.aload_n 0, 1) := by decide +kernel
theorem d_2_1 : decode (am_b 2) 1 = .ok (.getfield 41, 3) := by decide +kernel
theorem d_2_4 : decode (am_b 2) 4 = .ok (.ifCond .ne 17, 3) := by decide +kernel
theorem d_2_7 : decode (am_b 2) 7 = .ok (.aload_n 1, 1) := by decide +kernel
theorem d_2_8 : decode (am_b 2) 8 = .ok (.getfield 51, 3) := by decide +kernel
theorem d_2_11 : decode (am_b 2) 11 = .ok (.bipush 96, 2) := by decide +kernel
theorem d_2_13 : decode (am_b 2) 13 = .ok (.iand, 1) := by decide +kernel
theorem d_2_14 : decode (am_b 2) 14 = .ok (.ifCond .eq 7, 3) := by decide +kernel
theorem d_2_17 : decode (am_b 2) 17 = .ok (.aload_n 0, 1) := by decide +kernel
theorem d_2_18 : decode (am_b 2) 18 = .ok (.invokevirtual 56, 3) := by decide +kernel
theorem d_2_21 : decode (am_b 2) 21 = .ok (.aload_n 0, 1) := by decide +kernel
theorem d_2_22 : decode (am_b 2) 22 = .ok (.aload_n 1, 1) := by decide +kernel
theorem d_2_23 : decode (am_b 2) 23 = .ok (.iconst 0, 1) := by decide +kernel
theorem d_2_24 : decode (am_b 2) 24 = .ok (.invokevirtual 59, 3) := by decide +kernel
theorem d_2_27 : decode (am_b 2) 27 = .ok (.istore_n 3, 1) := by decide +kernel
theorem d_2_28 : decode (am_b 2) 28 = .ok (.aload_n 0, 1) := by decide +kernel
theorem d_2_29 : decode (am_b 2) 29 = .ok (.aload_n 1, 1) := by decide +kernel
theorem d_2_30 : decode (am_b 2) 30 = .ok (.iconst 1, 1) := by decide +kernel
theorem d_2_31 : decode (am_b 2) 31 = .ok (.invokevirtual 59, 3) := by decide +kernel
theorem d_2_34 : decode (am_b 2) 34 = .ok (.istore 4, 2) := by decide +kernel
theorem d_2_36 : decode (am_b 2) 36 = .ok (.aload_n 0, 1) := by decide +kernel
theorem d_2_37 : decode (am_b 2) 37 = .ok (.aload_n 1, 1) := by decide +kernel
theorem d_2_38 : decode (am_b 2) 38 = .ok (.iconst 2, 1) := by decide +kernel
theorem d_2_39 : decode (am_b 2) 39 = .ok (.invokevirtual 59, 3) := by decide +kernel
theorem d_2_42 : decode (am_b 2) 42 = .ok (.istore 5, 2) := by decide +kernel
theorem d_2_44 : decode (am_b 2) 44 = .ok (.iconst 0, 1) := by decide +kernel
theorem d_2_45 : decode (am_b 2) 45 = .ok (.istore 6, 2) := by decide +kernel
theorem d_2_47 : decode (am_b 2) 47 = .ok (.iconst 0, 1) := by decide +kernel
theorem d_2_48 : decode (am_b 2) 48 = .ok (.istore 7, 2) := by decide +kernel
theorem d_2_50 : decode (am_b 2) 50 = .ok (.iload 7, 2) := by decide +kernel
theorem d_2_52 : decode (am_b 2) 52 = .ok (.iload_n 3, 1) := by decide +kernel
theorem d_2_53 : decode (am_b 2) 53 = .ok (.if_icmp .ge 85, 3) := by decide +kernel
theorem d_2_56 : decode (am_b 2) 56 = .ok (.aload_n 0, 1) := by decide +kernel
theorem d_2_57 : decode (am_b 2) 57 = .ok (.getfield 23, 3) := by decide +kernel
theorem d_2_60 : decode (am_b 2) 60 = .ok (.iconst 0, 1) := by decide +kernel
theorem d_2_61 : decode (am_b 2) 61 = .ok (.iload 7, 2) := by decide +kernel
theorem d_2_63 : decode (am_b 2) 63 = .ok (.iastore, 1) := by decide +kernel
theorem d_2_64 : decode (am_b 2) 64 = .ok (.iconst 0, 1) := by decide +kernel
theorem d_2_65 : decode (am_b 2) 65 = .ok (.istore 8, 2) := by decide +kernel
theorem d_2_67 : decode (am_b 2) 67 = .ok (.iload 8, 2) := by decide +kernel
theorem d_2_69 : decode (am_b 2) 69 = .ok (.iload 4, 2) := by decide +kernel
theorem d_2_71 : decode (am_b 2) 71 = .ok (.if_icmp .ge 61, 3) := by decide +kernel
theorem d_2_74 : decode (am_b 2) 74 = .ok (.aload_n 0, 1) := by decide +kernel
theorem d_2_75 : decode (am_b 2) 75 = .ok (.getfield 23, 3) := by decide +kernel
theorem d_2_78 : decode (am_b 2) 78 = .ok (.iconst 1, 1) := by decide +kernel
theorem d_2_79 : decode (am_b 2) 79 = .ok (.iload 8, 2) := by decide +kernel
theorem d_2_81 : decode (am_b 2) 81 = .ok (.iastore, 1) := by decide +kernel
theorem d_2_82 : decode (am_b 2) 82 = .ok (.iconst 0, 1) := by decide +kernel
theorem d_2_83 : decode (am_b 2) 83 = .ok (.istore 9, 2) := by decide +kernel
theorem d_2_85 : decode (am_b 2) 85 = .ok (.iload 9, 2) := by decide +kernel
theorem d_2_87 : decode (am_b 2) 87 = .ok (.iload 5, 2) := by decide +kernel
theorem d_2_89 : decode (am_b 2) 89 = .ok (.if_icmp .ge 37, 3) := by decide +kernel
theorem d_2_92 : decode (am_b 2) 92 = .ok (.aload_n 0, 1) := by decide +kernel
theorem d_2_93 : decode (am_b 2) 93 = .ok (.getfield 23, 3) := by decide +kernel
theorem d_2_96 : decode (am_b 2) 96 = .ok (.iconst 2, 1) := by decide +kernel
theorem d_2_97 : decode (am_b 2) 97 = .ok (.iload 9, 2) := by decide +kernel
theorem d_2_99 : decode (am_b 2) 99 = .ok (.iastore, 1) := by decide +kernel
theorem d_2_100 : decode (am_b 2) 100 = .ok (.aload_n 0, 1) := by decide +kernel
theorem d_2_101 : decode (am_b 2) 101 = .ok (.aload_n 1, 1) := by decide +kernel
theorem d_2_102 : decode (am_b 2) 102 = .ok (.invokevirtual 63, 3) := by decide +kernel
theorem d_2_105 : decode (am_b 2) 105 = .ok (.ifCond .eq 6, 3) := by decide +kernel
theorem d_2_108 : decode (am_b 2) 108 = .ok (.iinc 6 1, 3) := by decide +kernel
theorem d_2_111 : decode (am_b 2) 111 = .ok (.iload 6, 2) := by decide +kernel
theorem d_2_113 : decode (am_b 2) 113 = .ok (.iload_n 2, 1) := by decide +kernel
theorem d_2_114 : decode (am_b 2) 114 = .ok (.if_icmp .lt 6, 3) := by decide +kernel
theorem d_2_117 : decode (am_b 2) 117 = .ok (.iload 6, 2) := by decide +kernel
theorem d_2_119 : decode (am_b 2) 119 = .ok (.ireturn, 1) := by decide +kernel
theorem d_2_120 : decode (am_b 2) 120 = .ok (.iinc 9 1, 3) := by decide +kernel
theorem d_2_123 : decode (am_b 2) 123 = .ok (.goto (-38), 3) := by decide +kernel
theorem d_2_126 : decode (am_b 2) 126 = .ok (.iinc 8 1, 3) := by decide +kernel
theorem d_2_129 : decode (am_b 2) 129 = .ok (.goto (-62), 3) := by decide +kernel
theorem d_2_132 : decode (am_b 2) 132 = .ok (.iinc 7 1, 3) := by decide +kernel
theorem d_2_135 : decode (am_b 2) 135 = .ok (.goto (-85), 3) := by decide +kernel
theorem d_2_138 : decode (am_b 2) 138 = .ok (.iload 6, 2) := by decide +kernel
theorem d_2_140 : decode (am_b 2) 140 = .ok (.ireturn, 1) := by decide +kernel
theorem d_3_0 : decode (am_b 3) 0 = .ok (.aload_n 0, 1) := by decide +kernel
theorem d_3_1 : decode (am_b 3) 1 = .ok (.iconst 1, 1) := by decide +kernel
theorem d_3_2 : decode (am_b 3) 2 = .ok (.putfield 41, 3) := by decide +kernel
theorem d_3_5 : decode (am_b 3) 5 = .ok (.iconst 0, 1) := by decide +kernel
theorem d_3_6 : decode (am_b 3) 6 = .ok (.istore_n 1, 1) := by decide +kernel
theorem d_3_7 : decode (am_b 3) 7 = .ok (.iload_n 1, 1) := by decide +kernel
theorem d_3_8 : decode (am_b 3) 8 = .ok (.aload_n 0, 1) := by decide +kernel
theorem d_3_9 : decode (am_b 3) 9 = .ok (.getfield 35, 3) := by decide +kernel
theorem d_3_12 : decode (am_b 3) 12 = .ok (.if_icmp .ge 67, 3) := by decide +kernel
theorem d_3_15 : decode (am_b 3) 15 = .ok (.iconst 0, 1) := by decide +kernel
theorem d_3_16 : decode (am_b 3) 16 = .ok (.istore_n 2, 1) := by decide +kernel
theorem d_3_17 : decode (am_b 3) 17 = .ok (.iload_n 2, 1) := by decide +kernel
theorem d_3_18 : decode (am_b 3) 18 = .ok (.aload_n 0, 1) := by decide +kernel
theorem d_3_19 : decode (am_b 3) 19 = .ok (.getfield 35, 3) := by decide +kernel
theorem d_3_22 : decode (am_b 3) 22 = .ok (.if_icmp .ge 51, 3) := by decide +kernel
theorem d_3_25 : decode (am_b 3) 25 = .ok (.aload_n 0, 1) := by decide +kernel
theorem d_3_26 : decode (am_b 3) 26 = .ok (.getfield 11, 3) := by decide +kernel
theorem d_3_29 : decode (am_b 3) 29 = .ok (.aload_n 0, 1) := by decide +kernel
theorem d_3_30 : decode (am_b 3) 30 = .ok (.getfield 35, 3) := by decide +kernel
theorem d_3_33 : decode (am_b 3) 33 = .ok (.iload_n 1, 1) := by decide +kernel
theorem d_3_34 : decode (am_b 3) 34 = .ok (.imul, 1) := by decide +kernel
theorem d_3_35 : decode (am_b 3) 35 = .ok (.iload_n 2, 1) := by decide +kernel
theorem d_3_36 : decode (am_b 3) 36 = .ok (.iadd, 1) := by decide +kernel
theorem d_3_37 : decode (am_b 3) 37 = .ok (.iaload, 1) := by decide +kernel
theorem d_3_38 : decode (am_b 3) 38 = .ok (.istore_n 3, 1) := by decide +kernel
theorem d_3_39 : decode (am_b 3) 39 = .ok (.aload_n 0, 1) := by decide +kernel
theorem d_3_40 : decode (am_b 3) 40 = .ok (.getfield 17, 3) := by decide +kernel
theorem d_3_43 : decode (am_b 3) 43 = .ok (.aload_n 0, 1) := by decide +kernel
theorem d_3_44 : decode (am_b 3) 44 = .ok (.getfield 35, 3) := by decide +kernel
theorem d_3_47 : decode (am_b 3) 47 = .ok (.iload_n 3, 1) := by decide +kernel
theorem d_3_48 : decode (am_b 3) 48 = .ok (.imul, 1) := by decide +kernel
theorem d_3_49 : decode (am_b 3) 49 = .ok (.iload_n 2, 1) := by decide +kernel
theorem d_3_50 : decode (am_b 3) 50 = .ok (.iadd, 1) := by decide +kernel
theorem d_3_51 : decode (am_b 3) 51 = .ok (.iload_n 1, 1) := by decide +kernel
theorem d_3_52 : decode (am_b 3) 52 = .ok (.iastore, 1) := by decide +kernel
theorem d_3_53 : decode (am_b 3) 53 = .ok (.aload_n 0, 1) := by decide +kernel
theorem d_3_54 : decode (am_b 3) 54 = .ok (.getfield 20, 3) := by decide +kernel
theorem d_3_57 : decode (am_b 3) 57 = .ok (.aload_n 0, 1) := by decide +kernel
theorem d_3_58 : decode (am_b 3) 58 = .ok (.getfield 35, 3) := by decide +kernel
theorem d_3_61 : decode (am_b 3) 61 = .ok (.iload_n 1, 1) := by decide +kernel
theorem d_3_62 : decode (am_b 3) 62 = .ok (.imul, 1) := by decide +kernel
theorem d_3_63 : decode (am_b 3) 63 = .ok (.iload_n 3, 1) := by decide +kernel
theorem d_3_64 : decode (am_b 3) 64 = .ok (.iadd, 1) := by decide +kernel
theorem d_3_65 : decode (am_b 3) 65 = .ok (.iload_n 2, 1) := by decide +kernel
theorem d_3_66 : decode (am_b 3) 66 = .ok (.iastore, 1) := by decide +kernel
theorem d_3_67 : decode (am_b 3) 67 = .ok (.iinc 2 1, 3) := by decide +kernel
theorem d_3_70 : decode (am_b 3) 70 = .ok (.goto (-53), 3) := by decide +kernel
theorem d_3_73 : decode (am_b 3) 73 = .ok (.iinc 1 1, 3) := by decide +kernel
theorem d_3_76 : decode (am_b 3) 76 = .ok (.goto (-69), 3) := by decide +kernel
theorem d_3_79 : decode (am_b 3) 79 = .ok (.return_, 1) := by decide +kernel
theorem d_4_0 : decode (am_b 4) 0 = .ok (.aload_n 1, 1) := by decide +kernel
theorem d_4_1 : decode (am_b 4) 1 = .ok (.getfield 51, 3) := by decide +kernel
theorem d_4_4 : decode (am_b 4) 4 = .ok (.iload_n 2, 1) := by decide +kernel
theorem d_4_5 : decode (am_b 4) 5 = .ok (.ishr, 1) := by decide +kernel
theorem d_4_6 : decode (am_b 4) 6 = .ok (.iconst 1, 1) := by decide +kernel
theorem d_4_7 : decode (am_b 4) 7 = .ok (.iand, 1) := by decide +kernel
theorem d_4_8 : decode (am_b 4) 8 = .ok (.ifCond .eq 10, 3) := by decide +kernel
theorem d_4_11 : decode (am_b 4) 11 = .ok (.aload_n 0, 1) := by decide +kernel
theorem d_4_12 : decode (am_b 4) 12 = .ok (.getfield 35, 3) := by decide +kernel
theorem d_4_15 : decode (am_b 4) 15 = .ok (.goto 4, 3) := by decide +kernel
theorem d_4_18 : decode (am_b 4) 18 = .ok (.iconst 1, 1) := by decide +kernel
theorem d_4_19 : decode (am_b 4) 19 = .ok (.ireturn, 1) := by decide +kernel
theorem d_5_0 : decode (am_b 5) 0 = .ok (.aload_n 0, 1) := by decide +kernel
theorem d_5_1 : decode (am_b 5) 1 = .ok (.aload_n 1, 1) := by decide +kernel
theorem d_5_2 : decode (am_b 5) 2 = .ok (.getfield 67, 3) := by decide +kernel
theorem d_5_5 : decode (am_b 5) 5 = .ok (.aload_n 1, 1) := by decide +kernel
theorem d_5_6 : decode (am_b 5) 6 = .ok (.getfield 70, 3) := by decide +kernel
theorem d_5_9 : decode (am_b 5) 9 = .ok (.aload_n 1, 1) := by decide +kernel
theorem d_5_10 : decode (am_b 5) 10 = .ok (.getfield 67, 3) := by decide +kernel
theorem d_5_13 : decode (am_b 5) 13 = .ok (.arraylength, 1) := by decide +kernel
theorem d_5_14 : decode (am_b 5) 14 = .ok (.invokevirtual 73, 3) := by decide +kernel
theorem d_5_17 : decode (am_b 5) 17 = .ok (.ifCond .eq 23, 3) := by decide +kernel
theorem d_5_20 : decode (am_b 5) 20 = .ok (.aload_n 0, 1) := by decide +kernel
theorem d_5_21 : decode (am_b 5) 21 = .ok (.aload_n 1, 1) := by decide +kernel
theorem d_5_22 : decode (am_b 5) 22 = .ok (.getfield 67, 3) := by decide +kernel
theorem d_5_25 : decode (am_b 5) 25 = .ok (.iconst 0, 1) := by decide +kernel
theorem d_5_26 : decode (am_b 5) 26 = .ok (.aload_n 1, 1) := by decide +kernel
theorem d_5_27 : decode (am_b 5) 27 = .ok (.getfield 70, 3) := by decide +kernel
theorem d_5_30 : decode (am_b 5) 30 = .ok (.invokevirtual 73, 3) := by decide +kernel
theorem d_5_33 : decode (am_b 5) 33 = .ok (.ifCond .ne 7, 3) := by decide +kernel
theorem d_5_36 : decode (am_b 5) 36 = .ok (.iconst 1, 1) := by decide +kernel
theorem d_5_37 : decode (am_b 5) 37 = .ok (.goto 4, 3) := by decide +kernel
theorem d_5_40 : decode (am_b 5) 40 = .ok (.iconst 0, 1) := by decide +kernel
theorem d_5_41 : decode (am_b 5) 41 = .ok (.ireturn, 1) := by decide +kernel
theorem d_6_0 : decode (am_b 6) 0 = .ok (.iconst (-1), 1) := by decide +kernel
theorem d_6_1 : decode (am_b 6) 1 = .ok (.istore 4, 2) := by decide +kernel
theorem d_6_3 : decode (am_b 6) 3 = .ok (.iload_n 2, 1) := by decide +kernel
theorem d_6_4 : decode (am_b 6) 4 = .ok (.istore 5, 2) := by decide +kernel
theorem d_6_6 : decode (am_b 6) 6 = .ok (.iload 5, 2) := by decide +kernel
theorem d_6_8 : decode (am_b 6) 8 = .ok (.iload_n 3, 1) := by decide +kernel
theorem d_6_9 : decode (am_b 6) 9 = .ok (.if_icmp .ge 113, 3) := by decide +kernel
theorem d_6_12 : decode (am_b 6) 12 = .ok (.aload_n 1, 1) := by decide +kernel
theorem d_6_13 : decode (am_b 6) 13 = .ok (.iload 5, 2) := by decide +kernel
theorem d_6_15 : decode (am_b 6) 15 = .ok (.iaload, 1) := by decide +kernel
theorem d_6_16 : decode (am_b 6) 16 = .ok (.istore 6, 2) := by decide +kernel
theorem d_6_18 : decode (am_b 6) 18 = .ok (.iload 6, 2) := by decide +kernel
theorem d_6_20 : decode (am_b 6) 20 = .ok (.iconst 3, 1) := by decide +kernel
theorem d_6_21 : decode (am_b 6) 21 = .ok (.if_icmp .gt 23, 3) := by decide +kernel
theorem d_6_24 : decode (am_b 6) 24 = .ok (.iinc 4 1, 3) := by decide +kernel
theorem d_6_27 : decode (am_b 6) 27 = .ok (.aload_n 0, 1) := by decide +kernel
theorem d_6_28 : decode (am_b 6) 28 = .ok (.getfield 26, 3) := by decide +kernel
theorem d_6_31 : decode (am_b 6) 31 = .ok (.iload 4, 2) := by decide +kernel
theorem d_6_33 : decode (am_b 6) 33 = .ok (.aload_n 0, 1) := by decide +kernel
theorem d_6_34 : decode (am_b 6) 34 = .ok (.getfield 23, 3) := by decide +kernel
theorem d_6_37 : decode (am_b 6) 37 = .ok (.iload 6, 2) := by decide +kernel
theorem d_6_39 : decode (am_b 6) 39 = .ok (.iaload, 1) := by decide +kernel
theorem d_6_40 : decode (am_b 6) 40 = .ok (.iastore, 1) := by decide +kernel
theorem d_6_41 : decode (am_b 6) 41 = .ok (.goto 75, 3) := by decide +kernel
theorem d_6_44 : decode (am_b 6) 44 = .ok (.iinc 4 (-1), 3) := by decide +kernel
theorem d_6_47 : decode (am_b 6) 47 = .ok (.iload 6, 2) := by decide +kernel
theorem d_6_49 : decode (am_b 6) 49 = .ok (.bipush 7, 2) := by decide +kernel
theorem d_6_51 : decode (am_b 6) 51 = .ok (.if_icmp .ne 30, 3) := by decide +kernel
theorem d_6_54 : decode (am_b 6) 54 = .ok (.aload_n 0, 1) := by decide +kernel
theorem d_6_55 : decode (am_b 6) 55 = .ok (.getfield 26, 3) := by decide +kernel
theorem d_6_58 : decode (am_b 6) 58 = .ok (.iload 4, 2) := by decide +kernel
theorem d_6_60 : decode (am_b 6) 60 = .ok (.iaload, 1) := by decide +kernel
theorem d_6_61 : decode (am_b 6) 61 = .ok (.aload_n 0, 1) := by decide +kernel
theorem d_6_62 : decode (am_b 6) 62 = .ok (.getfield 26, 3) := by decide +kernel
theorem d_6_65 : decode (am_b 6) 65 = .ok (.iload 4, 2) := by decide +kernel
theorem d_6_67 : decode (am_b 6) 67 = .ok (.iconst 1, 1) := by decide +kernel
theorem d_6_68 : decode (am_b 6) 68 = .ok (.iadd, 1) := by decide +kernel
theorem d_6_69 : decode (am_b 6) 69 = .ok (.iaload, 1) := by decide +kernel
theorem d_6_70 : decode (am_b 6) 70 = .ok (.if_icmp .eq 5, 3) := by decide +kernel
theorem d_6_73 : decode (am_b 6) 73 = .ok (.iconst 0, 1) := by decide +kernel
theorem d_6_74 : decode (am_b 6) 74 = .ok (.ireturn, 1) := by decide +kernel
theorem d_6_75 : decode (am_b 6) 75 = .ok (.iinc 4 (-1), 3) := by decide +kernel
theorem d_6_78 : decode (am_b 6) 78 = .ok (.goto 38, 3) := by decide +kernel
theorem d_6_81 : decode (am_b 6) 81 = .ok (.aload_n 0, 1) := by decide +kernel
theorem d_6_82 : decode (am_b 6) 82 = .ok (.getfield 26, 3) := by decide +kernel
theorem d_6_85 : decode (am_b 6) 85 = .ok (.iload 4, 2) := by decide +kernel
theorem d_6_87 : decode (am_b 6) 87 = .ok (.aload_n 0, 1) := by decide +kernel
theorem d_6_88 : decode (am_b 6) 88 = .ok (.iload 6, 2) := by decide +kernel
theorem d_6_90 : decode (am_b 6) 90 = .ok (.aload_n 0, 1) := by decide +kernel
theorem d_6_91 : decode (am_b 6) 91 = .ok (.getfield 35, 3) := by decide +kernel
theorem d_6_94 : decode (am_b 6) 94 = .ok (.aload_n 0, 1) := by decide +kernel
theorem d_6_95 : decode (am_b 6) 95 = .ok (.getfield 26, 3) := by decide +kernel
theorem d_6_98 : decode (am_b 6) 98 = .ok (.iload 4, 2) := by decide +kernel
theorem d_6_100 : decode (am_b 6) 100 = .ok (.iaload, 1) := by decide +kernel
theorem d_6_101 : decode (am_b 6) 101 = .ok (.imul, 1) := by decide +kernel
theorem d_6_102 : decode (am_b 6) 102 = .ok (.aload_n 0, 1) := by decide +kernel
theorem d_6_103 : decode (am_b 6) 103 = .ok (.getfield 26, 3) := by decide +kernel
theorem d_6_106 : decode (am_b 6) 106 = .ok (.iload 4, 2) := by decide +kernel
theorem d_6_108 : decode (am_b 6) 108 = .ok (.iconst 1, 1) := by decide +kernel
theorem d_6_109 : decode (am_b 6) 109 = .ok (.iadd, 1) := by decide +kernel
theorem d_6_110 : decode (am_b 6) 110 = .ok (.iaload, 1) := by decide +kernel
theorem d_6_111 : decode (am_b 6) 111 = .ok (.iadd, 1) := by decide +kernel
theorem d_6_112 : decode (am_b 6) 112 = .ok (.invokevirtual 77, 3) := by decide +kernel
theorem d_6_115 : decode (am_b 6) 115 = .ok (.iastore, 1) := by decide +kernel
theorem d_6_116 : decode (am_b 6) 116 = .ok (.iinc 5 1, 3) := by decide +kernel
theorem d_6_119 : decode (am_b 6) 119 = .ok (.goto (-113), 3) := by decide +kernel
theorem d_6_122 : decode (am_b 6) 122 = .ok (.iconst 1, 1) := by decide +kernel
theorem d_6_123 : decode (am_b 6) 123 = .ok (.ireturn, 1) := by decide +kernel
theorem d_7_0 : decode (am_b 7) 0 = .ok (.iload_n 1, 1) := by decide +kernel
theorem d_7_1 : decode (am_b 7) 1 = .ok (.iconst 4, 1) := by decide +kernel
theorem d_7_2 : decode (am_b 7) 2 = .ok (.if_icmp .ne 12, 3) := by decide +kernel
theorem d_7_5 : decode (am_b 7) 5 = .ok (.aload_n 0, 1) := by decide +kernel
theorem d_7_6 : decode (am_b 7) 6 = .ok (.getfield 11, 3) := by decide +kernel
theorem d_7_9 : decode (am_b 7) 9 = .ok (.iload_n 2, 1) := by decide +kernel
theorem d_7_10 : decode (am_b 7) 10 = .ok (.iaload, 1) := by decide +kernel
theorem d_7_11 : decode (am_b 7) 11 = .ok (.goto 23, 3) := by decide +kernel
theorem d_7_14 : decode (am_b 7) 14 = .ok (.iload_n 1, 1) := by decide +kernel
theorem d_7_15 : decode (am_b 7) 15 = .ok (.iconst 5, 1) := by decide +kernel
theorem d_7_16 : decode (am_b 7) 16 = .ok (.if_icmp .ne 12, 3) := by decide +kernel
theorem d_7_19 : decode (am_b 7) 19 = .ok (.aload_n 0, 1) := by decide +kernel
theorem d_7_20 : decode (am_b 7) 20 = .ok (.getfield 17, 3) := by decide +kernel
theorem d_7_23 : decode (am_b 7) 23 = .ok (.iload_n 2, 1) := by decide +kernel
theorem d_7_24 : decode (am_b 7) 24 = .ok (.iaload, 1) := by decide +kernel
theorem d_7_25 : decode (am_b 7) 25 = .ok (.goto 9, 3) := by decide +kernel
theorem d_7_28 : decode (am_b 7) 28 = .ok (.aload_n 0, 1) := by decide +kernel
theorem d_7_29 : decode (am_b 7) 29 = .ok (.getfield 20, 3) := by decide +kernel
theorem d_7_32 : decode (am_b 7) 32 = .ok (.iload_n 2, 1) := by decide +kernel
theorem d_7_33 : decode (am_b 7) 33 = .ok (.iaload, 1) := by decide +kernel
theorem d_7_34 : decode (am_b 7) 34 = .ok (.ireturn, 1) := by decide +kernel
theorem d_8_0 : decode (am_b 8) 0 = .ok (.aload_n 0, 1) := by decide +kernel
theorem d_8_1 : decode (am_b 8) 1 = .ok (.getfield 23, 3) := by decide +kernel
theorem d_8_4 : decode (am_b 8) 4 = .ok (.iload_n 1, 1) := by decide +kernel
theorem d_8_5 : decode (am_b 8) 5 = .ok (.iaload, 1) := by decide +kernel
theorem d_8_6 : decode (am_b 8) 6 = .ok (.ireturn, 1) := by decide +kernel
theorem d_9_0 : decode (am_b 9) 0 = .ok (.aload_n 0, 1) := by decide +kernel
theorem d_9_1 : decode (am_b 9) 1 = .ok (.invokespecial 1, 3) := by decide +kernel
theorem d_9_4 : decode (am_b 9) 4 = .ok (.aload_n 0, 1) := by decide +kernel
theorem d_9_5 : decode (am_b 9) 5 = .ok (.new 7, 3) := by decide +kernel
theorem d_9_8 : decode (am_b 9) 8 = .ok (.dup, 1) := by decide +kernel
theorem d_9_9 : decode (am_b 9) 9 = .ok (.invokespecial 9, 3) := by decide +kernel
theorem d_9_12 : decode (am_b 9) 12 = .ok (.putfield 10, 3) := by decide +kernel
theorem d_9_15 : decode (am_b 9) 15 = .ok (.aload_n 0, 1) := by decide +kernel
theorem d_9_16 : decode (am_b 9) 16 = .ok (.sipush 720, 3) := by decide +kernel
theorem d_9_19 : decode (am_b 9) 19 = .ok (.newarray .long, 2) := by decide +kernel
theorem d_9_21 : decode (am_b 9) 21 = .ok (.putfield 16, 3) := by decide +kernel
theorem d_9_24 : decode (am_b 9) 24 = .ok (.return_, 1) := by decide +kernel
theorem d_10_0 : decode (am_b 10) 0 = .ok (.aload_n 0, 1) := by decide +kernel
theorem d_10_1 : decode (am_b 10) 1 = .ok (.aload_n 1, 1) := by decide +kernel
theorem d_10_2 : decode (am_b 10) 2 = .ok (.putfield 10, 3) := by decide +kernel
theorem d_10_5 : decode (am_b 10) 5 = .ok (.aload_n 0, 1) := by decide +kernel
theorem d_10_6 : decode (am_b 10) 6 = .ok (.iconst 0, 1) := by decide +kernel
theorem d_10_7 : decode (am_b 10) 7 = .ok (.putfield 20, 3) := by decide +kernel
theorem d_10_10 : decode (am_b 10) 10 = .ok (.aload_n 0, 1) := by decide +kernel
theorem d_10_11 : decode (am_b 10) 11 = .ok (.iconst 0, 1) := by decide +kernel
theorem d_10_12 : decode (am_b 10) 12 = .ok (.iconst 0, 1) := by decide +kernel
theorem d_10_13 : decode (am_b 10) 13 = .ok (.iconst 0, 1) := by decide +kernel
theorem d_10_14 : decode (am_b 10) 14 = .ok (.lconst 0, 1) := by decide +kernel
theorem d_10_15 : decode (am_b 10) 15 = .ok (.invokevirtual 24, 3) := by decide +kernel
theorem d_10_18 : decode (am_b 10) 18 = .ok (.aload_n 0, 1) := by decide +kernel
theorem d_10_19 : decode (am_b 10) 19 = .ok (.getfield 20, 3) := by decide +kernel
theorem d_10_22 : decode (am_b 10) 22 = .ok (.ireturn, 1) := by decide +kernel
theorem d_11_0 : decode (am_b 11) 0 = .ok (.iload_n 1, 1) := by decide +kernel
theorem d_11_1 : decode (am_b 11) 1 = .ok (.aload_n 0, 1) := by decide +kernel
theorem d_11_2 : decode (am_b 11) 2 = .ok (.getfield 10, 3) := by decide +kernel
theorem d_11_5 : decode (am_b 11) 5 = .ok (.getfield 28, 3) := by decide +kernel
theorem d_11_8 : decode (am_b 11) 8 = .ok (.if_icmp .lt 37, 3) := by decide +kernel
theorem d_11_11 : decode (am_b 11) 11 = .ok (.aload_n 0, 1) := by decide +kernel
theorem d_11_12 : decode (am_b 11) 12 = .ok (.getfield 20, 3) := by decide +kernel
theorem d_11_15 : decode (am_b 11) 15 = .ok (.aload_n 0, 1) := by decide +kernel
theorem d_11_16 : decode (am_b 11) 16 = .ok (.getfield 16, 3) := by decide +kernel
theorem d_11_19 : decode (am_b 11) 19 = .ok (.arraylength, 1) := by decide +kernel
theorem d_11_20 : decode (am_b 11) 20 = .ok (.if_icmp .ge 24, 3) := by decide +kernel
theorem d_11_23 : decode (am_b 11) 23 = .ok (.aload_n 0, 1) := by decide +kernel
theorem d_11_24 : decode (am_b 11) 24 = .ok (.getfield 16, 3) := by decide +kernel
theorem d_11_27 : decode (am_b 11) 27 = .ok (.aload_n 0, 1) := by decide +kernel
theorem d_11_28 : decode (am_b 11) 28 = .ok (.getfield 20, 3) := by decide +kernel
theorem d_11_31 : decode (am_b 11) 31 = .ok (.lload 4, 2) := by decide +kernel
theorem d_11_33 : decode (am_b 11) 33 = .ok (.lastore, 1) := by decide +kernel
theorem d_11_34 : decode (am_b 11) 34 = .ok (.aload_n 0, 1) := by decide +kernel
theorem d_11_35 : decode (am_b 11) 35 = .ok (.dup, 1) := by decide +kernel
theorem d_11_36 : decode (am_b 11) 36 = .ok (.getfield 20, 3) := by decide +kernel
theorem d_11_39 : decode (am_b 11) 39 = .ok (.iconst 1, 1) := by decide +kernel
theorem d_11_40 : decode (am_b 11) 40 = .ok (.iadd, 1) := by decide +kernel
theorem d_11_41 : decode (am_b 11) 41 = .ok (.putfield 20, 3) := by decide +kernel
theorem d_11_44 : decode (am_b 11) 44 = .ok (.return_, 1) := by decide +kernel
theorem d_11_45 : decode (am_b 11) 45 = .ok (.iconst 0, 1) := by decide +kernel
theorem d_11_46 : decode (am_b 11) 46 = .ok (.istore 6, 2) := by decide +kernel
theorem d_11_48 : decode (am_b 11) 48 = .ok (.iload 6, 2) := by decide +kernel
theorem d_11_50 : decode (am_b 11) 50 = .ok (.aload_n 0, 1) := by decide +kernel
theorem d_11_51 : decode (am_b 11) 51 = .ok (.getfield 10, 3) := by decide +kernel
theorem d_11_54 : decode (am_b 11) 54 = .ok (.getfield 28, 3) := by decide +kernel
theorem d_11_57 : decode (am_b 11) 57 = .ok (.if_icmp .ge 73, 3) := by decide +kernel
theorem d_11_60 : decode (am_b 11) 60 = .ok (.iconst 1, 1) := by decide +kernel
theorem d_11_61 : decode (am_b 11) 61 = .ok (.aload_n 0, 1) := by decide +kernel
theorem d_11_62 : decode (am_b 11) 62 = .ok (.getfield 10, 3) := by decide +kernel
theorem d_11_65 : decode (am_b 11) 65 = .ok (.iload_n 1, 1) := by decide +kernel
theorem d_11_66 : decode (am_b 11) 66 = .ok (.iload 6, 2) := by decide +kernel
theorem d_11_68 : decode (am_b 11) 68 = .ok (.invokevirtual 31, 3) := by decide +kernel
theorem d_11_71 : decode (am_b 11) 71 = .ok (.ishl, 1) := by decide +kernel
theorem d_11_72 : decode (am_b 11) 72 = .ok (.istore 7, 2) := by decide +kernel
theorem d_11_74 : decode (am_b 11) 74 = .ok (.iload_n 2, 1) := by decide +kernel
theorem d_11_75 : decode (am_b 11) 75 = .ok (.iload 6, 2) := by decide +kernel
theorem d_11_77 : decode (am_b 11) 77 = .ok (.ishr, 1) := by decide +kernel
theorem d_11_78 : decode (am_b 11) 78 = .ok (.iconst 1, 1) := by decide +kernel
theorem d_11_79 : decode (am_b 11) 79 = .ok (.iand, 1) := by decide +kernel
theorem d_11_80 : decode (am_b 11) 80 = .ok (.ifCond .ne 44, 3) := by decide +kernel
theorem d_11_83 : decode (am_b 11) 83 = .ok (.iload_n 3, 1) := by decide +kernel
theorem d_11_84 : decode (am_b 11) 84 = .ok (.iload 7, 2) := by decide +kernel
theorem d_11_86 : decode (am_b 11) 86 = .ok (.iand, 1) := by decide +kernel
theorem d_11_87 : decode (am_b 11) 87 = .ok (.ifCond .ne 37, 3) := by decide +kernel
theorem d_11_90 : decode (am_b 11) 90 = .ok (.aload_n 0, 1) := by decide +kernel
theorem d_11_91 : decode (am_b 11) 91 = .ok (.iload_n 1, 1) := by decide +kernel
theorem d_11_92 : decode (am_b 11) 92 = .ok (.iconst 1, 1) := by decide +kernel
theorem d_11_93 : decode (am_b 11) 93 = .ok (.iadd, 1) := by decide +kernel
theorem d_11_94 : decode (am_b 11) 94 = .ok (.iload_n 2, 1) := by decide +kernel
theorem d_11_95 : decode (am_b 11) 95 = .ok (.iconst 1, 1) := by decide +kernel
theorem d_11_96 : decode (am_b 11) 96 = .ok (.iload 6, 2) := by decide +kernel
theorem d_11_98 : decode (am_b 11) 98 = .ok (.ishl, 1) := by decide +kernel
theorem d_11_99 : decode (am_b 11) 99 = .ok (.ior, 1) := by decide +kernel
theorem d_11_100 : decode (am_b 11) 100 = .ok (.iload_n 3, 1) := by decide +kernel
theorem d_11_101 : decode (am_b 11) 101 = .ok (.iload 7, 2) := by decide +kernel
theorem d_11_103 : decode (am_b 11) 103 = .ok (.ior, 1) := by decide +kernel
theorem d_11_104 : decode (am_b 11) 104 = .ok (.lload 4, 2) := by decide +kernel
theorem d_11_106 : decode (am_b 11) 106 = .ok (.lconst 1, 1) := by decide +kernel
theorem d_11_107 : decode (am_b 11) 107 = .ok (.aload_n 0, 1) := by decide +kernel
theorem d_11_108 : decode (am_b 11) 108 = .ok (.getfield 10, 3) := by decide +kernel
theorem d_11_111 : decode (am_b 11) 111 = .ok (.getfield 28, 3) := by decide +kernel
theorem d_11_114 : decode (am_b 11) 114 = .ok (.iload_n 1, 1) := by decide +kernel
theorem d_11_115 : decode (am_b 11) 115 = .ok (.imul, 1) := by decide +kernel
theorem d_11_116 : decode (am_b 11) 116 = .ok (.iload 6, 2) := by decide +kernel
theorem d_11_118 : decode (am_b 11) 118 = .ok (.iadd, 1) := by decide +kernel
theorem d_11_119 : decode (am_b 11) 119 = .ok (.lshl, 1) := by decide +kernel
theorem d_11_120 : decode (am_b 11) 120 = .ok (.lor, 1) := by decide +kernel
theorem d_11_121 : decode (am_b 11) 121 = .ok (.invokevirtual 24, 3) := by decide +kernel
theorem d_11_124 : decode (am_b 11) 124 = .ok (.iinc 6 1, 3) := by decide +kernel
theorem d_11_127 : decode (am_b 11) 127 = .ok (.goto (-79), 3) := by decide +kernel
theorem d_11_130 : decode (am_b 11) 130 = .ok (.return_, 1) := by decide +kernel
theorem d_12_0 : decode (am_b 12) 0 = .ok (.aload_n 0, 1) := by decide +kernel
theorem d_12_1 : decode (am_b 12) 1 = .ok (.aload_n 1, 1) := by decide +kernel
theorem d_12_2 : decode (am_b 12) 2 = .ok (.invokevirtual 35, 3) := by decide +kernel
theorem d_12_5 : decode (am_b 12) 5 = .ok (.pop, 1) := by decide +kernel
theorem d_12_6 : decode (am_b 12) 6 = .ok (.aload_n 0, 1) := by decide +kernel
theorem d_12_7 : decode (am_b 12) 7 = .ok (.iconst 0, 1) := by decide +kernel
theorem d_12_8 : decode (am_b 12) 8 = .ok (.lconst 0, 1) := by decide +kernel
theorem d_12_9 : decode (am_b 12) 9 = .ok (.invokevirtual 39, 3) := by decide +kernel
theorem d_12_12 : decode (am_b 12) 12 = .ok (.ireturn, 1) := by decide +kernel
theorem d_13_0 : decode (am_b 13) 0 = .ok (.iload_n 1, 1) := by decide +kernel
theorem d_13_1 : decode (am_b 13) 1 = .ok (.aload_n 0, 1) := by decide +kernel
theorem d_13_2 : decode (am_b 13) 2 = .ok (.getfield 10, 3) := by decide +kernel
theorem d_13_5 : decode (am_b 13) 5 = .ok (.getfield 28, 3) := by decide +kernel
theorem d_13_8 : decode (am_b 13) 8 = .ok (.if_icmp .lt 5, 3) := by decide +kernel
theorem d_13_11 : decode (am_b 13) 11 = .ok (.iconst 1, 1) := by decide +kernel
theorem d_13_12 : decode (am_b 13) 12 = .ok (.ireturn, 1) := by decide +kernel
theorem d_13_13 : decode (am_b 13) 13 = .ok (.iconst 0, 1) := by decide +kernel
theorem d_13_14 : decode (am_b 13) 14 = .ok (.istore 4, 2) := by decide +kernel
theorem d_13_16 : decode (am_b 13) 16 = .ok (.iconst 0, 1) := by decide +kernel
theorem d_13_17 : decode (am_b 13) 17 = .ok (.istore 5, 2) := by decide +kernel
theorem d_13_19 : decode (am_b 13) 19 = .ok (.iload 5, 2) := by decide +kernel
theorem d_13_21 : decode (am_b 13) 21 = .ok (.aload_n 0, 1) := by decide +kernel
theorem d_13_22 : decode (am_b 13) 22 = .ok (.getfield 20, 3) := by decide +kernel
theorem d_13_25 : decode (am_b 13) 25 = .ok (.if_icmp .ge 60, 3) := by decide +kernel
theorem d_13_28 : decode (am_b 13) 28 = .ok (.aload_n 0, 1) := by decide +kernel
theorem d_13_29 : decode (am_b 13) 29 = .ok (.getfield 16, 3) := by decide +kernel
theorem d_13_32 : decode (am_b 13) 32 = .ok (.iload 5, 2) := by decide +kernel
theorem d_13_34 : decode (am_b 13) 34 = .ok (.laload, 1) := by decide +kernel
theorem d_13_35 : decode (am_b 13) 35 = .ok (.iload_n 1, 1) := by decide +kernel
theorem d_13_36 : decode (am_b 13) 36 = .ok (.lshr, 1) := by decide +kernel
theorem d_13_37 : decode (am_b 13) 37 = .ok (.lconst 1, 1) := by decide +kernel
theorem d_13_38 : decode (am_b 13) 38 = .ok (.land, 1) := by decide +kernel
theorem d_13_39 : decode (am_b 13) 39 = .ok (.lconst 0, 1) := by decide +kernel
theorem d_13_40 : decode (am_b 13) 40 = .ok (.lcmp, 1) := by decide +kernel
theorem d_13_41 : decode (am_b 13) 41 = .ok (.ifCond .eq 38, 3) := by decide +kernel
theorem d_13_44 : decode (am_b 13) 44 = .ok (.aload_n 0, 1) := by decide +kernel
theorem d_13_45 : decode (am_b 13) 45 = .ok (.getfield 16, 3) := by decide +kernel
theorem d_13_48 : decode (am_b 13) 48 = .ok (.iload 5, 2) := by decide +kernel
theorem d_13_50 : decode (am_b 13) 50 = .ok (.laload, 1) := by decide +kernel
theorem d_13_51 : decode (am_b 13) 51 = .ok (.lload_n 2, 1) := by decide +kernel
theorem d_13_52 : decode (am_b 13) 52 = .ok (.land, 1) := by decide +kernel
theorem d_13_53 : decode (am_b 13) 53 = .ok (.lconst 0, 1) := by decide +kernel
theorem d_13_54 : decode (am_b 13) 54 = .ok (.lcmp, 1) := by decide +kernel
theorem d_13_55 : decode (am_b 13) 55 = .ok (.ifCond .ne 24, 3) := by decide +kernel
theorem d_13_58 : decode (am_b 13) 58 = .ok (.iload 4, 2) := by decide +kernel
theorem d_13_60 : decode (am_b 13) 60 = .ok (.aload_n 0, 1) := by decide +kernel
theorem d_13_61 : decode (am_b 13) 61 = .ok (.iload_n 1, 1) := by decide +kernel
theorem d_13_62 : decode (am_b 13) 62 = .ok (.iconst 1, 1) := by decide +kernel
theorem d_13_63 : decode (am_b 13) 63 = .ok (.iadd, 1) := by decide +kernel
theorem d_13_64 : decode (am_b 13) 64 = .ok (.lload_n 2, 1) := by decide +kernel
theorem d_13_65 : decode (am_b 13) 65 = .ok (.aload_n 0, 1) := by decide +kernel
theorem d_13_66 : decode (am_b 13) 66 = .ok (.getfield 16, 3) := by decide +kernel
theorem d_13_69 : decode (am_b 13) 69 = .ok (.iload 5, 2) := by decide +kernel
theorem d_13_71 : decode (am_b 13) 71 = .ok (.laload, 1) := by decide +kernel
theorem d_13_72 : decode (am_b 13) 72 = .ok (.lor, 1) := by decide +kernel
theorem d_13_73 : decode (am_b 13) 73 = .ok (.invokevirtual 39, 3) := by decide +kernel
theorem d_13_76 : decode (am_b 13) 76 = .ok (.iadd, 1) := by decide +kernel
theorem d_13_77 : decode (am_b 13) 77 = .ok (.istore 4, 2) := by decide +kernel
theorem d_13_79 : decode (am_b 13) 79 = .ok (.iinc 5 1, 3) := by decide +kernel
theorem d_13_82 : decode (am_b 13) 82 = .ok (.goto (-63), 3) := by decide +kernel
theorem d_13_85 : decode (am_b 13) 85 = .ok (.iload 4, 2) := by decide +kernel
theorem d_13_87 : decode (am_b 13) 87 = .ok (.ireturn, 1) := by decide +kernel
theorem d_14_0 : decode (am_b 14) 0 = .ok (.iconst 0, 1) := by decide +kernel
theorem d_14_1 : decode (am_b 14) 1 = .ok (.istore_n 1, 1) := by decide +kernel
theorem d_14_2 : decode (am_b 14) 2 = .ok (.iconst 0, 1) := by decide +kernel
theorem d_14_3 : decode (am_b 14) 3 = .ok (.istore_n 2, 1) := by decide +kernel
theorem d_14_4 : decode (am_b 14) 4 = .ok (.iload_n 2, 1) := by decide +kernel
theorem d_14_5 : decode (am_b 14) 5 = .ok (.aload_n 0, 1) := by decide +kernel
theorem d_14_6 : decode (am_b 14) 6 = .ok (.getfield 28, 3) := by decide +kernel
theorem d_14_9 : decode (am_b 14) 9 = .ok (.if_icmp .ge 31, 3) := by decide +kernel
theorem d_14_12 : decode (am_b 14) 12 = .ok (.iconst 0, 1) := by decide +kernel
theorem d_14_13 : decode (am_b 14) 13 = .ok (.istore_n 3, 1) := by decide +kernel
theorem d_14_14 : decode (am_b 14) 14 = .ok (.iload_n 3, 1) := by decide +kernel
theorem d_14_15 : decode (am_b 14) 15 = .ok (.iload_n 2, 1) := by decide +kernel
theorem d_14_16 : decode (am_b 14) 16 = .ok (.if_icmp .ge 18, 3) := by decide +kernel
theorem d_14_19 : decode (am_b 14) 19 = .ok (.iload_n 1, 1) := by decide +kernel
theorem d_14_20 : decode (am_b 14) 20 = .ok (.aload_n 0, 1) := by decide +kernel
theorem d_14_21 : decode (am_b 14) 21 = .ok (.iload_n 2, 1) := by decide +kernel
theorem d_14_22 : decode (am_b 14) 22 = .ok (.iload_n 3, 1) := by decide +kernel
theorem d_14_23 : decode (am_b 14) 23 = .ok (.invokestatic 43, 3) := by decide +kernel
theorem d_14_26 : decode (am_b 14) 26 = .ok (.iadd, 1) := by decide +kernel
theorem d_14_27 : decode (am_b 14) 27 = .ok (.istore_n 1, 1) := by decide +kernel
theorem d_14_28 : decode (am_b 14) 28 = .ok (.iinc 3 1, 3) := by decide +kernel
theorem d_14_31 : decode (am_b 14) 31 = .ok (.goto (-17), 3) := by decide +kernel
theorem d_14_34 : decode (am_b 14) 34 = .ok (.iinc 2 1, 3) := by decide +kernel
theorem d_14_37 : decode (am_b 14) 37 = .ok (.goto (-33), 3) := by decide +kernel
theorem d_14_40 : decode (am_b 14) 40 = .ok (.iload_n 1, 1) := by decide +kernel
theorem d_14_41 : decode (am_b 14) 41 = .ok (.ireturn, 1) := by decide +kernel
theorem d_15_0 : decode (am_b 15) 0 = .ok (.iconst 0, 1) := by decide +kernel
theorem d_15_1 : decode (am_b 15) 1 = .ok (.istore_n 3, 1) := by decide +kernel
theorem d_15_2 : decode (am_b 15) 2 = .ok (.iconst 0, 1) := by decide +kernel
theorem d_15_3 : decode (am_b 15) 3 = .ok (.istore 4, 2) := by decide +kernel
theorem d_15_5 : decode (am_b 15) 5 = .ok (.iload 4, 2) := by decide +kernel
theorem d_15_7 : decode (am_b 15) 7 = .ok (.aload_n 0, 1) := by decide +kernel
theorem d_15_8 : decode (am_b 15) 8 = .ok (.getfield 28, 3) := by decide +kernel
theorem d_15_11 : decode (am_b 15) 11 = .ok (.if_icmp .ge 62, 3) := by decide +kernel
theorem d_15_14 : decode (am_b 15) 14 = .ok (.iconst 0, 1) := by decide +kernel
theorem d_15_15 : decode (am_b 15) 15 = .ok (.istore 5, 2) := by decide +kernel
theorem d_15_17 : decode (am_b 15) 17 = .ok (.iload 5, 2) := by decide +kernel
theorem d_15_19 : decode (am_b 15) 19 = .ok (.iload 4, 2) := by decide +kernel
theorem d_15_21 : decode (am_b 15) 21 = .ok (.if_icmp .ge 46, 3) := by decide +kernel
theorem d_15_24 : decode (am_b 15) 24 = .ok (.aload_n 0, 1) := by decide +kernel
theorem d_15_25 : decode (am_b 15) 25 = .ok (.iload_n 1, 1) := by decide +kernel
theorem d_15_26 : decode (am_b 15) 26 = .ok (.iload 4, 2) := by decide +kernel
theorem d_15_28 : decode (am_b 15) 28 = .ok (.invokevirtual 31, 3) := by decide +kernel
theorem d_15_31 : decode (am_b 15) 31 = .ok (.aload_n 0, 1) := by decide +kernel
theorem d_15_32 : decode (am_b 15) 32 = .ok (.iload_n 2, 1) := by decide +kernel
theorem d_15_33 : decode (am_b 15) 33 = .ok (.iload 5, 2) := by decide +kernel
theorem d_15_35 : decode (am_b 15) 35 = .ok (.invokevirtual 31, 3) := by decide +kernel
theorem d_15_38 : decode (am_b 15) 38 = .ok (.if_icmp .ne 23, 3) := by decide +kernel
theorem d_15_41 : decode (am_b 15) 41 = .ok (.aload_n 0, 1) := by decide +kernel
theorem d_15_42 : decode (am_b 15) 42 = .ok (.iload_n 1, 1) := by decide +kernel
theorem d_15_43 : decode (am_b 15) 43 = .ok (.iload 5, 2) := by decide +kernel
theorem d_15_45 : decode (am_b 15) 45 = .ok (.invokevirtual 31, 3) := by decide +kernel
theorem d_15_48 : decode (am_b 15) 48 = .ok (.aload_n 0, 1) := by decide +kernel
theorem d_15_49 : decode (am_b 15) 49 = .ok (.iload_n 2, 1) := by decide +kernel
theorem d_15_50 : decode (am_b 15) 50 = .ok (.iload 4, 2) := by decide +kernel
theorem d_15_52 : decode (am_b 15) 52 = .ok (.invokevirtual 31, 3) := by decide +kernel
theorem d_15_55 : decode (am_b 15) 55 = .ok (.if_icmp .ne 6, 3) := by decide +kernel
theorem d_15_58 : decode (am_b 15) 58 = .ok (.iinc 3 1, 3) := by decide +kernel
theorem d_15_61 : decode (am_b 15) 61 = .ok (.iinc 5 1, 3) := by decide +kernel
theorem d_15_64 : decode (am_b 15) 64 = .ok (.goto (-47), 3) := by decide +kernel
theorem d_15_67 : decode (am_b 15) 67 = .ok (.iinc 4 1, 3) := by decide +kernel
theorem d_15_70 : decode (am_b 15) 70 = .ok (.goto (-65), 3) := by decide +kernel
theorem d_15_73 : decode (am_b 15) 73 = .ok (.iload_n 3, 1) := by decide +kernel
theorem d_15_74 : decode (am_b 15) 74 = .ok (.ireturn, 1) := by decide +kernel
theorem d_16_0 : decode (am_b 16) 0 = .ok (.aload_n 0, 1) := by decide +kernel
theorem d_16_1 : decode (am_b 16) 1 = .ok (.invokespecial 3, 3) := by decide +kernel
theorem d_16_4 : decode (am_b 16) 4 = .ok (.aload_n 0, 1) := by decide +kernel
theorem d_16_5 : decode (am_b 16) 5 = .ok (.bipush 6, 2) := by decide +kernel
theorem d_16_7 : decode (am_b 16) 7 = .ok (.newarray .int, 2) := by decide +kernel
theorem d_16_9 : decode (am_b 16) 9 = .ok (.putfield 9, 3) := by decide +kernel
theorem d_16_12 : decode (am_b 16) 12 = .ok (.aload_n 0, 1) := by decide +kernel
theorem d_16_13 : decode (am_b 16) 13 = .ok (.bipush 6, 2) := by decide +kernel
theorem d_16_15 : decode (am_b 16) 15 = .ok (.newarray .int, 2) := by decide +kernel
theorem d_16_17 : decode (am_b 16) 17 = .ok (.putfield 15, 3) := by decide +kernel
theorem d_16_20 : decode (am_b 16) 20 = .ok (.aload_n 0, 1) := by decide +kernel
theorem d_16_21 : decode (am_b 16) 21 = .ok (.bipush 36, 2) := by decide +kernel
theorem d_16_23 : decode (am_b 16) 23 = .ok (.newarray .int, 2) := by decide +kernel
theorem d_16_25 : decode (am_b 16) 25 = .ok (.putfield 18, 3) := by decide +kernel
theorem d_16_28 : decode (am_b 16) 28 = .ok (.return_, 1) := by decide +kernel
theorem d_17_0 : decode (am_b 17) 0 = .ok (.aload_n 0, 1) := by decide +kernel
theorem d_17_1 : decode (am_b 17) 1 = .ok (.iconst 0, 1) := by decide +kernel
theorem d_17_2 : decode (am_b 17) 2 = .ok (.putfield 21, 3) := by decide +kernel
theorem d_17_5 : decode (am_b 17) 5 = .ok (.aload_n 0, 1) := by decide +kernel
theorem d_17_6 : decode (am_b 17) 6 = .ok (.iload_n 3, 1) := by decide +kernel
theorem d_17_7 : decode (am_b 17) 7 = .ok (.putfield 25, 3) := by decide +kernel
theorem d_17_10 : decode (am_b 17) 10 = .ok (.iload_n 1, 1) := by decide +kernel
theorem d_17_11 : decode (am_b 17) 11 = .ok (.ifCond .le 20, 3) := by decide +kernel
theorem d_17_14 : decode (am_b 17) 14 = .ok (.aload_n 0, 1) := by decide +kernel
theorem d_17_15 : decode (am_b 17) 15 = .ok (.iload_n 1, 1) := by decide +kernel
theorem d_17_16 : decode (am_b 17) 16 = .ok (.aload_n 2, 1) := by decide +kernel
theorem d_17_17 : decode (am_b 17) 17 = .ok (.invokevirtual 28, 3) := by decide +kernel
theorem d_17_20 : decode (am_b 17) 20 = .ok (.ifCond .eq 11, 3) := by decide +kernel
theorem d_17_23 : decode (am_b 17) 23 = .ok (.aload_n 0, 1) := by decide +kernel
theorem d_17_24 : decode (am_b 17) 24 = .ok (.aload_n 0, 1) := by decide +kernel
theorem d_17_25 : decode (am_b 17) 25 = .ok (.getfield 32, 3) := by decide +kernel
theorem d_17_28 : decode (am_b 17) 28 = .ok (.invokevirtual 35, 3) := by decide +kernel
theorem d_17_31 : decode (am_b 17) 31 = .ok (.aload_n 0, 1) := by decide +kernel
theorem d_17_32 : decode (am_b 17) 32 = .ok (.getfield 21, 3) := by decide +kernel
theorem d_17_35 : decode (am_b 17) 35 = .ok (.ireturn, 1) := by decide +kernel
theorem d_18_0 : decode (am_b 18) 0 = .ok (.aload_n 0, 1) := by decide +kernel
theorem d_18_1 : decode (am_b 18) 1 = .ok (.iload_n 1, 1) := by decide +kernel
theorem d_18_2 : decode (am_b 18) 2 = .ok (.putfield 61, 3) := by decide +kernel
theorem d_18_5 : decode (am_b 18) 5 = .ok (.aload_n 0, 1) := by decide +kernel
theorem d_18_6 : decode (am_b 18) 6 = .ok (.iconst 0, 1) := by decide +kernel
theorem d_18_7 : decode (am_b 18) 7 = .ok (.putfield 32, 3) := by decide +kernel
theorem d_18_10 : decode (am_b 18) 10 = .ok (.aload_n 0, 1) := by decide +kernel
theorem d_18_11 : decode (am_b 18) 11 = .ok (.getfield 9, 3) := by decide +kernel
theorem d_18_14 : decode (am_b 18) 14 = .ok (.iconst 0, 1) := by decide +kernel
theorem d_18_15 : decode (am_b 18) 15 = .ok (.invokestatic 64, 3) := by decide +kernel
theorem d_18_18 : decode (am_b 18) 18 = .ok (.aload_n 0, 1) := by decide +kernel
theorem d_18_19 : decode (am_b 18) 19 = .ok (.getfield 15, 3) := by decide +kernel
theorem d_18_22 : decode (am_b 18) 22 = .ok (.iconst 0, 1) := by decide +kernel
theorem d_18_23 : decode (am_b 18) 23 = .ok (.invokestatic 64, 3) := by decide +kernel
theorem d_18_26 : decode (am_b 18) 26 = .ok (.iconst 0, 1) := by decide +kernel
theorem d_18_27 : decode (am_b 18) 27 = .ok (.istore_n 3, 1) := by decide +kernel
theorem d_18_28 : decode (am_b 18) 28 = .ok (.iload_n 3, 1) := by decide +kernel
theorem d_18_29 : decode (am_b 18) 29 = .ok (.aload_n 0, 1) := by decide +kernel
theorem d_18_30 : decode (am_b 18) 30 = .ok (.getfield 61, 3) := by decide +kernel
theorem d_18_33 : decode (am_b 18) 33 = .ok (.if_icmp .ge 126, 3) := by decide +kernel
theorem d_18_36 : decode (am_b 18) 36 = .ok (.iconst 0, 1) := by decide +kernel
theorem d_18_37 : decode (am_b 18) 37 = .ok (.istore 4, 2) := by decide +kernel
theorem d_18_39 : decode (am_b 18) 39 = .ok (.iload 4, 2) := by decide +kernel
theorem d_18_41 : decode (am_b 18) 41 = .ok (.aload_n 0, 1) := by decide +kernel
theorem d_18_42 : decode (am_b 18) 42 = .ok (.getfield 61, 3) := by decide +kernel
theorem d_18_45 : decode (am_b 18) 45 = .ok (.if_icmp .ge 108, 3) := by decide +kernel
theorem d_18_48 : decode (am_b 18) 48 = .ok (.aload_n 2, 1) := by decide +kernel
theorem d_18_49 : decode (am_b 18) 49 = .ok (.aload_n 0, 1) := by decide +kernel
theorem d_18_50 : decode (am_b 18) 50 = .ok (.getfield 61, 3) := by decide +kernel
theorem d_18_53 : decode (am_b 18) 53 = .ok (.iload_n 3, 1) := by decide +kernel
theorem d_18_54 : decode (am_b 18) 54 = .ok (.imul, 1) := by decide +kernel
theorem d_18_55 : decode (am_b 18) 55 = .ok (.iload 4, 2) := by decide +kernel
theorem d_18_57 : decode (am_b 18) 57 = .ok (.iadd, 1) := by decide +kernel
theorem d_18_58 : decode (am_b 18) 58 = .ok (.iaload, 1) := by decide +kernel
theorem d_18_59 : decode (am_b 18) 59 = .ok (.istore 5, 2) := by decide +kernel
theorem d_18_61 : decode (am_b 18) 61 = .ok (.iload 5, 2) := by decide +kernel
theorem d_18_63 : decode (am_b 18) 63 = .ok (.iconst (-1), 1) := by decide +kernel
theorem d_18_64 : decode (am_b 18) 64 = .ok (.if_icmp .ne 32, 3) := by decide +kernel
theorem d_18_67 : decode (am_b 18) 67 = .ok (.aload_n 0, 1) := by decide +kernel
theorem d_18_68 : decode (am_b 18) 68 = .ok (.getfield 18, 3) := by decide +kernel
theorem d_18_71 : decode (am_b 18) 71 = .ok (.aload_n 0, 1) := by decide +kernel
theorem d_18_72 : decode (am_b 18) 72 = .ok (.getfield 32, 3) := by decide +kernel
theorem d_18_75 : decode (am_b 18) 75 = .ok (.bipush 6, 2) := by decide +kernel
theorem d_18_77 : decode (am_b 18) 77 = .ok (.iload_n 3, 1) := by decide +kernel
theorem d_18_78 : decode (am_b 18) 78 = .ok (.imul, 1) := by decide +kernel
theorem d_18_79 : decode (am_b 18) 79 = .ok (.iload 4, 2) := by decide +kernel
theorem d_18_81 : decode (am_b 18) 81 = .ok (.iadd, 1) := by decide +kernel
theorem d_18_82 : decode (am_b 18) 82 = .ok (.iastore, 1) := by decide +kernel
theorem d_18_83 : decode (am_b 18) 83 = .ok (.aload_n 0, 1) := by decide +kernel
theorem d_18_84 : decode (am_b 18) 84 = .ok (.dup, 1) := by decide +kernel
theorem d_18_85 : decode (am_b 18) 85 = .ok (.getfield 32, 3) := by decide +kernel
theorem d_18_88 : decode (am_b 18) 88 = .ok (.iconst 1, 1) := by decide +kernel
theorem d_18_89 : decode (am_b 18) 89 = .ok (.iadd, 1) := by decide +kernel
theorem d_18_90 : decode (am_b 18) 90 = .ok (.putfield 32, 3) := by decide +kernel
theorem d_18_93 : decode (am_b 18) 93 = .ok (.goto 54, 3) := by decide +kernel
theorem d_18_96 : decode (am_b 18) 96 = .ok (.aload_n 0, 1) := by decide +kernel
theorem d_18_97 : decode (am_b 18) 97 = .ok (.getfield 9, 3) := by decide +kernel
theorem d_18_100 : decode (am_b 18) 100 = .ok (.iload_n 3, 1) := by decide +kernel
theorem d_18_101 : decode (am_b 18) 101 = .ok (.iaload, 1) := by decide +kernel
theorem d_18_102 : decode (am_b 18) 102 = .ok (.aload_n 0, 1) := by decide +kernel
theorem d_18_103 : decode (am_b 18) 103 = .ok (.getfield 15, 3) := by decide +kernel
theorem d_18_106 : decode (am_b 18) 106 = .ok (.iload 4, 2) := by decide +kernel
theorem d_18_108 : decode (am_b 18) 108 = .ok (.iaload, 1) := by decide +kernel
theorem d_18_109 : decode (am_b 18) 109 = .ok (.ior, 1) := by decide +kernel
theorem d_18_110 : decode (am_b 18) 110 = .ok (.iload 5, 2) := by decide +kernel
theorem d_18_112 : decode (am_b 18) 112 = .ok (.ishr, 1) := by decide +kernel
theorem d_18_113 : decode (am_b 18) 113 = .ok (.iconst 1, 1) := by decide +kernel
theorem d_18_114 : decode (am_b 18) 114 = .ok (.iand, 1) := by decide +kernel
theorem d_18_115 : decode (am_b 18) 115 = .ok (.ifCond .eq 5, 3) := by decide +kernel
theorem d_18_118 : decode (am_b 18) 118 = .ok (.iconst 0, 1) := by decide +kernel
theorem d_18_119 : decode (am_b 18) 119 = .ok (.ireturn, 1) := by decide +kernel
theorem d_18_120 : decode (am_b 18) 120 = .ok (.aload_n 0, 1) := by decide +kernel
theorem d_18_121 : decode (am_b 18) 121 = .ok (.getfield 9, 3) := by decide +kernel
theorem d_18_124 : decode (am_b 18) 124 = .ok (.iload_n 3, 1) := by decide +kernel
theorem d_18_125 : decode (am_b 18) 125 = .ok (.dup2, 1) := by decide +kernel
theorem d_18_126 : decode (am_b 18) 126 = .ok (.iaload, 1) := by decide +kernel
theorem d_18_127 : decode (am_b 18) 127 = .ok (.iconst 1, 1) := by decide +kernel
theorem d_18_128 : decode (am_b 18) 128 = .ok (.iload 5, 2) := by decide +kernel
theorem d_18_130 : decode (am_b 18) 130 = .ok (.ishl, 1) := by decide +kernel
theorem d_18_131 : decode (am_b 18) 131 = .ok (.ior, 1) := by decide +kernel
theorem d_18_132 : decode (am_b 18) 132 = .ok (.iastore, 1) := by decide +kernel
theorem d_18_133 : decode (am_b 18) 133 = .ok (.aload_n 0, 1) := by decide +kernel
theorem d_18_134 : decode (am_b 18) 134 = .ok (.getfield 15, 3) := by decide +kernel
theorem d_18_137 : decode (am_b 18) 137 = .ok (.iload 4, 2) := by decide +kernel
theorem d_18_139 : decode (am_b 18) 139 = .ok (.dup2, 1) := by decide +kernel
theorem d_18_140 : decode (am_b 18) 140 = .ok (.iaload, 1) := by decide +kernel
theorem d_18_141 : decode (am_b 18) 141 = .ok (.iconst 1, 1) := by decide +kernel
theorem d_18_142 : decode (am_b 18) 142 = .ok (.iload 5, 2) := by decide +kernel
theorem d_18_144 : decode (am_b 18) 144 = .ok (.ishl, 1) := by decide +kernel
theorem d_18_145 : decode (am_b 18) 145 = .ok (.ior, 1) := by decide +kernel
theorem d_18_146 : decode (am_b 18) 146 = .ok (.iastore, 1) := by decide +kernel
theorem d_18_147 : decode (am_b 18) 147 = .ok (.iinc 4 1, 3) := by decide +kernel
theorem d_18_150 : decode (am_b 18) 150 = .ok (.goto (-111), 3) := by decide +kernel
theorem d_18_153 : decode (am_b 18) 153 = .ok (.iinc 3 1, 3) := by decide +kernel
theorem d_18_156 : decode (am_b 18) 156 = .ok (.goto (-128), 3) := by decide +kernel
theorem d_18_159 : decode (am_b 18) 159 = .ok (.iconst 1, 1) := by decide +kernel
theorem d_18_160 : decode (am_b 18) 160 = .ok (.ireturn, 1) := by decide +kernel
theorem d_19_0 : decode (am_b 19) 0 = .ok (.iload_n 1, 1) := by decide +kernel
theorem d_19_1 : decode (am_b 19) 1 = .ok (.ifCond .ne 14, 3) := by decide +kernel
theorem d_19_4 : decode (am_b 19) 4 = .ok (.aload_n 0, 1) := by decide +kernel
theorem d_19_5 : decode (am_b 19) 5 = .ok (.dup, 1) := by decide +kernel
theorem d_19_6 : decode (am_b 19) 6 = .ok (.getfield 21, 3) := by decide +kernel
theorem d_19_9 : decode (am_b 19) 9 = .ok (.iconst 1, 1) := by decide +kernel
theorem d_19_10 : decode (am_b 19) 10 = .ok (.iadd, 1) := by decide +kernel
theorem d_19_11 : decode (am_b 19) 11 = .ok (.putfield 21, 3) := by decide +kernel
theorem d_19_14 : decode (am_b 19) 14 = .ok (.return_, 1) := by decide +kernel
theorem d_19_15 : decode (am_b 19) 15 = .ok (.aload_n 0, 1) := by decide +kernel
theorem d_19_16 : decode (am_b 19) 16 = .ok (.iload_n 1, 1) := by decide +kernel
theorem d_19_17 : decode (am_b 19) 17 = .ok (.invokevirtual 70, 3) := by decide +kernel
theorem d_19_20 : decode (am_b 19) 20 = .ok (.istore_n 2, 1) := by decide +kernel
theorem d_19_21 : decode (am_b 19) 21 = .ok (.aload_n 0, 1) := by decide +kernel
theorem d_19_22 : decode (am_b 19) 22 = .ok (.getfield 18, 3) := by decide +kernel
theorem d_19_25 : decode (am_b 19) 25 = .ok (.iload_n 2, 1) := by decide +kernel
theorem d_19_26 : decode (am_b 19) 26 = .ok (.iload_n 1, 1) := by decide +kernel
theorem d_19_27 : decode (am_b 19) 27 = .ok (.iconst 1, 1) := by decide +kernel
theorem d_19_28 : decode (am_b 19) 28 = .ok (.isub, 1) := by decide +kernel
theorem d_19_29 : decode (am_b 19) 29 = .ok (.invokestatic 74, 3) := by decide +kernel
theorem d_19_32 : decode (am_b 19) 32 = .ok (.aload_n 0, 1) := by decide +kernel
theorem d_19_33 : decode (am_b 19) 33 = .ok (.getfield 18, 3) := by decide +kernel
theorem d_19_36 : decode (am_b 19) 36 = .ok (.iload_n 1, 1) := by decide +kernel
theorem d_19_37 : decode (am_b 19) 37 = .ok (.iconst 1, 1) := by decide +kernel
theorem d_19_38 : decode (am_b 19) 38 = .ok (.isub, 1) := by decide +kernel
theorem d_19_39 : decode (am_b 19) 39 = .ok (.iaload, 1) := by decide +kernel
theorem d_19_40 : decode (am_b 19) 40 = .ok (.bipush 6, 2) := by decide +kernel
theorem d_19_42 : decode (am_b 19) 42 = .ok (.idiv, 1) := by decide +kernel
theorem d_19_43 : decode (am_b 19) 43 = .ok (.istore_n 3, 1) := by decide +kernel
theorem d_19_44 : decode (am_b 19) 44 = .ok (.aload_n 0, 1) := by decide +kernel
theorem d_19_45 : decode (am_b 19) 45 = .ok (.getfield 18, 3) := by decide +kernel
theorem d_19_48 : decode (am_b 19) 48 = .ok (.iload_n 1, 1) := by decide +kernel
theorem d_19_49 : decode (am_b 19) 49 = .ok (.iconst 1, 1) := by decide +kernel
theorem d_19_50 : decode (am_b 19) 50 = .ok (.isub, 1) := by decide +kernel
theorem d_19_51 : decode (am_b 19) 51 = .ok (.iaload, 1) := by decide +kernel
theorem d_19_52 : decode (am_b 19) 52 = .ok (.bipush 6, 2) := by decide +kernel
theorem d_19_54 : decode (am_b 19) 54 = .ok (.irem, 1) := by decide +kernel
theorem d_19_55 : decode (am_b 19) 55 = .ok (.istore 4, 2) := by decide +kernel
theorem d_19_57 : decode (am_b 19) 57 = .ok (.aload_n 0, 1) := by decide +kernel
theorem d_19_58 : decode (am_b 19) 58 = .ok (.getfield 9, 3) := by decide +kernel
theorem d_19_61 : decode (am_b 19) 61 = .ok (.iload_n 3, 1) := by decide +kernel
theorem d_19_62 : decode (am_b 19) 62 = .ok (.iaload, 1) := by decide +kernel
theorem d_19_63 : decode (am_b 19) 63 = .ok (.aload_n 0, 1) := by decide +kernel
theorem d_19_64 : decode (am_b 19) 64 = .ok (.getfield 15, 3) := by decide +kernel
theorem d_19_67 : decode (am_b 19) 67 = .ok (.iload 4, 2) := by decide +kernel
theorem d_19_69 : decode (am_b 19) 69 = .ok (.iaload, 1) := by decide +kernel
theorem d_19_70 : decode (am_b 19) 70 = .ok (.ior, 1) := by decide +kernel
theorem d_19_71 : decode (am_b 19) 71 = .ok (.istore 5, 2) := by decide +kernel
theorem d_19_73 : decode (am_b 19) 73 = .ok (.iconst 0, 1) := by decide +kernel
theorem d_19_74 : decode (am_b 19) 74 = .ok (.istore 6, 2) := by decide +kernel
theorem d_19_76 : decode (am_b 19) 76 = .ok (.iload 6, 2) := by decide +kernel
theorem d_19_78 : decode (am_b 19) 78 = .ok (.aload_n 0, 1) := by decide +kernel
theorem d_19_79 : decode (am_b 19) 79 = .ok (.getfield 61, 3) := by decide +kernel
theorem d_19_82 : decode (am_b 19) 82 = .ok (.if_icmp .ge 91, 3) := by decide +kernel
theorem d_19_85 : decode (am_b 19) 85 = .ok (.aload_n 0, 1) := by decide +kernel
theorem d_19_86 : decode (am_b 19) 86 = .ok (.getfield 21, 3) := by decide +kernel
theorem d_19_89 : decode (am_b 19) 89 = .ok (.aload_n 0, 1) := by decide +kernel
theorem d_19_90 : decode (am_b 19) 90 = .ok (.getfield 25, 3) := by decide +kernel
theorem d_19_93 : decode (am_b 19) 93 = .ok (.if_icmp .ge 80, 3) := by decide +kernel
theorem d_19_96 : decode (am_b 19) 96 = .ok (.iconst 1, 1) := by decide +kernel
theorem d_19_97 : decode (am_b 19) 97 = .ok (.iload 6, 2) := by decide +kernel
theorem d_19_99 : decode (am_b 19) 99 = .ok (.ishl, 1) := by decide +kernel
theorem d_19_100 : decode (am_b 19) 100 = .ok (.istore 7, 2) := by decide +kernel
theorem d_19_102 : decode (am_b 19) 102 = .ok (.iload 5, 2) := by decide +kernel
theorem d_19_104 : decode (am_b 19) 104 = .ok (.iload 7, 2) := by decide +kernel
theorem d_19_106 : decode (am_b 19) 106 = .ok (.iand, 1) := by decide +kernel
theorem d_19_107 : decode (am_b 19) 107 = .ok (.ifCond .ne 60, 3) := by decide +kernel
theorem d_19_110 : decode (am_b 19) 110 = .ok (.aload_n 0, 1) := by decide +kernel
theorem d_19_111 : decode (am_b 19) 111 = .ok (.getfield 9, 3) := by decide +kernel
theorem d_19_114 : decode (am_b 19) 114 = .ok (.iload_n 3, 1) := by decide +kernel
theorem d_19_115 : decode (am_b 19) 115 = .ok (.dup2, 1) := by decide +kernel
theorem d_19_116 : decode (am_b 19) 116 = .ok (.iaload, 1) := by decide +kernel
theorem d_19_117 : decode (am_b 19) 117 = .ok (.iload 7, 2) := by decide +kernel
theorem d_19_119 : decode (am_b 19) 119 = .ok (.ior, 1) := by decide +kernel
theorem d_19_120 : decode (am_b 19) 120 = .ok (.iastore, 1) := by decide +kernel
theorem d_19_121 : decode (am_b 19) 121 = .ok (.aload_n 0, 1) := by decide +kernel
theorem d_19_122 : decode (am_b 19) 122 = .ok (.getfield 15, 3) := by decide +kernel
theorem d_19_125 : decode (am_b 19) 125 = .ok (.iload 4, 2) := by decide +kernel
theorem d_19_127 : decode (am_b 19) 127 = .ok (.dup2, 1) := by decide +kernel
theorem d_19_128 : decode (am_b 19) 128 = .ok (.iaload, 1) := by decide +kernel
theorem d_19_129 : decode (am_b 19) 129 = .ok (.iload 7, 2) := by decide +kernel
theorem d_19_131 : decode (am_b 19) 131 = .ok (.ior, 1) := by decide +kernel
theorem d_19_132 : decode (am_b 19) 132 = .ok (.iastore, 1) := by decide +kernel
theorem d_19_133 : decode (am_b 19) 133 = .ok (.aload_n 0, 1) := by decide +kernel
theorem d_19_134 : decode (am_b 19) 134 = .ok (.iload_n 1, 1) := by decide +kernel
theorem d_19_135 : decode (am_b 19) 135 = .ok (.iconst 1, 1) := by decide +kernel
theorem d_19_136 : decode (am_b 19) 136 = .ok (.isub, 1) := by decide +kernel
theorem d_19_137 : decode (am_b 19) 137 = .ok (.invokevirtual 35, 3) := by decide +kernel
theorem d_19_140 : decode (am_b 19) 140 = .ok (.aload_n 0, 1) := by decide +kernel
theorem d_19_141 : decode (am_b 19) 141 = .ok (.getfield 9, 3) := by decide +kernel
theorem d_19_144 : decode (am_b 19) 144 = .ok (.iload_n 3, 1) := by decide +kernel
theorem d_19_145 : decode (am_b 19) 145 = .ok (.dup2, 1) := by decide +kernel
theorem d_19_146 : decode (am_b 19) 146 = .ok (.iaload, 1) := by decide +kernel
theorem d_19_147 : decode (am_b 19) 147 = .ok (.iload 7, 2) := by decide +kernel
theorem d_19_149 : decode (am_b 19) 149 = .ok (.iconst (-1), 1) := by decide +kernel
theorem d_19_150 : decode (am_b 19) 150 = .ok (.ixor, 1) := by decide +kernel
theorem d_19_151 : decode (am_b 19) 151 = .ok (.iand, 1) := by decide +kernel
theorem d_19_152 : decode (am_b 19) 152 = .ok (.iastore, 1) := by decide +kernel
theorem d_19_153 : decode (am_b 19) 153 = .ok (.aload_n 0, 1) := by decide +kernel
theorem d_19_154 : decode (am_b 19) 154 = .ok (.getfield 15, 3) := by decide +kernel
theorem d_19_157 : decode (am_b 19) 157 = .ok (.iload 4, 2) := by decide +kernel
theorem d_19_159 : decode (am_b 19) 159 = .ok (.dup2, 1) := by decide +kernel
theorem d_19_160 : decode (am_b 19) 160 = .ok (.iaload, 1) := by decide +kernel
theorem d_19_161 : decode (am_b 19) 161 = .ok (.iload 7, 2) := by decide +kernel
theorem d_19_163 : decode (am_b 19) 163 = .ok (.iconst (-1), 1) := by decide +kernel
theorem d_19_164 : decode (am_b 19) 164 = .ok (.ixor, 1) := by decide +kernel
theorem d_19_165 : decode (am_b 19) 165 = .ok (.iand, 1) := by decide +kernel
theorem d_19_166 : decode (am_b 19) 166 = .ok (.iastore, 1) := by decide +kernel
theorem d_19_167 : decode (am_b 19) 167 = .ok (.iinc 6 1, 3) := by decide +kernel
theorem d_19_170 : decode (am_b 19) 170 = .ok (.goto (-94), 3) := by decide +kernel
theorem d_19_173 : decode (am_b 19) 173 = .ok (.aload_n 0, 1) := by decide +kernel
theorem d_19_174 : decode (am_b 19) 174 = .ok (.getfield 18, 3) := by decide +kernel
theorem d_19_177 : decode (am_b 19) 177 = .ok (.iload_n 2, 1) := by decide +kernel
theorem d_19_178 : decode (am_b 19) 178 = .ok (.iload_n 1, 1) := by decide +kernel
theorem d_19_179 : decode (am_b 19) 179 = .ok (.iconst 1, 1) := by decide +kernel
theorem d_19_180 : decode (am_b 19) 180 = .ok (.isub, 1) := by decide +kernel
theorem d_19_181 : decode (am_b 19) 181 = .ok (.invokestatic 74, 3) := by decide +kernel
theorem d_19_184 : decode (am_b 19) 184 = .ok (.return_, 1) := by decide +kernel
theorem d_20_0 : decode (am_b 20) 0 = .ok (.iconst 0, 1) := by decide +kernel
theorem d_20_1 : decode (am_b 20) 1 = .ok (.istore_n 2, 1) := by decide +kernel
theorem d_20_2 : decode (am_b 20) 2 = .ok (.iconst (-1), 1) := by decide +kernel
theorem d_20_3 : decode (am_b 20) 3 = .ok (.istore_n 3, 1) := by decide +kernel
theorem d_20_4 : decode (am_b 20) 4 = .ok (.iconst 0, 1) := by decide +kernel
theorem d_20_5 : decode (am_b 20) 5 = .ok (.istore 4, 2) := by decide +kernel
theorem d_20_7 : decode (am_b 20) 7 = .ok (.iload 4, 2) := by decide +kernel
theorem d_20_9 : decode (am_b 20) 9 = .ok (.iload_n 1, 1) := by decide +kernel
theorem d_20_10 : decode (am_b 20) 10 = .ok (.if_icmp .ge 71, 3) := by decide +kernel
theorem d_20_13 : decode (am_b 20) 13 = .ok (.iload_n 3, 1) := by decide +kernel
theorem d_20_14 : decode (am_b 20) 14 = .ok (.aload_n 0, 1) := by decide +kernel
theorem d_20_15 : decode (am_b 20) 15 = .ok (.getfield 61, 3) := by decide +kernel
theorem d_20_18 : decode (am_b 20) 18 = .ok (.iconst 1, 1) := by decide +kernel
theorem d_20_19 : decode (am_b 20) 19 = .ok (.isub, 1) := by decide +kernel
theorem d_20_20 : decode (am_b 20) 20 = .ok (.if_icmp .ge 61, 3) := by decide +kernel
theorem d_20_23 : decode (am_b 20) 23 = .ok (.aload_n 0, 1) := by decide +kernel
theorem d_20_24 : decode (am_b 20) 24 = .ok (.getfield 9, 3) := by decide +kernel
theorem d_20_27 : decode (am_b 20) 27 = .ok (.aload_n 0, 1) := by decide +kernel
theorem d_20_28 : decode (am_b 20) 28 = .ok (.getfield 18, 3) := by decide +kernel
theorem d_20_31 : decode (am_b 20) 31 = .ok (.iload 4, 2) := by decide +kernel
theorem d_20_33 : decode (am_b 20) 33 = .ok (.iaload, 1) := by decide +kernel
theorem d_20_34 : decode (am_b 20) 34 = .ok (.bipush 6, 2) := by decide +kernel
theorem d_20_36 : decode (am_b 20) 36 = .ok (.idiv, 1) := by decide +kernel
theorem d_20_37 : decode (am_b 20) 37 = .ok (.iaload, 1) := by decide +kernel
theorem d_20_38 : decode (am_b 20) 38 = .ok (.aload_n 0, 1) := by decide +kernel
theorem d_20_39 : decode (am_b 20) 39 = .ok (.getfield 15, 3) := by decide +kernel
theorem d_20_42 : decode (am_b 20) 42 = .ok (.aload_n 0, 1) := by decide +kernel
theorem d_20_43 : decode (am_b 20) 43 = .ok (.getfield 18, 3) := by decide +kernel
theorem d_20_46 : decode (am_b 20) 46 = .ok (.iload 4, 2) := by decide +kernel
theorem d_20_48 : decode (am_b 20) 48 = .ok (.iaload, 1) := by decide +kernel
theorem d_20_49 : decode (am_b 20) 49 = .ok (.bipush 6, 2) := by decide +kernel
theorem d_20_51 : decode (am_b 20) 51 = .ok (.irem, 1) := by decide +kernel
theorem d_20_52 : decode (am_b 20) 52 = .ok (.iaload, 1) := by decide +kernel
theorem d_20_53 : decode (am_b 20) 53 = .ok (.ior, 1) := by decide +kernel
theorem d_20_54 : decode (am_b 20) 54 = .ok (.istore 5, 2) := by decide +kernel
theorem d_20_56 : decode (am_b 20) 56 = .ok (.iload 5, 2) := by decide +kernel
theorem d_20_58 : decode (am_b 20) 58 = .ok (.invokestatic 78, 3) := by decide +kernel
theorem d_20_61 : decode (am_b 20) 61 = .ok (.istore 6, 2) := by decide +kernel
theorem d_20_63 : decode (am_b 20) 63 = .ok (.iload 6, 2) := by decide +kernel
theorem d_20_65 : decode (am_b 20) 65 = .ok (.iload_n 3, 1) := by decide +kernel
theorem d_20_66 : decode (am_b 20) 66 = .ok (.if_icmp .le 9, 3) := by decide +kernel
theorem d_20_69 : decode (am_b 20) 69 = .ok (.iload 6, 2) := by decide +kernel
theorem d_20_71 : decode (am_b 20) 71 = .ok (.istore_n 3, 1) := by decide +kernel
theorem d_20_72 : decode (am_b 20) 72 = .ok (.iload 4, 2) := by decide +kernel
theorem d_20_74 : decode (am_b 20) 74 = .ok (.istore_n 2, 1) := by decide +kernel
theorem d_20_75 : decode (am_b 20) 75 = .ok (.iinc 4 1, 3) := by decide +kernel
theorem d_20_78 : decode (am_b 20) 78 = .ok (.goto (-71), 3) := by decide +kernel
theorem d_20_81 : decode (am_b 20) 81 = .ok (.iload_n 2, 1) := by decide +kernel
theorem d_20_82 : decode (am_b 20) 82 = .ok (.ireturn, 1) := by decide +kernel
theorem d_21_0 : decode (am_b 21) 0 = .ok (.aload_n 0, 1) := by decide +kernel
theorem d_21_1 : decode (am_b 21) 1 = .ok (.iload_n 2, 1) := by decide +kernel
theorem d_21_2 : decode (am_b 21) 2 = .ok (.aload_n 3, 1) := by decide +kernel
theorem d_21_3 : decode (am_b 21) 3 = .ok (.iconst 1, 1) := by decide +kernel
theorem d_21_4 : decode (am_b 21) 4 = .ok (.invokevirtual 39, 3) := by decide +kernel
theorem d_21_7 : decode (am_b 21) 7 = .ok (.ifCond .ne 5, 3) := by decide +kernel
theorem d_21_10 : decode (am_b 21) 10 = .ok (.iconst 0, 1) := by decide +kernel
theorem d_21_11 : decode (am_b 21) 11 = .ok (.ireturn, 1) := by decide +kernel
theorem d_21_12 : decode (am_b 21) 12 = .ok (.aload_n 1, 1) := by decide +kernel
theorem d_21_13 : decode (am_b 21) 13 = .ok (.iload_n 2, 1) := by decide +kernel
theorem d_21_14 : decode (am_b 21) 14 = .ok (.putfield 43, 3) := by decide +kernel
theorem d_21_17 : decode (am_b 21) 17 = .ok (.aload_n 3, 1) := by decide +kernel
theorem d_21_18 : decode (am_b 21) 18 = .ok (.iconst 0, 1) := by decide +kernel
theorem d_21_19 : decode (am_b 21) 19 = .ok (.aload_n 1, 1) := by decide +kernel
theorem d_21_20 : decode (am_b 21) 20 = .ok (.getfield 48, 3) := by decide +kernel
theorem d_21_23 : decode (am_b 21) 23 = .ok (.iconst 0, 1) := by decide +kernel
theorem d_21_24 : decode (am_b 21) 24 = .ok (.bipush 36, 2) := by decide +kernel
theorem d_21_26 : decode (am_b 21) 26 = .ok (.invokestatic 51, 3) := by decide +kernel
theorem d_21_29 : decode (am_b 21) 29 = .ok (.iconst 0, 1) := by decide +kernel
theorem d_21_30 : decode (am_b 21) 30 = .ok (.istore 4, 2) := by decide +kernel
theorem d_21_32 : decode (am_b 21) 32 = .ok (.iload 4, 2) := by decide +kernel
theorem d_21_34 : decode (am_b 21) 34 = .ok (.iload_n 2, 1) := by decide +kernel
theorem d_21_35 : decode (am_b 21) 35 = .ok (.iload_n 2, 1) := by decide +kernel
theorem d_21_36 : decode (am_b 21) 36 = .ok (.imul, 1) := by decide +kernel
theorem d_21_37 : decode (am_b 21) 37 = .ok (.if_icmp .ge 27, 3) := by decide +kernel
theorem d_21_40 : decode (am_b 21) 40 = .ok (.aload_n 1, 1) := by decide +kernel
theorem d_21_41 : decode (am_b 21) 41 = .ok (.getfield 48, 3) := by decide +kernel
theorem d_21_44 : decode (am_b 21) 44 = .ok (.iload 4, 2) := by decide +kernel
theorem d_21_46 : decode (am_b 21) 46 = .ok (.iaload, 1) := by decide +kernel
theorem d_21_47 : decode (am_b 21) 47 = .ok (.iconst (-1), 1) := by decide +kernel
theorem d_21_48 : decode (am_b 21) 48 = .ok (.if_icmp .ne 10, 3) := by decide +kernel
theorem d_21_51 : decode (am_b 21) 51 = .ok (.aload_n 0, 1) := by decide +kernel
theorem d_21_52 : decode (am_b 21) 52 = .ok (.aload_n 1, 1) := by decide +kernel
theorem d_21_53 : decode (am_b 21) 53 = .ok (.iload 4, 2) := by decide +kernel
theorem d_21_55 : decode (am_b 21) 55 = .ok (.invokevirtual 57, 3) := by decide +kernel
theorem d_21_58 : decode (am_b 21) 58 = .ok (.iinc 4 1, 3) := by decide +kernel
theorem d_21_61 : decode (am_b 21) 61 = .ok (.goto (-29), 3) := by decide +kernel
theorem d_21_64 : decode (am_b 21) 64 = .ok (.iconst 1, 1) := by decide +kernel
theorem d_21_65 : decode (am_b 21) 65 = .ok (.ireturn, 1) := by decide +kernel
theorem d_22_0 : decode (am_b 22) 0 = .ok (.iconst 0, 1) := by decide +kernel
theorem d_22_1 : decode (am_b 22) 1 = .ok (.istore_n 3, 1) := by decide +kernel
theorem d_22_2 : decode (am_b 22) 2 = .ok (.iload_n 3, 1) := by decide +kernel
theorem d_22_3 : decode (am_b 22) 3 = .ok (.aload_n 1, 1) := by decide +kernel
theorem d_22_4 : decode (am_b 22) 4 = .ok (.getfield 43, 3) := by decide +kernel
theorem d_22_7 : decode (am_b 22) 7 = .ok (.if_icmp .ge 33, 3) := by decide +kernel
theorem d_22_10 : decode (am_b 22) 10 = .ok (.aload_n 1, 1) := by decide +kernel
theorem d_22_11 : decode (am_b 22) 11 = .ok (.getfield 48, 3) := by decide +kernel
theorem d_22_14 : decode (am_b 22) 14 = .ok (.iload_n 2, 1) := by decide +kernel
theorem d_22_15 : decode (am_b 22) 15 = .ok (.iload_n 3, 1) := by decide +kernel
theorem d_22_16 : decode (am_b 22) 16 = .ok (.iastore, 1) := by decide +kernel
theorem d_22_17 : decode (am_b 22) 17 = .ok (.aload_n 0, 1) := by decide +kernel
theorem d_22_18 : decode (am_b 22) 18 = .ok (.aload_n 1, 1) := by decide +kernel
theorem d_22_19 : decode (am_b 22) 19 = .ok (.getfield 43, 3) := by decide +kernel
theorem d_22_22 : decode (am_b 22) 22 = .ok (.aload_n 1, 1) := by decide +kernel
theorem d_22_23 : decode (am_b 22) 23 = .ok (.getfield 48, 3) := by decide +kernel
theorem d_22_26 : decode (am_b 22) 26 = .ok (.iconst 1, 1) := by decide +kernel
theorem d_22_27 : decode (am_b 22) 27 = .ok (.invokevirtual 39, 3) := by decide +kernel
theorem d_22_30 : decode (am_b 22) 30 = .ok (.ifCond .le 4, 3) := by decide +kernel
theorem d_22_33 : decode (am_b 22) 33 = .ok (.return_, 1) := by decide +kernel
theorem d_22_34 : decode (am_b 22) 34 = .ok (.iinc 3 1, 3) := by decide +kernel
theorem d_22_37 : decode (am_b 22) 37 = .ok (.goto (-35), 3) := by decide +kernel
theorem d_22_40 : decode (am_b 22) 40 = .ok (.return_, 1) := by decide +kernel
theorem d_23_0 : decode (am_b 23) 0 = .ok (.aload_n 0, 1) := by decide +kernel
theorem d_23_1 : decode (am_b 23) 1 = .ok (.invokespecial 1, 3) := by decide +kernel
theorem d_23_4 : decode (am_b 23) 4 = .ok (.aload_n 0, 1) := by decide +kernel
theorem d_23_5 : decode (am_b 23) 5 = .ok (.aload_n 1, 1) := by decide +kernel
theorem d_23_6 : decode (am_b 23) 6 = .ok (.putfield 7, 3) := by decide +kernel
theorem d_23_9 : decode (am_b 23) 9 = .ok (.aload_n 0, 1) := by decide +kernel
theorem d_23_10 : decode (am_b 23) 10 = .ok (.iload_n 2, 1) := by decide +kernel
theorem d_23_11 : decode (am_b 23) 11 = .ok (.putfield 13, 3) := by decide +kernel
theorem d_23_14 : decode (am_b 23) 14 = .ok (.aload_n 0, 1) := by decide +kernel
theorem d_23_15 : decode (am_b 23) 15 = .ok (.iload_n 3, 1) := by decide +kernel
theorem d_23_16 : decode (am_b 23) 16 = .ok (.putfield 17, 3) := by decide +kernel
theorem d_23_19 : decode (am_b 23) 19 = .ok (.return_, 1) := by decide +kernel
theorem d_24_0 : decode (am_b 24) 0 = .ok (.aload_n 0, 1) := by decide +kernel
theorem d_24_1 : decode (am_b 24) 1 = .ok (.invokespecial 1, 3) := by decide +kernel
theorem d_24_4 : decode (am_b 24) 4 = .ok (.aload_n 0, 1) := by decide +kernel
theorem d_24_5 : decode (am_b 24) 5 = .ok (.iconst 0, 1) := by decide +kernel
theorem d_24_6 : decode (am_b 24) 6 = .ok (.newarray .int, 2) := by decide +kernel
theorem d_24_8 : decode (am_b 24) 8 = .ok (.putfield 7, 3) := by decide +kernel
theorem d_24_11 : decode (am_b 24) 11 = .ok (.aload_n 0, 1) := by decide +kernel
theorem d_24_12 : decode (am_b 24) 12 = .ok (.bipush 64, 2) := by decide +kernel
theorem d_24_14 : decode (am_b 24) 14 = .ok (.newarray .int, 2) := by decide +kernel
theorem d_24_16 : decode (am_b 24) 16 = .ok (.putfield 13, 3) := by decide +kernel
theorem d_24_19 : decode (am_b 24) 19 = .ok (.return_, 1) := by decide +kernel
theorem d_25_0 : decode (am_b 25) 0 = .ok (.aload_n 0, 1) := by decide +kernel
theorem d_25_1 : decode (am_b 25) 1 = .ok (.aload_n 1, 1) := by decide +kernel
theorem d_25_2 : decode (am_b 25) 2 = .ok (.putfield 7, 3) := by decide +kernel
theorem d_25_5 : decode (am_b 25) 5 = .ok (.aload_n 0, 1) := by decide +kernel
theorem d_25_6 : decode (am_b 25) 6 = .ok (.iload_n 2, 1) := by decide +kernel
theorem d_25_7 : decode (am_b 25) 7 = .ok (.aload_n 1, 1) := by decide +kernel
theorem d_25_8 : decode (am_b 25) 8 = .ok (.arraylength, 1) := by decide +kernel
theorem d_25_9 : decode (am_b 25) 9 = .ok (.invokestatic 20, 3) := by decide +kernel
theorem d_25_12 : decode (am_b 25) 12 = .ok (.putfield 26, 3) := by decide +kernel
theorem d_25_15 : decode (am_b 25) 15 = .ok (.aload_n 0, 1) := by decide +kernel
theorem d_25_16 : decode (am_b 25) 16 = .ok (.iconst 0, 1) := by decide +kernel
theorem d_25_17 : decode (am_b 25) 17 = .ok (.putfield 29, 3) := by decide +kernel
theorem d_25_20 : decode (am_b 25) 20 = .ok (.aload_n 0, 1) := by decide +kernel
theorem d_25_21 : decode (am_b 25) 21 = .ok (.iconst 0, 1) := by decide +kernel
theorem d_25_22 : decode (am_b 25) 22 = .ok (.putfield 32, 3) := by decide +kernel
theorem d_25_25 : decode (am_b 25) 25 = .ok (.aload_n 0, 1) := by decide +kernel
theorem d_25_26 : decode (am_b 25) 26 = .ok (.iconst 0, 1) := by decide +kernel
theorem d_25_27 : decode (am_b 25) 27 = .ok (.putfield 35, 3) := by decide +kernel
theorem d_25_30 : decode (am_b 25) 30 = .ok (.aload_n 0, 1) := by decide +kernel
theorem d_25_31 : decode (am_b 25) 31 = .ok (.iconst 0, 1) := by decide +kernel
theorem d_25_32 : decode (am_b 25) 32 = .ok (.putfield 38, 3) := by decide +kernel
theorem d_25_35 : decode (am_b 25) 35 = .ok (.aload_n 0, 1) := by decide +kernel
theorem d_25_36 : decode (am_b 25) 36 = .ok (.invokevirtual 41, 3) := by decide +kernel
theorem d_25_39 : decode (am_b 25) 39 = .ok (.aload_n 0, 1) := by decide +kernel
theorem d_25_40 : decode (am_b 25) 40 = .ok (.invokevirtual 44, 3) := by decide +kernel
theorem d_25_43 : decode (am_b 25) 43 = .ok (.ifCond .ne 5, 3) := by decide +kernel
theorem d_25_46 : decode (am_b 25) 46 = .ok (.aconst_null, 1) := by decide +kernel
theorem d_25_47 : decode (am_b 25) 47 = .ok (.areturn, 1) := by decide +kernel
theorem d_25_48 : decode (am_b 25) 48 = .ok (.aload_n 0, 1) := by decide +kernel
theorem d_25_49 : decode (am_b 25) 49 = .ok (.getfield 32, 3) := by decide +kernel
theorem d_25_52 : decode (am_b 25) 52 = .ok (.istore_n 3, 1) := by decide +kernel
theorem d_25_53 : decode (am_b 25) 53 = .ok (.aload_n 0, 1) := by decide +kernel
theorem d_25_54 : decode (am_b 25) 54 = .ok (.getfield 48, 3) := by decide +kernel
theorem d_25_57 : decode (am_b 25) 57 = .ok (.bipush 9, 2) := by decide +kernel
theorem d_25_59 : decode (am_b 25) 59 = .ok (.if_icmp .ne 16, 3) := by decide +kernel
theorem d_25_62 : decode (am_b 25) 62 = .ok (.aload_n 0, 1) := by decide +kernel
theorem d_25_63 : decode (am_b 25) 63 = .ok (.invokevirtual 41, 3) := by decide +kernel
theorem d_25_66 : decode (am_b 25) 66 = .ok (.aload_n 0, 1) := by decide +kernel
theorem d_25_67 : decode (am_b 25) 67 = .ok (.invokevirtual 44, 3) := by decide +kernel
theorem d_25_70 : decode (am_b 25) 70 = .ok (.ifCond .ne 5, 3) := by decide +kernel
theorem d_25_73 : decode (am_b 25) 73 = .ok (.aconst_null, 1) := by decide +kernel
theorem d_25_74 : decode (am_b 25) 74 = .ok (.areturn, 1) := by decide +kernel
theorem d_25_75 : decode (am_b 25) 75 = .ok (.aload_n 0, 1) := by decide +kernel
theorem d_25_76 : decode (am_b 25) 76 = .ok (.getfield 48, 3) := by decide +kernel
theorem d_25_79 : decode (am_b 25) 79 = .ok (.bipush 12, 2) := by decide +kernel
theorem d_25_81 : decode (am_b 25) 81 = .ok (.if_icmp .ne 29, 3) := by decide +kernel
theorem d_25_84 : decode (am_b 25) 84 = .ok (.new 51, 3) := by decide +kernel
theorem d_25_87 : decode (am_b 25) 87 = .ok (.dup, 1) := by decide +kernel
theorem d_25_88 : decode (am_b 25) 88 = .ok (.aload_n 0, 1) := by decide +kernel
theorem d_25_89 : decode (am_b 25) 89 = .ok (.getfield 13, 3) := by decide +kernel
theorem d_25_92 : decode (am_b 25) 92 = .ok (.aload_n 0, 1) := by decide +kernel
theorem d_25_93 : decode (am_b 25) 93 = .ok (.getfield 32, 3) := by decide +kernel
theorem d_25_96 : decode (am_b 25) 96 = .ok (.invokestatic 53, 3) := by decide +kernel
theorem d_25_99 : decode (am_b 25) 99 = .ok (.iload_n 3, 1) := by decide +kernel
theorem d_25_100 : decode (am_b 25) 100 = .ok (.aload_n 0, 1) := by decide +kernel
theorem d_25_101 : decode (am_b 25) 101 = .ok (.getfield 38, 3) := by decide +kernel
theorem d_25_104 : decode (am_b 25) 104 = .ok (.invokespecial 59, 3) := by decide +kernel
theorem d_25_107 : decode (am_b 25) 107 = .ok (.goto 4, 3) := by decide +kernel
theorem d_25_110 : decode (am_b 25) 110 = .ok (.aconst_null, 1) := by decide +kernel
theorem d_25_111 : decode (am_b 25) 111 = .ok (.areturn, 1) := by decide +kernel
theorem d_26_0 : decode (am_b 26) 0 = .ok (.aload_n 0, 1) := by decide +kernel
theorem d_26_1 : decode (am_b 26) 1 = .ok (.aload_n 0, 1) := by decide +kernel
theorem d_26_2 : decode (am_b 26) 2 = .ok (.getfield 29, 3) := by decide +kernel
theorem d_26_5 : decode (am_b 26) 5 = .ok (.putfield 16, 3) := by decide +kernel
theorem d_26_8 : decode (am_b 26) 8 = .ok (.aload_n 0, 1) := by decide +kernel
theorem d_26_9 : decode (am_b 26) 9 = .ok (.getfield 16, 3) := by decide +kernel
theorem d_26_12 : decode (am_b 26) 12 = .ok (.aload_n 0, 1) := by decide +kernel
theorem d_26_13 : decode (am_b 26) 13 = .ok (.getfield 26, 3) := by decide +kernel
theorem d_26_16 : decode (am_b 26) 16 = .ok (.if_icmp .ge 30, 3) := by decide +kernel
theorem d_26_19 : decode (am_b 26) 19 = .ok (.aload_n 0, 1) := by decide +kernel
theorem d_26_20 : decode (am_b 26) 20 = .ok (.getfield 7, 3) := by decide +kernel
theorem d_26_23 : decode (am_b 26) 23 = .ok (.aload_n 0, 1) := by decide +kernel
theorem d_26_24 : decode (am_b 26) 24 = .ok (.getfield 16, 3) := by decide +kernel
theorem d_26_27 : decode (am_b 26) 27 = .ok (.iaload, 1) := by decide +kernel
theorem d_26_28 : decode (am_b 26) 28 = .ok (.bipush 32, 2) := by decide +kernel
theorem d_26_30 : decode (am_b 26) 30 = .ok (.if_icmp .ne 16, 3) := by decide +kernel
theorem d_26_33 : decode (am_b 26) 33 = .ok (.aload_n 0, 1) := by decide +kernel
theorem d_26_34 : decode (am_b 26) 34 = .ok (.dup, 1) := by decide +kernel
theorem d_26_35 : decode (am_b 26) 35 = .ok (.getfield 16, 3) := by decide +kernel
theorem d_26_38 : decode (am_b 26) 38 = .ok (.iconst 1, 1) := by decide +kernel
theorem d_26_39 : decode (am_b 26) 39 = .ok (.iadd, 1) := by decide +kernel
theorem d_26_40 : decode (am_b 26) 40 = .ok (.putfield 16, 3) := by decide +kernel
theorem d_26_43 : decode (am_b 26) 43 = .ok (.goto (-35), 3) := by decide +kernel
theorem d_26_46 : decode (am_b 26) 46 = .ok (.aload_n 0, 1) := by decide +kernel
theorem d_26_47 : decode (am_b 26) 47 = .ok (.aload_n 0, 1) := by decide +kernel
theorem d_26_48 : decode (am_b 26) 48 = .ok (.getfield 16, 3) := by decide +kernel
theorem d_26_51 : decode (am_b 26) 51 = .ok (.putfield 29, 3) := by decide +kernel
theorem d_26_54 : decode (am_b 26) 54 = .ok (.aload_n 0, 1) := by decide +kernel
theorem d_26_55 : decode (am_b 26) 55 = .ok (.getfield 29, 3) := by decide +kernel
theorem d_26_58 : decode (am_b 26) 58 = .ok (.aload_n 0, 1) := by decide +kernel
theorem d_26_59 : decode (am_b 26) 59 = .ok (.getfield 26, 3) := by decide +kernel
theorem d_26_62 : decode (am_b 26) 62 = .ok (.if_icmp .ge 44, 3) := by decide +kernel
theorem d_26_65 : decode (am_b 26) 65 = .ok (.aload_n 0, 1) := by decide +kernel
theorem d_26_66 : decode (am_b 26) 66 = .ok (.getfield 7, 3) := by decide +kernel
theorem d_26_69 : decode (am_b 26) 69 = .ok (.aload_n 0, 1) := by decide +kernel
theorem d_26_70 : decode (am_b 26) 70 = .ok (.getfield 29, 3) := by decide +kernel
theorem d_26_73 : decode (am_b 26) 73 = .ok (.iaload, 1) := by decide +kernel
theorem d_26_74 : decode (am_b 26) 74 = .ok (.bipush 97, 2) := by decide +kernel
theorem d_26_76 : decode (am_b 26) 76 = .ok (.if_icmp .lt 30, 3) := by decide +kernel
theorem d_26_79 : decode (am_b 26) 79 = .ok (.aload_n 0, 1) := by decide +kernel
theorem d_26_80 : decode (am_b 26) 80 = .ok (.getfield 7, 3) := by decide +kernel
theorem d_26_83 : decode (am_b 26) 83 = .ok (.aload_n 0, 1) := by decide +kernel
theorem d_26_84 : decode (am_b 26) 84 = .ok (.getfield 29, 3) := by decide +kernel
theorem d_26_87 : decode (am_b 26) 87 = .ok (.iaload, 1) := by decide +kernel
theorem d_26_88 : decode (am_b 26) 88 = .ok (.bipush 122, 2) := by decide +kernel
theorem d_26_90 : decode (am_b 26) 90 = .ok (.if_icmp .gt 16, 3) := by decide +kernel
theorem d_26_93 : decode (am_b 26) 93 = .ok (.aload_n 0, 1) := by decide +kernel
theorem d_26_94 : decode (am_b 26) 94 = .ok (.dup, 1) := by decide +kernel
theorem d_26_95 : decode (am_b 26) 95 = .ok (.getfield 29, 3) := by decide +kernel
theorem d_26_98 : decode (am_b 26) 98 = .ok (.iconst 1, 1) := by decide +kernel
theorem d_26_99 : decode (am_b 26) 99 = .ok (.iadd, 1) := by decide +kernel
theorem d_26_100 : decode (am_b 26) 100 = .ok (.putfield 29, 3) := by decide +kernel
theorem d_26_103 : decode (am_b 26) 103 = .ok (.goto (-49), 3) := by decide +kernel
theorem d_26_106 : decode (am_b 26) 106 = .ok (.aload_n 0, 1) := by decide +kernel
theorem d_26_107 : decode (am_b 26) 107 = .ok (.getfield 29, 3) := by decide +kernel
theorem d_26_110 : decode (am_b 26) 110 = .ok (.aload_n 0, 1) := by decide +kernel
theorem d_26_111 : decode (am_b 26) 111 = .ok (.getfield 16, 3) := by decide +kernel
theorem d_26_114 : decode (am_b 26) 114 = .ok (.if_icmp .ne 24, 3) := by decide +kernel
theorem d_26_117 : decode (am_b 26) 117 = .ok (.aload_n 0, 1) := by decide +kernel
theorem d_26_118 : decode (am_b 26) 118 = .ok (.getfield 16, 3) := by decide +kernel
theorem d_26_121 : decode (am_b 26) 121 = .ok (.aload_n 0, 1) := by decide +kernel
theorem d_26_122 : decode (am_b 26) 122 = .ok (.getfield 26, 3) := by decide +kernel
theorem d_26_125 : decode (am_b 26) 125 = .ok (.if_icmp .ge 13, 3) := by decide +kernel
theorem d_26_128 : decode (am_b 26) 128 = .ok (.aload_n 0, 1) := by decide +kernel
theorem d_26_129 : decode (am_b 26) 129 = .ok (.dup, 1) := by decide +kernel
theorem d_26_130 : decode (am_b 26) 130 = .ok (.getfield 29, 3) := by decide +kernel
theorem d_26_133 : decode (am_b 26) 133 = .ok (.iconst 1, 1) := by decide +kernel
theorem d_26_134 : decode (am_b 26) 134 = .ok (.iadd, 1) := by decide +kernel
theorem d_26_135 : decode (am_b 26) 135 = .ok (.putfield 29, 3) := by decide +kernel
theorem d_26_138 : decode (am_b 26) 138 = .ok (.aload_n 0, 1) := by decide +kernel
theorem d_26_139 : decode (am_b 26) 139 = .ok (.getfield 29, 3) := by decide +kernel
theorem d_26_142 : decode (am_b 26) 142 = .ok (.aload_n 0, 1) := by decide +kernel
theorem d_26_143 : decode (am_b 26) 143 = .ok (.getfield 16, 3) := by decide +kernel
theorem d_26_146 : decode (am_b 26) 146 = .ok (.isub, 1) := by decide +kernel
theorem d_26_147 : decode (am_b 26) 147 = .ok (.istore_n 1, 1) := by decide +kernel
theorem d_26_148 : decode (am_b 26) 148 = .ok (.aload_n 0, 1) := by decide +kernel
theorem d_26_149 : decode (am_b 26) 149 = .ok (.iload_n 1, 1) := by decide +kernel
theorem d_26_150 : decode (am_b 26) 150 = .ok (.ifCond .ne 8, 3) := by decide +kernel
theorem d_26_153 : decode (am_b 26) 153 = .ok (.bipush 12, 2) := by decide +kernel
theorem d_26_155 : decode (am_b 26) 155 = .ok (.goto 65, 3) := by decide +kernel
theorem d_26_158 : decode (am_b 26) 158 = .ok (.iload_n 1, 1) := by decide +kernel
theorem d_26_159 : decode (am_b 26) 159 = .ok (.iconst 1, 1) := by decide +kernel
theorem d_26_160 : decode (am_b 26) 160 = .ok (.if_icmp .ne 18, 3) := by decide +kernel
theorem d_26_163 : decode (am_b 26) 163 = .ok (.aload_n 0, 1) := by decide +kernel
theorem d_26_164 : decode (am_b 26) 164 = .ok (.getfield 7, 3) := by decide +kernel
theorem d_26_167 : decode (am_b 26) 167 = .ok (.aload_n 0, 1) := by decide +kernel
theorem d_26_168 : decode (am_b 26) 168 = .ok (.getfield 16, 3) := by decide +kernel
theorem d_26_171 : decode (am_b 26) 171 = .ok (.iaload, 1) := by decide +kernel
theorem d_26_172 : decode (am_b 26) 172 = .ok (.invokestatic 76, 3) := by decide +kernel
theorem d_26_175 : decode (am_b 26) 175 = .ok (.goto 45, 3) := by decide +kernel
theorem d_26_178 : decode (am_b 26) 178 = .ok (.iload_n 1, 1) := by decide +kernel
theorem d_26_179 : decode (am_b 26) 179 = .ok (.iconst 2, 1) := by decide +kernel
theorem d_26_180 : decode (am_b 26) 180 = .ok (.if_icmp .ne 38, 3) := by decide +kernel
theorem d_26_183 : decode (am_b 26) 183 = .ok (.aload_n 0, 1) := by decide +kernel
theorem d_26_184 : decode (am_b 26) 184 = .ok (.getfield 7, 3) := by decide +kernel
theorem d_26_187 : decode (am_b 26) 187 = .ok (.aload_n 0, 1) := by decide +kernel
theorem d_26_188 : decode (am_b 26) 188 = .ok (.getfield 16, 3) := by decide +kernel
theorem d_26_191 : decode (am_b 26) 191 = .ok (.iaload, 1) := by decide +kernel
theorem d_26_192 : decode (am_b 26) 192 = .ok (.bipush 105, 2) := by decide +kernel
theorem d_26_194 : decode (am_b 26) 194 = .ok (.if_icmp .ne 24, 3) := by decide +kernel
theorem d_26_197 : decode (am_b 26) 197 = .ok (.aload_n 0, 1) := by decide +kernel
theorem d_26_198 : decode (am_b 26) 198 = .ok (.getfield 7, 3) := by decide +kernel
theorem d_26_201 : decode (am_b 26) 201 = .ok (.aload_n 0, 1) := by decide +kernel
theorem d_26_202 : decode (am_b 26) 202 = .ok (.getfield 16, 3) := by decide +kernel
theorem d_26_205 : decode (am_b 26) 205 = .ok (.iconst 1, 1) := by decide +kernel
theorem d_26_206 : decode (am_b 26) 206 = .ok (.iadd, 1) := by decide +kernel
theorem d_26_207 : decode (am_b 26) 207 = .ok (.iaload, 1) := by decide +kernel
theorem d_26_208 : decode (am_b 26) 208 = .ok (.bipush 102, 2) := by decide +kernel
theorem d_26_210 : decode (am_b 26) 210 = .ok (.if_icmp .ne 8, 3) := by decide +kernel
theorem d_26_213 : decode (am_b 26) 213 = .ok (.bipush 9, 2) := by decide +kernel
theorem d_26_215 : decode (am_b 26) 215 = .ok (.goto 5, 3) := by decide +kernel
theorem d_26_218 : decode (am_b 26) 218 = .ok (.bipush 13, 2) := by decide +kernel
theorem d_26_220 : decode (am_b 26) 220 = .ok (.putfield 48, 3) := by decide +kernel
theorem d_26_223 : decode (am_b 26) 223 = .ok (.return_, 1) := by decide +kernel
theorem d_27_0 : decode (am_b 27) 0 = .ok (.iload_n 0, 1) := by decide +kernel
theorem d_27_1 : decode (am_b 27) 1 = .ok (.lookupswitch 125 #[(40, 119), (41, 122), (42, 106), (44, 116), (47, 108), (61, 113), (92, 110), (101, 104), (120, 99), (121, 99), (122, 99)], 99) := by decide +kernel
theorem d_27_100 : decode (am_b 27) 100 = .ok (.iload_n 0, 1) := by decide +kernel
theorem d_27_101 : decode (am_b 27) 101 = .ok (.bipush 120, 2) := by decide +kernel
theorem d_27_103 : decode (am_b 27) 103 = .ok (.isub, 1) := by decide +kernel
theorem d_27_104 : decode (am_b 27) 104 = .ok (.ireturn, 1) := by decide +kernel
theorem d_27_105 : decode (am_b 27) 105 = .ok (.iconst 3, 1) := by decide +kernel
theorem d_27_106 : decode (am_b 27) 106 = .ok (.ireturn, 1) := by decide +kernel
theorem d_27_107 : decode (am_b 27) 107 = .ok (.iconst 4, 1) := by decide +kernel
theorem d_27_108 : decode (am_b 27) 108 = .ok (.ireturn, 1) := by decide +kernel
theorem d_27_109 : decode (am_b 27) 109 = .ok (.iconst 5, 1) := by decide +kernel
theorem d_27_110 : decode (am_b 27) 110 = .ok (.ireturn, 1) := by decide +kernel
theorem d_27_111 : decode (am_b 27) 111 = .ok (.bipush 6, 2) := by decide +kernel
theorem d_27_113 : decode (am_b 27) 113 = .ok (.ireturn, 1) := by decide +kernel
theorem d_27_114 : decode (am_b 27) 114 = .ok (.bipush 7, 2) := by decide +kernel
theorem d_27_116 : decode (am_b 27) 116 = .ok (.ireturn, 1) := by decide +kernel
theorem d_27_117 : decode (am_b 27) 117 = .ok (.bipush 8, 2) := by decide +kernel
theorem d_27_119 : decode (am_b 27) 119 = .ok (.ireturn, 1) := by decide +kernel
theorem d_27_120 : decode (am_b 27) 120 = .ok (.bipush 10, 2) := by decide +kernel
theorem d_27_122 : decode (am_b 27) 122 = .ok (.ireturn, 1) := by decide +kernel
theorem d_27_123 : decode (am_b 27) 123 = .ok (.bipush 11, 2) := by decide +kernel
theorem d_27_125 : decode (am_b 27) 125 = .ok (.ireturn, 1) := by decide +kernel
theorem d_27_126 : decode (am_b 27) 126 = .ok (.bipush 13, 2) := by decide +kernel
theorem d_27_128 : decode (am_b 27) 128 = .ok (.ireturn, 1) := by decide +kernel
theorem d_28_0 : decode (am_b 28) 0 = .ok (.iconst 0, 1) := by decide +kernel
theorem d_28_1 : decode (am_b 28) 1 = .ok (.istore_n 1, 1) := by decide +kernel
theorem d_28_2 : decode (am_b 28) 2 = .ok (.iload_n 1, 1) := by decide +kernel
theorem d_28_3 : decode (am_b 28) 3 = .ok (.aload_n 0, 1) := by decide +kernel
theorem d_28_4 : decode (am_b 28) 4 = .ok (.getfield 26, 3) := by decide +kernel
theorem d_28_7 : decode (am_b 28) 7 = .ok (.if_icmp .gt 33, 3) := by decide +kernel
theorem d_28_10 : decode (am_b 28) 10 = .ok (.aload_n 0, 1) := by decide +kernel
theorem d_28_11 : decode (am_b 28) 11 = .ok (.invokevirtual 62, 3) := by decide +kernel
theorem d_28_14 : decode (am_b 28) 14 = .ok (.ifCond .ne 5, 3) := by decide +kernel
theorem d_28_17 : decode (am_b 28) 17 = .ok (.iconst 0, 1) := by decide +kernel
theorem d_28_18 : decode (am_b 28) 18 = .ok (.ireturn, 1) := by decide +kernel
theorem d_28_19 : decode (am_b 28) 19 = .ok (.aload_n 0, 1) := by decide +kernel
theorem d_28_20 : decode (am_b 28) 20 = .ok (.getfield 48, 3) := by decide +kernel
theorem d_28_23 : decode (am_b 28) 23 = .ok (.bipush 8, 2) := by decide +kernel
theorem d_28_25 : decode (am_b 28) 25 = .ok (.if_icmp .eq 5, 3) := by decide +kernel
theorem d_28_28 : decode (am_b 28) 28 = .ok (.iconst 1, 1) := by decide +kernel
theorem d_28_29 : decode (am_b 28) 29 = .ok (.ireturn, 1) := by decide +kernel
theorem d_28_30 : decode (am_b 28) 30 = .ok (.aload_n 0, 1) := by decide +kernel
theorem d_28_31 : decode (am_b 28) 31 = .ok (.invokevirtual 41, 3) := by decide +kernel
theorem d_28_34 : decode (am_b 28) 34 = .ok (.iinc 1 1, 3) := by decide +kernel
theorem d_28_37 : decode (am_b 28) 37 = .ok (.goto (-35), 3) := by decide +kernel
theorem d_28_40 : decode (am_b 28) 40 = .ok (.iconst 0, 1) := by decide +kernel
theorem d_28_41 : decode (am_b 28) 41 = .ok (.ireturn, 1) := by decide +kernel
theorem d_29_0 : decode (am_b 29) 0 = .ok (.aload_n 0, 1) := by decide +kernel
theorem d_29_1 : decode (am_b 29) 1 = .ok (.iconst 0, 1) := by decide +kernel
theorem d_29_2 : decode (am_b 29) 2 = .ok (.invokevirtual 65, 3) := by decide +kernel
theorem d_29_5 : decode (am_b 29) 5 = .ok (.ifCond .eq 12, 3) := by decide +kernel
theorem d_29_8 : decode (am_b 29) 8 = .ok (.aload_n 0, 1) := by decide +kernel
theorem d_29_9 : decode (am_b 29) 9 = .ok (.getfield 48, 3) := by decide +kernel
theorem d_29_12 : decode (am_b 29) 12 = .ok (.bipush 7, 2) := by decide +kernel
theorem d_29_14 : decode (am_b 29) 14 = .ok (.if_icmp .eq 5, 3) := by decide +kernel
theorem d_29_17 : decode (am_b 29) 17 = .ok (.iconst 0, 1) := by decide +kernel
theorem d_29_18 : decode (am_b 29) 18 = .ok (.ireturn, 1) := by decide +kernel
theorem d_29_19 : decode (am_b 29) 19 = .ok (.aload_n 0, 1) := by decide +kernel
theorem d_29_20 : decode (am_b 29) 20 = .ok (.invokevirtual 41, 3) := by decide +kernel
theorem d_29_23 : decode (am_b 29) 23 = .ok (.aload_n 0, 1) := by decide +kernel
theorem d_29_24 : decode (am_b 29) 24 = .ok (.iconst 0, 1) := by decide +kernel
theorem d_29_25 : decode (am_b 29) 25 = .ok (.invokevirtual 65, 3) := by decide +kernel
theorem d_29_28 : decode (am_b 29) 28 = .ok (.ifCond .ne 5, 3) := by decide +kernel
theorem d_29_31 : decode (am_b 29) 31 = .ok (.iconst 0, 1) := by decide +kernel
theorem d_29_32 : decode (am_b 29) 32 = .ok (.ireturn, 1) := by decide +kernel
theorem d_29_33 : decode (am_b 29) 33 = .ok (.aload_n 0, 1) := by decide +kernel
theorem d_29_34 : decode (am_b 29) 34 = .ok (.bipush 7, 2) := by decide +kernel
theorem d_29_36 : decode (am_b 29) 36 = .ok (.invokevirtual 69, 3) := by decide +kernel
theorem d_29_39 : decode (am_b 29) 39 = .ok (.iconst 1, 1) := by decide +kernel
theorem d_29_40 : decode (am_b 29) 40 = .ok (.ireturn, 1) := by decide +kernel
theorem d_30_0 : decode (am_b 30) 0 = .ok (.aload_n 0, 1) := by decide +kernel
theorem d_30_1 : decode (am_b 30) 1 = .ok (.iload_n 1, 1) := by decide +kernel
theorem d_30_2 : decode (am_b 30) 2 = .ok (.invokevirtual 73, 3) := by decide +kernel
theorem d_30_5 : decode (am_b 30) 5 = .ok (.ifCond .ne 5, 3) := by decide +kernel
theorem d_30_8 : decode (am_b 30) 8 = .ok (.iconst 0, 1) := by decide +kernel
theorem d_30_9 : decode (am_b 30) 9 = .ok (.ireturn, 1) := by decide +kernel
theorem d_30_10 : decode (am_b 30) 10 = .ok (.iconst 0, 1) := by decide +kernel
theorem d_30_11 : decode (am_b 30) 11 = .ok (.istore_n 2, 1) := by decide +kernel
theorem d_30_12 : decode (am_b 30) 12 = .ok (.iload_n 2, 1) := by decide +kernel
theorem d_30_13 : decode (am_b 30) 13 = .ok (.aload_n 0, 1) := by decide +kernel
theorem d_30_14 : decode (am_b 30) 14 = .ok (.getfield 26, 3) := by decide +kernel
theorem d_30_17 : decode (am_b 30) 17 = .ok (.if_icmp .gt 50, 3) := by decide +kernel
theorem d_30_20 : decode (am_b 30) 20 = .ok (.aload_n 0, 1) := by decide +kernel
theorem d_30_21 : decode (am_b 30) 21 = .ok (.getfield 48, 3) := by decide +kernel
theorem d_30_24 : decode (am_b 30) 24 = .ok (.iconst 4, 1) := by decide +kernel
theorem d_30_25 : decode (am_b 30) 25 = .ok (.if_icmp .lt 42, 3) := by decide +kernel
theorem d_30_28 : decode (am_b 30) 28 = .ok (.aload_n 0, 1) := by decide +kernel
theorem d_30_29 : decode (am_b 30) 29 = .ok (.getfield 48, 3) := by decide +kernel
theorem d_30_32 : decode (am_b 30) 32 = .ok (.bipush 6, 2) := by decide +kernel
theorem d_30_34 : decode (am_b 30) 34 = .ok (.if_icmp .gt 33, 3) := by decide +kernel
theorem d_30_37 : decode (am_b 30) 37 = .ok (.aload_n 0, 1) := by decide +kernel
theorem d_30_38 : decode (am_b 30) 38 = .ok (.getfield 48, 3) := by decide +kernel
theorem d_30_41 : decode (am_b 30) 41 = .ok (.istore_n 3, 1) := by decide +kernel
theorem d_30_42 : decode (am_b 30) 42 = .ok (.aload_n 0, 1) := by decide +kernel
theorem d_30_43 : decode (am_b 30) 43 = .ok (.invokevirtual 41, 3) := by decide +kernel
theorem d_30_46 : decode (am_b 30) 46 = .ok (.aload_n 0, 1) := by decide +kernel
theorem d_30_47 : decode (am_b 30) 47 = .ok (.iload_n 1, 1) := by decide +kernel
theorem d_30_48 : decode (am_b 30) 48 = .ok (.invokevirtual 73, 3) := by decide +kernel
theorem d_30_51 : decode (am_b 30) 51 = .ok (.ifCond .ne 5, 3) := by decide +kernel
theorem d_30_54 : decode (am_b 30) 54 = .ok (.iconst 0, 1) := by decide +kernel
theorem d_30_55 : decode (am_b 30) 55 = .ok (.ireturn, 1) := by decide +kernel
theorem d_30_56 : decode (am_b 30) 56 = .ok (.aload_n 0, 1) := by decide +kernel
theorem d_30_57 : decode (am_b 30) 57 = .ok (.iload_n 3, 1) := by decide +kernel
theorem d_30_58 : decode (am_b 30) 58 = .ok (.invokevirtual 69, 3) := by decide +kernel
theorem d_30_61 : decode (am_b 30) 61 = .ok (.iinc 2 1, 3) := by decide +kernel
theorem d_30_64 : decode (am_b 30) 64 = .ok (.goto (-52), 3) := by decide +kernel
theorem d_30_67 : decode (am_b 30) 67 = .ok (.iconst 1, 1) := by decide +kernel
theorem d_30_68 : decode (am_b 30) 68 = .ok (.ireturn, 1) := by decide +kernel
theorem d_31_0 : decode (am_b 31) 0 = .ok (.aload_n 0, 1) := by decide +kernel
theorem d_31_1 : decode (am_b 31) 1 = .ok (.getfield 48, 3) := by decide +kernel
theorem d_31_4 : decode (am_b 31) 4 = .ok (.iconst 3, 1) := by decide +kernel
theorem d_31_5 : decode (am_b 31) 5 = .ok (.if_icmp .gt 36, 3) := by decide +kernel
theorem d_31_8 : decode (am_b 31) 8 = .ok (.aload_n 0, 1) := by decide +kernel
theorem d_31_9 : decode (am_b 31) 9 = .ok (.getfield 35, 3) := by decide +kernel
theorem d_31_12 : decode (am_b 31) 12 = .ok (.bipush 32, 2) := by decide +kernel
theorem d_31_14 : decode (am_b 31) 14 = .ok (.if_icmp .ge 27, 3) := by decide +kernel
theorem d_31_17 : decode (am_b 31) 17 = .ok (.aload_n 0, 1) := by decide +kernel
theorem d_31_18 : decode (am_b 31) 18 = .ok (.dup, 1) := by decide +kernel
theorem d_31_19 : decode (am_b 31) 19 = .ok (.getfield 35, 3) := by decide +kernel
theorem d_31_22 : decode (am_b 31) 22 = .ok (.iconst 1, 1) := by decide +kernel
theorem d_31_23 : decode (am_b 31) 23 = .ok (.iadd, 1) := by decide +kernel
theorem d_31_24 : decode (am_b 31) 24 = .ok (.putfield 35, 3) := by decide +kernel
theorem d_31_27 : decode (am_b 31) 27 = .ok (.aload_n 0, 1) := by decide +kernel
theorem d_31_28 : decode (am_b 31) 28 = .ok (.aload_n 0, 1) := by decide +kernel
theorem d_31_29 : decode (am_b 31) 29 = .ok (.getfield 48, 3) := by decide +kernel
theorem d_31_32 : decode (am_b 31) 32 = .ok (.invokevirtual 69, 3) := by decide +kernel
theorem d_31_35 : decode (am_b 31) 35 = .ok (.aload_n 0, 1) := by decide +kernel
theorem d_31_36 : decode (am_b 31) 36 = .ok (.invokevirtual 41, 3) := by decide +kernel
theorem d_31_39 : decode (am_b 31) 39 = .ok (.iconst 1, 1) := by decide +kernel
theorem d_31_40 : decode (am_b 31) 40 = .ok (.ireturn, 1) := by decide +kernel
theorem d_31_41 : decode (am_b 31) 41 = .ok (.aload_n 0, 1) := by decide +kernel
theorem d_31_42 : decode (am_b 31) 42 = .ok (.getfield 48, 3) := by decide +kernel
theorem d_31_45 : decode (am_b 31) 45 = .ok (.bipush 10, 2) := by decide +kernel
theorem d_31_47 : decode (am_b 31) 47 = .ok (.if_icmp .ne 9, 3) := by decide +kernel
theorem d_31_50 : decode (am_b 31) 50 = .ok (.iload_n 1, 1) := by decide +kernel
theorem d_31_51 : decode (am_b 31) 51 = .ok (.bipush 8, 2) := by decide +kernel
theorem d_31_53 : decode (am_b 31) 53 = .ok (.if_icmp .lt 5, 3) := by decide +kernel
theorem d_31_56 : decode (am_b 31) 56 = .ok (.iconst 0, 1) := by decide +kernel
theorem d_31_57 : decode (am_b 31) 57 = .ok (.ireturn, 1) := by decide +kernel
theorem d_31_58 : decode (am_b 31) 58 = .ok (.aload_n 0, 1) := by decide +kernel
theorem d_31_59 : decode (am_b 31) 59 = .ok (.invokevirtual 41, 3) := by decide +kernel
theorem d_31_62 : decode (am_b 31) 62 = .ok (.aload_n 0, 1) := by decide +kernel
theorem d_31_63 : decode (am_b 31) 63 = .ok (.iload_n 1, 1) := by decide +kernel
theorem d_31_64 : decode (am_b 31) 64 = .ok (.iconst 1, 1) := by decide +kernel
theorem d_31_65 : decode (am_b 31) 65 = .ok (.iadd, 1) := by decide +kernel
theorem d_31_66 : decode (am_b 31) 66 = .ok (.invokevirtual 65, 3) := by decide +kernel
theorem d_31_69 : decode (am_b 31) 69 = .ok (.ifCond .eq 12, 3) := by decide +kernel
theorem d_31_72 : decode (am_b 31) 72 = .ok (.aload_n 0, 1) := by decide +kernel
theorem d_31_73 : decode (am_b 31) 73 = .ok (.getfield 48, 3) := by decide +kernel
theorem d_31_76 : decode (am_b 31) 76 = .ok (.bipush 11, 2) := by decide +kernel
theorem d_31_78 : decode (am_b 31) 78 = .ok (.if_icmp .eq 5, 3) := by decide +kernel
theorem d_31_81 : decode (am_b 31) 81 = .ok (.iconst 0, 1) := by decide +kernel
theorem d_31_82 : decode (am_b 31) 82 = .ok (.ireturn, 1) := by decide +kernel
theorem d_31_83 : decode (am_b 31) 83 = .ok (.aload_n 0, 1) := by decide +kernel
theorem d_31_84 : decode (am_b 31) 84 = .ok (.invokevirtual 41, 3) := by decide +kernel
theorem d_31_87 : decode (am_b 31) 87 = .ok (.iconst 1, 1) := by decide +kernel
theorem d_31_88 : decode (am_b 31) 88 = .ok (.ireturn, 1) := by decide +kernel
theorem d_32_0 : decode (am_b 32) 0 = .ok (.aload_n 0, 1) := by decide +kernel
theorem d_32_1 : decode (am_b 32) 1 = .ok (.getfield 32, 3) := by decide +kernel
theorem d_32_4 : decode (am_b 32) 4 = .ok (.aload_n 0, 1) := by decide +kernel
theorem d_32_5 : decode (am_b 32) 5 = .ok (.getfield 13, 3) := by decide +kernel
theorem d_32_8 : decode (am_b 32) 8 = .ok (.arraylength, 1) := by decide +kernel
theorem d_32_9 : decode (am_b 32) 9 = .ok (.if_icmp .ge 35, 3) := by decide +kernel
theorem d_32_12 : decode (am_b 32) 12 = .ok (.aload_n 0, 1) := by decide +kernel
theorem d_32_13 : decode (am_b 32) 13 = .ok (.getfield 13, 3) := by decide +kernel
theorem d_32_16 : decode (am_b 32) 16 = .ok (.aload_n 0, 1) := by decide +kernel
theorem d_32_17 : decode (am_b 32) 17 = .ok (.getfield 32, 3) := by decide +kernel
theorem d_32_20 : decode (am_b 32) 20 = .ok (.iload_n 1, 1) := by decide +kernel
theorem d_32_21 : decode (am_b 32) 21 = .ok (.iastore, 1) := by decide +kernel
theorem d_32_22 : decode (am_b 32) 22 = .ok (.aload_n 0, 1) := by decide +kernel
theorem d_32_23 : decode (am_b 32) 23 = .ok (.dup, 1) := by decide +kernel
theorem d_32_24 : decode (am_b 32) 24 = .ok (.getfield 32, 3) := by decide +kernel
theorem d_32_27 : decode (am_b 32) 27 = .ok (.iconst 1, 1) := by decide +kernel
theorem d_32_28 : decode (am_b 32) 28 = .ok (.iadd, 1) := by decide +kernel
theorem d_32_29 : decode (am_b 32) 29 = .ok (.putfield 32, 3) := by decide +kernel
theorem d_32_32 : decode (am_b 32) 32 = .ok (.aload_n 0, 1) := by decide +kernel
theorem d_32_33 : decode (am_b 32) 33 = .ok (.dup, 1) := by decide +kernel
theorem d_32_34 : decode (am_b 32) 34 = .ok (.getfield 38, 3) := by decide +kernel
theorem d_32_37 : decode (am_b 32) 37 = .ok (.iconst 1, 1) := by decide +kernel
theorem d_32_38 : decode (am_b 32) 38 = .ok (.iload_n 1, 1) := by decide +kernel
theorem d_32_39 : decode (am_b 32) 39 = .ok (.ishl, 1) := by decide +kernel
theorem d_32_40 : decode (am_b 32) 40 = .ok (.ior, 1) := by decide +kernel
theorem d_32_41 : decode (am_b 32) 41 = .ok (.putfield 38, 3) := by decide +kernel
theorem d_32_44 : decode (am_b 32) 44 = .ok (.return_, 1) := by decide +kernel
theorem d_33_0 : decode (am_b 33) 0 = .ok (.aload_n 0, 1) := by decide +kernel
theorem d_33_1 : decode (am_b 33) 1 = .ok (.getfield 16, 3) := by decide +kernel
theorem d_33_4 : decode (am_b 33) 4 = .ok (.ireturn, 1) := by decide +kernel
theorem d_34_0 : decode (am_b 34) 0 = .ok (.aload_n 0, 1) := by decide +kernel
theorem d_34_1 : decode (am_b 34) 1 = .ok (.invokespecial 3, 3) := by decide +kernel
theorem d_34_4 : decode (am_b 34) 4 = .ok (.aload_n 0, 1) := by decide +kernel
theorem d_34_5 : decode (am_b 34) 5 = .ok (.new 9, 3) := by decide +kernel
theorem d_34_8 : decode (am_b 34) 8 = .ok (.dup, 1) := by decide +kernel
theorem d_34_9 : decode (am_b 34) 9 = .ok (.invokespecial 11, 3) := by decide +kernel
theorem d_34_12 : decode (am_b 34) 12 = .ok (.putfield 12, 3) := by decide +kernel
theorem d_34_15 : decode (am_b 34) 15 = .ok (.aload_n 0, 1) := by decide +kernel
theorem d_34_16 : decode (am_b 34) 16 = .ok (.new 18, 3) := by decide +kernel
theorem d_34_19 : decode (am_b 34) 19 = .ok (.dup, 1) := by decide +kernel
theorem d_34_20 : decode (am_b 34) 20 = .ok (.invokespecial 20, 3) := by decide +kernel
theorem d_34_23 : decode (am_b 34) 23 = .ok (.putfield 21, 3) := by decide +kernel
theorem d_34_26 : decode (am_b 34) 26 = .ok (.aload_n 0, 1) := by decide +kernel
theorem d_34_27 : decode (am_b 34) 27 = .ok (.bipush 6, 2) := by decide +kernel
theorem d_34_29 : decode (am_b 34) 29 = .ok (.newarray .int, 2) := by decide +kernel
theorem d_34_31 : decode (am_b 34) 31 = .ok (.putfield 25, 3) := by decide +kernel
theorem d_34_34 : decode (am_b 34) 34 = .ok (.aload_n 0, 1) := by decide +kernel
theorem d_34_35 : decode (am_b 34) 35 = .ok (.iconst 0, 1) := by decide +kernel
theorem d_34_36 : decode (am_b 34) 36 = .ok (.anewarray 29, 3) := by decide +kernel
theorem d_34_39 : decode (am_b 34) 39 = .ok (.putfield 31, 3) := by decide +kernel
theorem d_34_42 : decode (am_b 34) 42 = .ok (.return_, 1) := by decide +kernel
theorem d_35_0 : decode (am_b 35) 0 = .ok (.aload_n 0, 1) := by decide +kernel
theorem d_35_1 : decode (am_b 35) 1 = .ok (.aload_n 1, 1) := by decide +kernel
theorem d_35_2 : decode (am_b 35) 2 = .ok (.putfield 31, 3) := by decide +kernel
theorem d_35_5 : decode (am_b 35) 5 = .ok (.aload_n 0, 1) := by decide +kernel
theorem d_35_6 : decode (am_b 35) 6 = .ok (.iload_n 2, 1) := by decide +kernel
theorem d_35_7 : decode (am_b 35) 7 = .ok (.putfield 35, 3) := by decide +kernel
theorem d_35_10 : decode (am_b 35) 10 = .ok (.aload_n 0, 1) := by decide +kernel
theorem d_35_11 : decode (am_b 35) 11 = .ok (.iload_n 3, 1) := by decide +kernel
theorem d_35_12 : decode (am_b 35) 12 = .ok (.putfield 39, 3) := by decide +kernel
theorem d_35_15 : decode (am_b 35) 15 = .ok (.return_, 1) := by decide +kernel
theorem d_36_0 : decode (am_b 36) 0 = .ok (.aload_n 0, 1) := by decide +kernel
theorem d_36_1 : decode (am_b 36) 1 = .ok (.iload_n 2, 1) := by decide +kernel
theorem d_36_2 : decode (am_b 36) 2 = .ok (.putfield 42, 3) := by decide +kernel
theorem d_36_5 : decode (am_b 36) 5 = .ok (.aload_n 0, 1) := by decide +kernel
theorem d_36_6 : decode (am_b 36) 6 = .ok (.iconst 0, 1) := by decide +kernel
theorem d_36_7 : decode (am_b 36) 7 = .ok (.putfield 45, 3) := by decide +kernel
theorem d_36_10 : decode (am_b 36) 10 = .ok (.aload_n 0, 1) := by decide +kernel
theorem d_36_11 : decode (am_b 36) 11 = .ok (.getfield 12, 3) := by decide +kernel
theorem d_36_14 : decode (am_b 36) 14 = .ok (.iload_n 1, 1) := by decide +kernel
theorem d_36_15 : decode (am_b 36) 15 = .ok (.putfield 48, 3) := by decide +kernel
theorem d_36_18 : decode (am_b 36) 18 = .ok (.iconst 0, 1) := by decide +kernel
theorem d_36_19 : decode (am_b 36) 19 = .ok (.istore_n 3, 1) := by decide +kernel
theorem d_36_20 : decode (am_b 36) 20 = .ok (.iload_n 3, 1) := by decide +kernel
theorem d_36_21 : decode (am_b 36) 21 = .ok (.iload_n 1, 1) := by decide +kernel
theorem d_36_22 : decode (am_b 36) 22 = .ok (.if_icmp .ge 38, 3) := by decide +kernel
theorem d_36_25 : decode (am_b 36) 25 = .ok (.aload_n 0, 1) := by decide +kernel
theorem d_36_26 : decode (am_b 36) 26 = .ok (.getfield 12, 3) := by decide +kernel
theorem d_36_29 : decode (am_b 36) 29 = .ok (.iload_n 3, 1) := by decide +kernel
theorem d_36_30 : decode (am_b 36) 30 = .ok (.iconst 0, 1) := by decide +kernel
theorem d_36_31 : decode (am_b 36) 31 = .ok (.iload_n 3, 1) := by decide +kernel
theorem d_36_32 : decode (am_b 36) 32 = .ok (.invokevirtual 51, 3) := by decide +kernel
theorem d_36_35 : decode (am_b 36) 35 = .ok (.aload_n 0, 1) := by decide +kernel
theorem d_36_36 : decode (am_b 36) 36 = .ok (.getfield 12, 3) := by decide +kernel
theorem d_36_39 : decode (am_b 36) 39 = .ok (.iconst 0, 1) := by decide +kernel
theorem d_36_40 : decode (am_b 36) 40 = .ok (.iload_n 3, 1) := by decide +kernel
theorem d_36_41 : decode (am_b 36) 41 = .ok (.iload_n 3, 1) := by decide +kernel
theorem d_36_42 : decode (am_b 36) 42 = .ok (.invokevirtual 51, 3) := by decide +kernel
theorem d_36_45 : decode (am_b 36) 45 = .ok (.aload_n 0, 1) := by decide +kernel
theorem d_36_46 : decode (am_b 36) 46 = .ok (.getfield 25, 3) := by decide +kernel
theorem d_36_49 : decode (am_b 36) 49 = .ok (.iload_n 3, 1) := by decide +kernel
theorem d_36_50 : decode (am_b 36) 50 = .ok (.iconst 1, 1) := by decide +kernel
theorem d_36_51 : decode (am_b 36) 51 = .ok (.iload_n 3, 1) := by decide +kernel
theorem d_36_52 : decode (am_b 36) 52 = .ok (.ishl, 1) := by decide +kernel
theorem d_36_53 : decode (am_b 36) 53 = .ok (.iastore, 1) := by decide +kernel
theorem d_36_54 : decode (am_b 36) 54 = .ok (.iinc 3 1, 3) := by decide +kernel
theorem d_36_57 : decode (am_b 36) 57 = .ok (.goto (-37), 3) := by decide +kernel
theorem d_36_60 : decode (am_b 36) 60 = .ok (.aload_n 0, 1) := by decide +kernel
theorem d_36_61 : decode (am_b 36) 61 = .ok (.iconst 1, 1) := by decide +kernel
theorem d_36_62 : decode (am_b 36) 62 = .ok (.iconst 1, 1) := by decide +kernel
theorem d_36_63 : decode (am_b 36) 63 = .ok (.iconst 2, 1) := by decide +kernel
theorem d_36_64 : decode (am_b 36) 64 = .ok (.invokevirtual 55, 3) := by decide +kernel
theorem d_36_67 : decode (am_b 36) 67 = .ok (.ireturn, 1) := by decide +kernel
theorem d_37_0 : decode (am_b 37) 0 = .ok (.iload_n 1, 1) := by decide +kernel
theorem d_37_1 : decode (am_b 37) 1 = .ok (.aload_n 0, 1) := by decide +kernel
theorem d_37_2 : decode (am_b 37) 2 = .ok (.getfield 12, 3) := by decide +kernel
theorem d_37_5 : decode (am_b 37) 5 = .ok (.getfield 48, 3) := by decide +kernel
theorem d_37_8 : decode (am_b 37) 8 = .ok (.if_icmp .lt 41, 3) := by decide +kernel
theorem d_37_11 : decode (am_b 37) 11 = .ok (.aload_n 0, 1) := by decide +kernel
theorem d_37_12 : decode (am_b 37) 12 = .ok (.invokevirtual 59, 3) := by decide +kernel
theorem d_37_15 : decode (am_b 37) 15 = .ok (.ifCond .ne 5, 3) := by decide +kernel
theorem d_37_18 : decode (am_b 37) 18 = .ok (.iconst 0, 1) := by decide +kernel
theorem d_37_19 : decode (am_b 37) 19 = .ok (.ireturn, 1) := by decide +kernel
theorem d_37_20 : decode (am_b 37) 20 = .ok (.aload_n 0, 1) := by decide +kernel
theorem d_37_21 : decode (am_b 37) 21 = .ok (.dup, 1) := by decide +kernel
theorem d_37_22 : decode (am_b 37) 22 = .ok (.getfield 45, 3) := by decide +kernel
theorem d_37_25 : decode (am_b 37) 25 = .ok (.iconst 1, 1) := by decide +kernel
theorem d_37_26 : decode (am_b 37) 26 = .ok (.iadd, 1) := by decide +kernel
theorem d_37_27 : decode (am_b 37) 27 = .ok (.putfield 45, 3) := by decide +kernel
theorem d_37_30 : decode (am_b 37) 30 = .ok (.aload_n 0, 1) := by decide +kernel
theorem d_37_31 : decode (am_b 37) 31 = .ok (.getfield 45, 3) := by decide +kernel
theorem d_37_34 : decode (am_b 37) 34 = .ok (.iconst 1, 1) := by decide +kernel
theorem d_37_35 : decode (am_b 37) 35 = .ok (.isub, 1) := by decide +kernel
theorem d_37_36 : decode (am_b 37) 36 = .ok (.aload_n 0, 1) := by decide +kernel
theorem d_37_37 : decode (am_b 37) 37 = .ok (.getfield 42, 3) := by decide +kernel
theorem d_37_40 : decode (am_b 37) 40 = .ok (.if_icmp .ne 7, 3) := by decide +kernel
theorem d_37_43 : decode (am_b 37) 43 = .ok (.iconst 1, 1) := by decide +kernel
theorem d_37_44 : decode (am_b 37) 44 = .ok (.goto 4, 3) := by decide +kernel
theorem d_37_47 : decode (am_b 37) 47 = .ok (.iconst 0, 1) := by decide +kernel
theorem d_37_48 : decode (am_b 37) 48 = .ok (.ireturn, 1) := by decide +kernel
theorem d_37_49 : decode (am_b 37) 49 = .ok (.iload_n 3, 1) := by decide +kernel
theorem d_37_50 : decode (am_b 37) 50 = .ok (.aload_n 0, 1) := by decide +kernel
theorem d_37_51 : decode (am_b 37) 51 = .ok (.getfield 25, 3) := by decide +kernel
theorem d_37_54 : decode (am_b 37) 54 = .ok (.iload_n 2, 1) := by decide +kernel
theorem d_37_55 : decode (am_b 37) 55 = .ok (.iaload, 1) := by decide +kernel
theorem d_37_56 : decode (am_b 37) 56 = .ok (.ior, 1) := by decide +kernel
theorem d_37_57 : decode (am_b 37) 57 = .ok (.istore 4, 2) := by decide +kernel
theorem d_37_59 : decode (am_b 37) 59 = .ok (.iload_n 2, 1) := by decide +kernel
theorem d_37_60 : decode (am_b 37) 60 = .ok (.aload_n 0, 1) := by decide +kernel
theorem d_37_61 : decode (am_b 37) 61 = .ok (.getfield 12, 3) := by decide +kernel
theorem d_37_64 : decode (am_b 37) 64 = .ok (.getfield 48, 3) := by decide +kernel
theorem d_37_67 : decode (am_b 37) 67 = .ok (.iconst 1, 1) := by decide +kernel
theorem d_37_68 : decode (am_b 37) 68 = .ok (.isub, 1) := by decide +kernel
theorem d_37_69 : decode (am_b 37) 69 = .ok (.if_icmp .ne 7, 3) := by decide +kernel
theorem d_37_72 : decode (am_b 37) 72 = .ok (.iconst 1, 1) := by decide +kernel
theorem d_37_73 : decode (am_b 37) 73 = .ok (.goto 4, 3) := by decide +kernel
theorem d_37_76 : decode (am_b 37) 76 = .ok (.iconst 0, 1) := by decide +kernel
theorem d_37_77 : decode (am_b 37) 77 = .ok (.istore 5, 2) := by decide +kernel
theorem d_37_79 : decode (am_b 37) 79 = .ok (.iconst 0, 1) := by decide +kernel
theorem d_37_80 : decode (am_b 37) 80 = .ok (.istore 6, 2) := by decide +kernel
theorem d_37_82 : decode (am_b 37) 82 = .ok (.iload 6, 2) := by decide +kernel
theorem d_37_84 : decode (am_b 37) 84 = .ok (.aload_n 0, 1) := by decide +kernel
theorem d_37_85 : decode (am_b 37) 85 = .ok (.getfield 12, 3) := by decide +kernel
theorem d_37_88 : decode (am_b 37) 88 = .ok (.getfield 48, 3) := by decide +kernel
theorem d_37_91 : decode (am_b 37) 91 = .ok (.if_icmp .ge 103, 3) := by decide +kernel
theorem d_37_94 : decode (am_b 37) 94 = .ok (.iconst 1, 1) := by decide +kernel
theorem d_37_95 : decode (am_b 37) 95 = .ok (.iload 6, 2) := by decide +kernel
theorem d_37_97 : decode (am_b 37) 97 = .ok (.ishl, 1) := by decide +kernel
theorem d_37_98 : decode (am_b 37) 98 = .ok (.istore 7, 2) := by decide +kernel
theorem d_37_100 : decode (am_b 37) 100 = .ok (.iload 4, 2) := by decide +kernel
theorem d_37_102 : decode (am_b 37) 102 = .ok (.iload 7, 2) := by decide +kernel
theorem d_37_104 : decode (am_b 37) 104 = .ok (.iand, 1) := by decide +kernel
theorem d_37_105 : decode (am_b 37) 105 = .ok (.ifCond .eq 6, 3) := by decide +kernel
theorem d_37_108 : decode (am_b 37) 108 = .ok (.goto 80, 3) := by decide +kernel
theorem d_37_111 : decode (am_b 37) 111 = .ok (.aload_n 0, 1) := by decide +kernel
theorem d_37_112 : decode (am_b 37) 112 = .ok (.getfield 12, 3) := by decide +kernel
theorem d_37_115 : decode (am_b 37) 115 = .ok (.iload_n 1, 1) := by decide +kernel
theorem d_37_116 : decode (am_b 37) 116 = .ok (.iload_n 2, 1) := by decide +kernel
theorem d_37_117 : decode (am_b 37) 117 = .ok (.iload 6, 2) := by decide +kernel
theorem d_37_119 : decode (am_b 37) 119 = .ok (.invokevirtual 51, 3) := by decide +kernel
theorem d_37_122 : decode (am_b 37) 122 = .ok (.aload_n 0, 1) := by decide +kernel
theorem d_37_123 : decode (am_b 37) 123 = .ok (.getfield 25, 3) := by decide +kernel
theorem d_37_126 : decode (am_b 37) 126 = .ok (.iload_n 2, 1) := by decide +kernel
theorem d_37_127 : decode (am_b 37) 127 = .ok (.dup2, 1) := by decide +kernel
theorem d_37_128 : decode (am_b 37) 128 = .ok (.iaload, 1) := by decide +kernel
theorem d_37_129 : decode (am_b 37) 129 = .ok (.iload 7, 2) := by decide +kernel
theorem d_37_131 : decode (am_b 37) 131 = .ok (.ior, 1) := by decide +kernel
theorem d_37_132 : decode (am_b 37) 132 = .ok (.iastore, 1) := by decide +kernel
theorem d_37_133 : decode (am_b 37) 133 = .ok (.iload 5, 2) := by decide +kernel
theorem d_37_135 : decode (am_b 37) 135 = .ok (.ifCond .eq 19, 3) := by decide +kernel
theorem d_37_138 : decode (am_b 37) 138 = .ok (.aload_n 0, 1) := by decide +kernel
theorem d_37_139 : decode (am_b 37) 139 = .ok (.iload_n 1, 1) := by decide +kernel
theorem d_37_140 : decode (am_b 37) 140 = .ok (.iconst 1, 1) := by decide +kernel
theorem d_37_141 : decode (am_b 37) 141 = .ok (.iadd, 1) := by decide +kernel
theorem d_37_142 : decode (am_b 37) 142 = .ok (.iconst 1, 1) := by decide +kernel
theorem d_37_143 : decode (am_b 37) 143 = .ok (.iconst 1, 1) := by decide +kernel
theorem d_37_144 : decode (am_b 37) 144 = .ok (.iload_n 1, 1) := by decide +kernel
theorem d_37_145 : decode (am_b 37) 145 = .ok (.iconst 1, 1) := by decide +kernel
theorem d_37_146 : decode (am_b 37) 146 = .ok (.iadd, 1) := by decide +kernel
theorem d_37_147 : decode (am_b 37) 147 = .ok (.ishl, 1) := by decide +kernel
theorem d_37_148 : decode (am_b 37) 148 = .ok (.invokevirtual 55, 3) := by decide +kernel
theorem d_37_151 : decode (am_b 37) 151 = .ok (.goto 15, 3) := by decide +kernel
theorem d_37_154 : decode (am_b 37) 154 = .ok (.aload_n 0, 1) := by decide +kernel
theorem d_37_155 : decode (am_b 37) 155 = .ok (.iload_n 1, 1) := by decide +kernel
theorem d_37_156 : decode (am_b 37) 156 = .ok (.iload_n 2, 1) := by decide +kernel
theorem d_37_157 : decode (am_b 37) 157 = .ok (.iconst 1, 1) := by decide +kernel
theorem d_37_158 : decode (am_b 37) 158 = .ok (.iadd, 1) := by decide +kernel
theorem d_37_159 : decode (am_b 37) 159 = .ok (.iload_n 3, 1) := by decide +kernel
theorem d_37_160 : decode (am_b 37) 160 = .ok (.iload 7, 2) := by decide +kernel
theorem d_37_162 : decode (am_b 37) 162 = .ok (.ior, 1) := by decide +kernel
theorem d_37_163 : decode (am_b 37) 163 = .ok (.invokevirtual 55, 3) := by decide +kernel
theorem d_37_166 : decode (am_b 37) 166 = .ok (.istore 8, 2) := by decide +kernel
theorem d_37_168 : decode (am_b 37) 168 = .ok (.aload_n 0, 1) := by decide +kernel
theorem d_37_169 : decode (am_b 37) 169 = .ok (.getfield 25, 3) := by decide +kernel
theorem d_37_172 : decode (am_b 37) 172 = .ok (.iload_n 2, 1) := by decide +kernel
theorem d_37_173 : decode (am_b 37) 173 = .ok (.dup2, 1) := by decide +kernel
theorem d_37_174 : decode (am_b 37) 174 = .ok (.iaload, 1) := by decide +kernel
theorem d_37_175 : decode (am_b 37) 175 = .ok (.iload 7, 2) := by decide +kernel
theorem d_37_177 : decode (am_b 37) 177 = .ok (.iconst (-1), 1) := by decide +kernel
theorem d_37_178 : decode (am_b 37) 178 = .ok (.ixor, 1) := by decide +kernel
theorem d_37_179 : decode (am_b 37) 179 = .ok (.iand, 1) := by decide +kernel
theorem d_37_180 : decode (am_b 37) 180 = .ok (.iastore, 1) := by decide +kernel
theorem d_37_181 : decode (am_b 37) 181 = .ok (.iload 8, 2) := by decide +kernel
theorem d_37_183 : decode (am_b 37) 183 = .ok (.ifCond .eq 5, 3) := by decide +kernel
theorem d_37_186 : decode (am_b 37) 186 = .ok (.iconst 1, 1) := by decide +kernel
theorem d_37_187 : decode (am_b 37) 187 = .ok (.ireturn, 1) := by decide +kernel
theorem d_37_188 : decode (am_b 37) 188 = .ok (.iinc 6 1, 3) := by decide +kernel
theorem d_37_191 : decode (am_b 37) 191 = .ok (.goto (-109), 3) := by decide +kernel
theorem d_37_194 : decode (am_b 37) 194 = .ok (.iconst 0, 1) := by decide +kernel
theorem d_37_195 : decode (am_b 37) 195 = .ok (.ireturn, 1) := by decide +kernel
theorem d_38_0 : decode (am_b 38) 0 = .ok (.aload_n 0, 1) := by decide +kernel
theorem d_38_1 : decode (am_b 38) 1 = .ok (.getfield 35, 3) := by decide +kernel
theorem d_38_4 : decode (am_b 38) 4 = .ok (.aload_n 0, 1) := by decide +kernel
theorem d_38_5 : decode (am_b 38) 5 = .ok (.getfield 39, 3) := by decide +kernel
theorem d_38_8 : decode (am_b 38) 8 = .ok (.ior, 1) := by decide +kernel
theorem d_38_9 : decode (am_b 38) 9 = .ok (.ifCond .ne 5, 3) := by decide +kernel
theorem d_38_12 : decode (am_b 38) 12 = .ok (.iconst 1, 1) := by decide +kernel
theorem d_38_13 : decode (am_b 38) 13 = .ok (.ireturn, 1) := by decide +kernel
theorem d_38_14 : decode (am_b 38) 14 = .ok (.aload_n 0, 1) := by decide +kernel
theorem d_38_15 : decode (am_b 38) 15 = .ok (.getfield 21, 3) := by decide +kernel
theorem d_38_18 : decode (am_b 38) 18 = .ok (.aload_n 0, 1) := by decide +kernel
theorem d_38_19 : decode (am_b 38) 19 = .ok (.getfield 12, 3) := by decide +kernel
theorem d_38_22 : decode (am_b 38) 22 = .ok (.iconst 0, 1) := by decide +kernel
theorem d_38_23 : decode (am_b 38) 23 = .ok (.invokevirtual 63, 3) := by decide +kernel
theorem d_38_26 : decode (am_b 38) 26 = .ok (.iconst 0, 1) := by decide +kernel
theorem d_38_27 : decode (am_b 38) 27 = .ok (.istore_n 1, 1) := by decide +kernel
theorem d_38_28 : decode (am_b 38) 28 = .ok (.iload_n 1, 1) := by decide +kernel
theorem d_38_29 : decode (am_b 38) 29 = .ok (.aload_n 0, 1) := by decide +kernel
theorem d_38_30 : decode (am_b 38) 30 = .ok (.getfield 31, 3) := by decide +kernel
theorem d_38_33 : decode (am_b 38) 33 = .ok (.arraylength, 1) := by decide +kernel
theorem d_38_34 : decode (am_b 38) 34 = .ok (.if_icmp .ge 102, 3) := by decide +kernel
theorem d_38_37 : decode (am_b 38) 37 = .ok (.aload_n 0, 1) := by decide +kernel
theorem d_38_38 : decode (am_b 38) 38 = .ok (.getfield 35, 3) := by decide +kernel
theorem d_38_41 : decode (am_b 38) 41 = .ok (.iload_n 1, 1) := by decide +kernel
theorem d_38_42 : decode (am_b 38) 42 = .ok (.ishr, 1) := by decide +kernel
theorem d_38_43 : decode (am_b 38) 43 = .ok (.iconst 1, 1) := by decide +kernel
theorem d_38_44 : decode (am_b 38) 44 = .ok (.iand, 1) := by decide +kernel
theorem d_38_45 : decode (am_b 38) 45 = .ok (.ifCond .eq 7, 3) := by decide +kernel
theorem d_38_48 : decode (am_b 38) 48 = .ok (.iconst 1, 1) := by decide +kernel
theorem d_38_49 : decode (am_b 38) 49 = .ok (.goto 4, 3) := by decide +kernel
theorem d_38_52 : decode (am_b 38) 52 = .ok (.iconst 0, 1) := by decide +kernel
theorem d_38_53 : decode (am_b 38) 53 = .ok (.istore_n 2, 1) := by decide +kernel
theorem d_38_54 : decode (am_b 38) 54 = .ok (.aload_n 0, 1) := by decide +kernel
theorem d_38_55 : decode (am_b 38) 55 = .ok (.getfield 39, 3) := by decide +kernel
theorem d_38_58 : decode (am_b 38) 58 = .ok (.iload_n 1, 1) := by decide +kernel
theorem d_38_59 : decode (am_b 38) 59 = .ok (.ishr, 1) := by decide +kernel
theorem d_38_60 : decode (am_b 38) 60 = .ok (.iconst 1, 1) := by decide +kernel
theorem d_38_61 : decode (am_b 38) 61 = .ok (.iand, 1) := by decide +kernel
theorem d_38_62 : decode (am_b 38) 62 = .ok (.ifCond .eq 7, 3) := by decide +kernel
theorem d_38_65 : decode (am_b 38) 65 = .ok (.iconst 1, 1) := by decide +kernel
theorem d_38_66 : decode (am_b 38) 66 = .ok (.goto 4, 3) := by decide +kernel
theorem d_38_69 : decode (am_b 38) 69 = .ok (.iconst 0, 1) := by decide +kernel
theorem d_38_70 : decode (am_b 38) 70 = .ok (.istore_n 3, 1) := by decide +kernel
theorem d_38_71 : decode (am_b 38) 71 = .ok (.iload_n 2, 1) := by decide +kernel
theorem d_38_72 : decode (am_b 38) 72 = .ok (.ifCond .ne 7, 3) := by decide +kernel
theorem d_38_75 : decode (am_b 38) 75 = .ok (.iload_n 3, 1) := by decide +kernel
theorem d_38_76 : decode (am_b 38) 76 = .ok (.ifCond .eq 54, 3) := by decide +kernel
theorem d_38_79 : decode (am_b 38) 79 = .ok (.aload_n 0, 1) := by decide +kernel
theorem d_38_80 : decode (am_b 38) 80 = .ok (.getfield 31, 3) := by decide +kernel
theorem d_38_83 : decode (am_b 38) 83 = .ok (.iload_n 1, 1) := by decide +kernel
theorem d_38_84 : decode (am_b 38) 84 = .ok (.aaload, 1) := by decide +kernel
theorem d_38_85 : decode (am_b 38) 85 = .ok (.ifnull 45, 3) := by decide +kernel
theorem d_38_88 : decode (am_b 38) 88 = .ok (.aload_n 0, 1) := by decide +kernel
theorem d_38_89 : decode (am_b 38) 89 = .ok (.getfield 21, 3) := by decide +kernel
theorem d_38_92 : decode (am_b 38) 92 = .ok (.aload_n 0, 1) := by decide +kernel
theorem d_38_93 : decode (am_b 38) 93 = .ok (.getfield 31, 3) := by decide +kernel
theorem d_38_96 : decode (am_b 38) 96 = .ok (.iload_n 1, 1) := by decide +kernel
theorem d_38_97 : decode (am_b 38) 97 = .ok (.aaload, 1) := by decide +kernel
theorem d_38_98 : decode (am_b 38) 98 = .ok (.iconst 1, 1) := by decide +kernel
theorem d_38_99 : decode (am_b 38) 99 = .ok (.invokevirtual 67, 3) := by decide +kernel
theorem d_38_102 : decode (am_b 38) 102 = .ok (.ifCond .ne 7, 3) := by decide +kernel
theorem d_38_105 : decode (am_b 38) 105 = .ok (.iconst 1, 1) := by decide +kernel
theorem d_38_106 : decode (am_b 38) 106 = .ok (.goto 4, 3) := by decide +kernel
theorem d_38_109 : decode (am_b 38) 109 = .ok (.iconst 0, 1) := by decide +kernel
theorem d_38_110 : decode (am_b 38) 110 = .ok (.istore 4, 2) := by decide +kernel
theorem d_38_112 : decode (am_b 38) 112 = .ok (.iload 4, 2) := by decide +kernel
theorem d_38_114 : decode (am_b 38) 114 = .ok (.ifCond .eq 10, 3) := by decide +kernel
theorem d_38_117 : decode (am_b 38) 117 = .ok (.iload_n 3, 1) := by decide +kernel
theorem d_38_118 : decode (am_b 38) 118 = .ok (.ifCond .eq 12, 3) := by decide +kernel
theorem d_38_121 : decode (am_b 38) 121 = .ok (.goto 7, 3) := by decide +kernel
theorem d_38_124 : decode (am_b 38) 124 = .ok (.iload_n 2, 1) := by decide +kernel
theorem d_38_125 : decode (am_b 38) 125 = .ok (.ifCond .eq 5, 3) := by decide +kernel
theorem d_38_128 : decode (am_b 38) 128 = .ok (.iconst 0, 1) := by decide +kernel
theorem d_38_129 : decode (am_b 38) 129 = .ok (.ireturn, 1) := by decide +kernel
theorem d_38_130 : decode (am_b 38) 130 = .ok (.iinc 1 1, 3) := by decide +kernel
theorem d_38_133 : decode (am_b 38) 133 = .ok (.goto (-105), 3) := by decide +kernel
theorem d_38_136 : decode (am_b 38) 136 = .ok (.iconst 1, 1) := by decide +kernel
theorem d_38_137 : decode (am_b 38) 137 = .ok (.ireturn, 1) := by decide +kernel
theorem d_39_0 : decode (am_b 39) 0 = .ok (.aload_n 0, 1) := by decide +kernel
theorem d_39_1 : decode (am_b 39) 1 = .ok (.invokespecial 3, 3) := by decide +kernel
theorem d_39_4 : decode (am_b 39) 4 = .ok (.aload_n 0, 1) := by decide +kernel
theorem d_39_5 : decode (am_b 39) 5 = .ok (.new 9, 3) := by decide +kernel
theorem d_39_8 : decode (am_b 39) 8 = .ok (.dup, 1) := by decide +kernel
theorem d_39_9 : decode (am_b 39) 9 = .ok (.invokespecial 11, 3) := by decide +kernel
theorem d_39_12 : decode (am_b 39) 12 = .ok (.putfield 12, 3) := by decide +kernel
theorem d_39_15 : decode (am_b 39) 15 = .ok (.aload_n 0, 1) := by decide +kernel
theorem d_39_16 : decode (am_b 39) 16 = .ok (.iconst (-1), 1) := by decide +kernel
theorem d_39_17 : decode (am_b 39) 17 = .ok (.putfield 18, 3) := by decide +kernel
theorem d_39_20 : decode (am_b 39) 20 = .ok (.aload_n 0, 1) := by decide +kernel
theorem d_39_21 : decode (am_b 39) 21 = .ok (.new 9, 3) := by decide +kernel
theorem d_39_24 : decode (am_b 39) 24 = .ok (.dup, 1) := by decide +kernel
theorem d_39_25 : decode (am_b 39) 25 = .ok (.invokespecial 11, 3) := by decide +kernel
theorem d_39_28 : decode (am_b 39) 28 = .ok (.putfield 22, 3) := by decide +kernel
theorem d_39_31 : decode (am_b 39) 31 = .ok (.aload_n 0, 1) := by decide +kernel
theorem d_39_32 : decode (am_b 39) 32 = .ok (.new 9, 3) := by decide +kernel
theorem d_39_35 : decode (am_b 39) 35 = .ok (.dup, 1) := by decide +kernel
theorem d_39_36 : decode (am_b 39) 36 = .ok (.invokespecial 11, 3) := by decide +kernel
theorem d_39_39 : decode (am_b 39) 39 = .ok (.putfield 25, 3) := by decide +kernel
theorem d_39_42 : decode (am_b 39) 42 = .ok (.aload_n 0, 1) := by decide +kernel
theorem d_39_43 : decode (am_b 39) 43 = .ok (.new 9, 3) := by decide +kernel
theorem d_39_46 : decode (am_b 39) 46 = .ok (.dup, 1) := by decide +kernel
theorem d_39_47 : decode (am_b 39) 47 = .ok (.invokespecial 11, 3) := by decide +kernel
theorem d_39_50 : decode (am_b 39) 50 = .ok (.putfield 28, 3) := by decide +kernel
theorem d_39_53 : decode (am_b 39) 53 = .ok (.aload_n 0, 1) := by decide +kernel
theorem d_39_54 : decode (am_b 39) 54 = .ok (.bipush 6, 2) := by decide +kernel
theorem d_39_56 : decode (am_b 39) 56 = .ok (.newarray .int, 2) := by decide +kernel
theorem d_39_58 : decode (am_b 39) 58 = .ok (.putfield 31, 3) := by decide +kernel
theorem d_39_61 : decode (am_b 39) 61 = .ok (.aload_n 0, 1) := by decide +kernel
theorem d_39_62 : decode (am_b 39) 62 = .ok (.bipush 6, 2) := by decide +kernel
theorem d_39_64 : decode (am_b 39) 64 = .ok (.newarray .int, 2) := by decide +kernel
theorem d_39_66 : decode (am_b 39) 66 = .ok (.putfield 35, 3) := by decide +kernel
theorem d_39_69 : decode (am_b 39) 69 = .ok (.return_, 1) := by decide +kernel
theorem d_40_0 : decode (am_b 40) 0 = .ok (.iload_n 2, 1) := by decide +kernel
theorem d_40_1 : decode (am_b 40) 1 = .ok (.aload_n 0, 1) := by decide +kernel
theorem d_40_2 : decode (am_b 40) 2 = .ok (.getfield 18, 3) := by decide +kernel
theorem d_40_5 : decode (am_b 40) 5 = .ok (.if_icmp .ne 32, 3) := by decide +kernel
theorem d_40_8 : decode (am_b 40) 8 = .ok (.aload_n 1, 1) := by decide +kernel
theorem d_40_9 : decode (am_b 40) 9 = .ok (.getfield 38, 3) := by decide +kernel
theorem d_40_12 : decode (am_b 40) 12 = .ok (.aload_n 0, 1) := by decide +kernel
theorem d_40_13 : decode (am_b 40) 13 = .ok (.getfield 12, 3) := by decide +kernel
theorem d_40_16 : decode (am_b 40) 16 = .ok (.getfield 38, 3) := by decide +kernel
theorem d_40_19 : decode (am_b 40) 19 = .ok (.if_icmp .ne 18, 3) := by decide +kernel
theorem d_40_22 : decode (am_b 40) 22 = .ok (.aload_n 1, 1) := by decide +kernel
theorem d_40_23 : decode (am_b 40) 23 = .ok (.aload_n 0, 1) := by decide +kernel
theorem d_40_24 : decode (am_b 40) 24 = .ok (.getfield 12, 3) := by decide +kernel
theorem d_40_27 : decode (am_b 40) 27 = .ok (.invokevirtual 41, 3) := by decide +kernel
theorem d_40_30 : decode (am_b 40) 30 = .ok (.ifCond .ne 7, 3) := by decide +kernel
theorem d_40_33 : decode (am_b 40) 33 = .ok (.iconst 1, 1) := by decide +kernel
theorem d_40_34 : decode (am_b 40) 34 = .ok (.goto 4, 3) := by decide +kernel
theorem d_40_37 : decode (am_b 40) 37 = .ok (.iconst 0, 1) := by decide +kernel
theorem d_40_38 : decode (am_b 40) 38 = .ok (.istore_n 3, 1) := by decide +kernel
theorem d_40_39 : decode (am_b 40) 39 = .ok (.iload_n 3, 1) := by decide +kernel
theorem d_40_40 : decode (am_b 40) 40 = .ok (.ifCond .ne 28, 3) := by decide +kernel
theorem d_40_43 : decode (am_b 40) 43 = .ok (.aload_n 0, 1) := by decide +kernel
theorem d_40_44 : decode (am_b 40) 44 = .ok (.getfield 12, 3) := by decide +kernel
theorem d_40_47 : decode (am_b 40) 47 = .ok (.aload_n 1, 1) := by decide +kernel
theorem d_40_48 : decode (am_b 40) 48 = .ok (.invokevirtual 45, 3) := by decide +kernel
theorem d_40_51 : decode (am_b 40) 51 = .ok (.aload_n 0, 1) := by decide +kernel
theorem d_40_52 : decode (am_b 40) 52 = .ok (.iload_n 2, 1) := by decide +kernel
theorem d_40_53 : decode (am_b 40) 53 = .ok (.putfield 18, 3) := by decide +kernel
theorem d_40_56 : decode (am_b 40) 56 = .ok (.aload_n 0, 1) := by decide +kernel
theorem d_40_57 : decode (am_b 40) 57 = .ok (.getfield 22, 3) := by decide +kernel
theorem d_40_60 : decode (am_b 40) 60 = .ok (.iconst 0, 1) := by decide +kernel
theorem d_40_61 : decode (am_b 40) 61 = .ok (.putfield 38, 3) := by decide +kernel
theorem d_40_64 : decode (am_b 40) 64 = .ok (.aload_n 0, 1) := by decide +kernel
theorem d_40_65 : decode (am_b 40) 65 = .ok (.invokevirtual 49, 3) := by decide +kernel
theorem d_40_68 : decode (am_b 40) 68 = .ok (.aload_n 0, 1) := by decide +kernel
theorem d_40_69 : decode (am_b 40) 69 = .ok (.getfield 22, 3) := by decide +kernel
theorem d_40_72 : decode (am_b 40) 72 = .ok (.areturn, 1) := by decide +kernel
theorem d_41_0 : decode (am_b 41) 0 = .ok (.aload_n 0, 1) := by decide +kernel
theorem d_41_1 : decode (am_b 41) 1 = .ok (.getfield 18, 3) := by decide +kernel
theorem d_41_4 : decode (am_b 41) 4 = .ok (.ifCond .ne 20, 3) := by decide +kernel
theorem d_41_7 : decode (am_b 41) 7 = .ok (.aload_n 0, 1) := by decide +kernel
theorem d_41_8 : decode (am_b 41) 8 = .ok (.getfield 31, 3) := by decide +kernel
theorem d_41_11 : decode (am_b 41) 11 = .ok (.invokestatic 52, 3) := by decide +kernel
theorem d_41_14 : decode (am_b 41) 14 = .ok (.aload_n 0, 1) := by decide +kernel
theorem d_41_15 : decode (am_b 41) 15 = .ok (.aload_n 0, 1) := by decide +kernel
theorem d_41_16 : decode (am_b 41) 16 = .ok (.getfield 12, 3) := by decide +kernel
theorem d_41_19 : decode (am_b 41) 19 = .ok (.iconst 0, 1) := by decide +kernel
theorem d_41_20 : decode (am_b 41) 20 = .ok (.invokevirtual 56, 3) := by decide +kernel
theorem d_41_23 : decode (am_b 41) 23 = .ok (.return_, 1) := by decide +kernel
theorem d_41_24 : decode (am_b 41) 24 = .ok (.aload_n 0, 1) := by decide +kernel
theorem d_41_25 : decode (am_b 41) 25 = .ok (.getfield 18, 3) := by decide +kernel
theorem d_41_28 : decode (am_b 41) 28 = .ok (.iconst 1, 1) := by decide +kernel
theorem d_41_29 : decode (am_b 41) 29 = .ok (.if_icmp .ne 7, 3) := by decide +kernel
theorem d_41_32 : decode (am_b 41) 32 = .ok (.iconst 1, 1) := by decide +kernel
theorem d_41_33 : decode (am_b 41) 33 = .ok (.goto 5, 3) := by decide +kernel
theorem d_41_36 : decode (am_b 41) 36 = .ok (.bipush 6, 2) := by decide +kernel
theorem d_41_38 : decode (am_b 41) 38 = .ok (.istore_n 1, 1) := by decide +kernel
theorem d_41_39 : decode (am_b 41) 39 = .ok (.iconst 0, 1) := by decide +kernel
theorem d_41_40 : decode (am_b 41) 40 = .ok (.istore_n 2, 1) := by decide +kernel
theorem d_41_41 : decode (am_b 41) 41 = .ok (.iload_n 2, 1) := by decide +kernel
theorem d_41_42 : decode (am_b 41) 42 = .ok (.iload_n 1, 1) := by decide +kernel
theorem d_41_43 : decode (am_b 41) 43 = .ok (.if_icmp .ge 25, 3) := by decide +kernel
theorem d_41_46 : decode (am_b 41) 46 = .ok (.aload_n 0, 1) := by decide +kernel
theorem d_41_47 : decode (am_b 41) 47 = .ok (.getfield 25, 3) := by decide +kernel
theorem d_41_50 : decode (am_b 41) 50 = .ok (.aload_n 0, 1) := by decide +kernel
theorem d_41_51 : decode (am_b 41) 51 = .ok (.getfield 12, 3) := by decide +kernel
theorem d_41_54 : decode (am_b 41) 54 = .ok (.iload_n 2, 1) := by decide +kernel
theorem d_41_55 : decode (am_b 41) 55 = .ok (.invokevirtual 60, 3) := by decide +kernel
theorem d_41_58 : decode (am_b 41) 58 = .ok (.aload_n 0, 1) := by decide +kernel
theorem d_41_59 : decode (am_b 41) 59 = .ok (.invokevirtual 63, 3) := by decide +kernel
theorem d_41_62 : decode (am_b 41) 62 = .ok (.iinc 2 1, 3) := by decide +kernel
theorem d_41_65 : decode (am_b 41) 65 = .ok (.goto (-24), 3) := by decide +kernel
theorem d_41_68 : decode (am_b 41) 68 = .ok (.return_, 1) := by decide +kernel
theorem d_42_0 : decode (am_b 42) 0 = .ok (.getstatic 78, 3) := by decide +kernel
theorem d_42_3 : decode (am_b 42) 3 = .ok (.aload_n 1, 1) := by decide +kernel
theorem d_42_4 : decode (am_b 42) 4 = .ok (.getfield 38, 3) := by decide +kernel
theorem d_42_7 : decode (am_b 42) 7 = .ok (.iload_n 2, 1) := by decide +kernel
theorem d_42_8 : decode (am_b 42) 8 = .ok (.isub, 1) := by decide +kernel
theorem d_42_9 : decode (am_b 42) 9 = .ok (.iaload, 1) := by decide +kernel
theorem d_42_10 : decode (am_b 42) 10 = .ok (.istore_n 3, 1) := by decide +kernel
theorem d_42_11 : decode (am_b 42) 11 = .ok (.iconst 0, 1) := by decide +kernel
theorem d_42_12 : decode (am_b 42) 12 = .ok (.istore 4, 2) := by decide +kernel
theorem d_42_14 : decode (am_b 42) 14 = .ok (.iload 4, 2) := by decide +kernel
theorem d_42_16 : decode (am_b 42) 16 = .ok (.iload_n 3, 1) := by decide +kernel
theorem d_42_17 : decode (am_b 42) 17 = .ok (.if_icmp .ge 26, 3) := by decide +kernel
theorem d_42_20 : decode (am_b 42) 20 = .ok (.aload_n 0, 1) := by decide +kernel
theorem d_42_21 : decode (am_b 42) 21 = .ok (.aload_n 1, 1) := by decide +kernel
theorem d_42_22 : decode (am_b 42) 22 = .ok (.invokevirtual 81, 3) := by decide +kernel
theorem d_42_25 : decode (am_b 42) 25 = .ok (.aload_n 0, 1) := by decide +kernel
theorem d_42_26 : decode (am_b 42) 26 = .ok (.getfield 31, 3) := by decide +kernel
theorem d_42_29 : decode (am_b 42) 29 = .ok (.iload_n 2, 1) := by decide +kernel
theorem d_42_30 : decode (am_b 42) 30 = .ok (.aload_n 1, 1) := by decide +kernel
theorem d_42_31 : decode (am_b 42) 31 = .ok (.getfield 38, 3) := by decide +kernel
theorem d_42_34 : decode (am_b 42) 34 = .ok (.invokestatic 84, 3) := by decide +kernel
theorem d_42_37 : decode (am_b 42) 37 = .ok (.iinc 4 1, 3) := by decide +kernel
theorem d_42_40 : decode (am_b 42) 40 = .ok (.goto (-26), 3) := by decide +kernel
theorem d_42_43 : decode (am_b 42) 43 = .ok (.return_, 1) := by decide +kernel
