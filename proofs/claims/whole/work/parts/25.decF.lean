/-! decode rows, printed by wip/whole/gen_decparts.py -/
theorem d_234_0 : decode (am_b 234) 0 = .ok (.iconst 1, 1) := by decide +kernel
theorem d_234_1 : decode (am_b 234) 1 = .ok (.iload_n 2, 1) := by decide +kernel
theorem d_234_2 : decode (am_b 234) 2 = .ok (.ishl, 1) := by decide +kernel
theorem d_234_3 : decode (am_b 234) 3 = .ok (.iconst 1, 1) := by decide +kernel
theorem d_234_4 : decode (am_b 234) 4 = .ok (.isub, 1) := by decide +kernel
theorem d_234_5 : decode (am_b 234) 5 = .ok (.istore_n 3, 1) := by decide +kernel
theorem d_234_6 : decode (am_b 234) 6 = .ok (.iload_n 1, 1) := by decide +kernel
theorem d_234_7 : decode (am_b 234) 7 = .ok (.istore 4, 2) := by decide +kernel
theorem d_234_9 : decode (am_b 234) 9 = .ok (.iconst 0, 1) := by decide +kernel
theorem d_234_10 : decode (am_b 234) 10 = .ok (.istore 5, 2) := by decide +kernel
theorem d_234_12 : decode (am_b 234) 12 = .ok (.iload 5, 2) := by decide +kernel
theorem d_234_14 : decode (am_b 234) 14 = .ok (.iload_n 2, 1) := by decide +kernel
theorem d_234_15 : decode (am_b 234) 15 = .ok (.if_icmp .ge 86, 3) := by decide +kernel
theorem d_234_18 : decode (am_b 234) 18 = .ok (.iload_n 2, 1) := by decide +kernel
theorem d_234_19 : decode (am_b 234) 19 = .ok (.iconst 1, 1) := by decide +kernel
theorem d_234_20 : decode (am_b 234) 20 = .ok (.isub, 1) := by decide +kernel
theorem d_234_21 : decode (am_b 234) 21 = .ok (.iload 5, 2) := by decide +kernel
theorem d_234_23 : decode (am_b 234) 23 = .ok (.isub, 1) := by decide +kernel
theorem d_234_24 : decode (am_b 234) 24 = .ok (.invokestatic 270, 3) := by decide +kernel
theorem d_234_27 : decode (am_b 234) 27 = .ok (.istore 6, 2) := by decide +kernel
theorem d_234_29 : decode (am_b 234) 29 = .ok (.iload 4, 2) := by decide +kernel
theorem d_234_31 : decode (am_b 234) 31 = .ok (.iload 6, 2) := by decide +kernel
theorem d_234_33 : decode (am_b 234) 33 = .ok (.idiv, 1) := by decide +kernel
theorem d_234_34 : decode (am_b 234) 34 = .ok (.istore 7, 2) := by decide +kernel
theorem d_234_36 : decode (am_b 234) 36 = .ok (.iload 4, 2) := by decide +kernel
theorem d_234_38 : decode (am_b 234) 38 = .ok (.iload 6, 2) := by decide +kernel
theorem d_234_40 : decode (am_b 234) 40 = .ok (.irem, 1) := by decide +kernel
theorem d_234_41 : decode (am_b 234) 41 = .ok (.istore 4, 2) := by decide +kernel
theorem d_234_43 : decode (am_b 234) 43 = .ok (.iconst 0, 1) := by decide +kernel
theorem d_234_44 : decode (am_b 234) 44 = .ok (.istore 8, 2) := by decide +kernel
theorem d_234_46 : decode (am_b 234) 46 = .ok (.iload_n 3, 1) := by decide +kernel
theorem d_234_47 : decode (am_b 234) 47 = .ok (.iload 8, 2) := by decide +kernel
theorem d_234_49 : decode (am_b 234) 49 = .ok (.ishr, 1) := by decide +kernel
theorem d_234_50 : decode (am_b 234) 50 = .ok (.iconst 1, 1) := by decide +kernel
theorem d_234_51 : decode (am_b 234) 51 = .ok (.iand, 1) := by decide +kernel
theorem d_234_52 : decode (am_b 234) 52 = .ok (.ifCond .eq 8, 3) := by decide +kernel
theorem d_234_55 : decode (am_b 234) 55 = .ok (.iload 7, 2) := by decide +kernel
theorem d_234_57 : decode (am_b 234) 57 = .ok (.ifCond .le 20, 3) := by decide +kernel
theorem d_234_60 : decode (am_b 234) 60 = .ok (.iload 7, 2) := by decide +kernel
theorem d_234_62 : decode (am_b 234) 62 = .ok (.iload_n 3, 1) := by decide +kernel
theorem d_234_63 : decode (am_b 234) 63 = .ok (.iload 8, 2) := by decide +kernel
theorem d_234_65 : decode (am_b 234) 65 = .ok (.ishr, 1) := by decide +kernel
theorem d_234_66 : decode (am_b 234) 66 = .ok (.iconst 1, 1) := by decide +kernel
theorem d_234_67 : decode (am_b 234) 67 = .ok (.iand, 1) := by decide +kernel
theorem d_234_68 : decode (am_b 234) 68 = .ok (.isub, 1) := by decide +kernel
theorem d_234_69 : decode (am_b 234) 69 = .ok (.istore 7, 2) := by decide +kernel
theorem d_234_71 : decode (am_b 234) 71 = .ok (.iinc 8 1, 3) := by decide +kernel
theorem d_234_74 : decode (am_b 234) 74 = .ok (.goto (-28), 3) := by decide +kernel
theorem d_234_77 : decode (am_b 234) 77 = .ok (.aload_n 0, 1) := by decide +kernel
theorem d_234_78 : decode (am_b 234) 78 = .ok (.getfield 55, 3) := by decide +kernel
theorem d_234_81 : decode (am_b 234) 81 = .ok (.iload 5, 2) := by decide +kernel
theorem d_234_83 : decode (am_b 234) 83 = .ok (.iload 8, 2) := by decide +kernel
theorem d_234_85 : decode (am_b 234) 85 = .ok (.iastore, 1) := by decide +kernel
theorem d_234_86 : decode (am_b 234) 86 = .ok (.iload_n 3, 1) := by decide +kernel
theorem d_234_87 : decode (am_b 234) 87 = .ok (.iconst 1, 1) := by decide +kernel
theorem d_234_88 : decode (am_b 234) 88 = .ok (.iload 8, 2) := by decide +kernel
theorem d_234_90 : decode (am_b 234) 90 = .ok (.ishl, 1) := by decide +kernel
theorem d_234_91 : decode (am_b 234) 91 = .ok (.iconst (-1), 1) := by decide +kernel
theorem d_234_92 : decode (am_b 234) 92 = .ok (.ixor, 1) := by decide +kernel
theorem d_234_93 : decode (am_b 234) 93 = .ok (.iand, 1) := by decide +kernel
theorem d_234_94 : decode (am_b 234) 94 = .ok (.istore_n 3, 1) := by decide +kernel
theorem d_234_95 : decode (am_b 234) 95 = .ok (.iinc 5 1, 3) := by decide +kernel
theorem d_234_98 : decode (am_b 234) 98 = .ok (.goto (-86), 3) := by decide +kernel
theorem d_234_101 : decode (am_b 234) 101 = .ok (.return_, 1) := by decide +kernel
theorem d_235_0 : decode (am_b 235) 0 = .ok (.aload_n 0, 1) := by decide +kernel
theorem d_235_1 : decode (am_b 235) 1 = .ok (.aload_n 0, 1) := by decide +kernel
theorem d_235_2 : decode (am_b 235) 2 = .ok (.getfield 127, 3) := by decide +kernel
theorem d_235_5 : decode (am_b 235) 5 = .ok (.putfield 134, 3) := by decide +kernel
theorem d_235_8 : decode (am_b 235) 8 = .ok (.iconst 0, 1) := by decide +kernel
theorem d_235_9 : decode (am_b 235) 9 = .ok (.istore_n 1, 1) := by decide +kernel
theorem d_235_10 : decode (am_b 235) 10 = .ok (.iload_n 1, 1) := by decide +kernel
theorem d_235_11 : decode (am_b 235) 11 = .ok (.aload_n 0, 1) := by decide +kernel
theorem d_235_12 : decode (am_b 235) 12 = .ok (.getfield 127, 3) := by decide +kernel
theorem d_235_15 : decode (am_b 235) 15 = .ok (.if_icmp .ge 59, 3) := by decide +kernel
theorem d_235_18 : decode (am_b 235) 18 = .ok (.iconst 0, 1) := by decide +kernel
theorem d_235_19 : decode (am_b 235) 19 = .ok (.istore_n 2, 1) := by decide +kernel
theorem d_235_20 : decode (am_b 235) 20 = .ok (.iload_n 2, 1) := by decide +kernel
theorem d_235_21 : decode (am_b 235) 21 = .ok (.aload_n 0, 1) := by decide +kernel
theorem d_235_22 : decode (am_b 235) 22 = .ok (.getfield 127, 3) := by decide +kernel
theorem d_235_25 : decode (am_b 235) 25 = .ok (.if_icmp .ge 43, 3) := by decide +kernel
theorem d_235_28 : decode (am_b 235) 28 = .ok (.aload_n 0, 1) := by decide +kernel
theorem d_235_29 : decode (am_b 235) 29 = .ok (.getfield 26, 3) := by decide +kernel
theorem d_235_32 : decode (am_b 235) 32 = .ok (.aload_n 0, 1) := by decide +kernel
theorem d_235_33 : decode (am_b 235) 33 = .ok (.getfield 127, 3) := by decide +kernel
theorem d_235_36 : decode (am_b 235) 36 = .ok (.aload_n 0, 1) := by decide +kernel
theorem d_235_37 : decode (am_b 235) 37 = .ok (.getfield 55, 3) := by decide +kernel
theorem d_235_40 : decode (am_b 235) 40 = .ok (.iload_n 1, 1) := by decide +kernel
theorem d_235_41 : decode (am_b 235) 41 = .ok (.iaload, 1) := by decide +kernel
theorem d_235_42 : decode (am_b 235) 42 = .ok (.imul, 1) := by decide +kernel
theorem d_235_43 : decode (am_b 235) 43 = .ok (.aload_n 0, 1) := by decide +kernel
theorem d_235_44 : decode (am_b 235) 44 = .ok (.getfield 55, 3) := by decide +kernel
theorem d_235_47 : decode (am_b 235) 47 = .ok (.iload_n 2, 1) := by decide +kernel
theorem d_235_48 : decode (am_b 235) 48 = .ok (.iaload, 1) := by decide +kernel
theorem d_235_49 : decode (am_b 235) 49 = .ok (.iadd, 1) := by decide +kernel
theorem d_235_50 : decode (am_b 235) 50 = .ok (.aload_n 0, 1) := by decide +kernel
theorem d_235_51 : decode (am_b 235) 51 = .ok (.getfield 55, 3) := by decide +kernel
theorem d_235_54 : decode (am_b 235) 54 = .ok (.aload_n 0, 1) := by decide +kernel
theorem d_235_55 : decode (am_b 235) 55 = .ok (.iload_n 1, 1) := by decide +kernel
theorem d_235_56 : decode (am_b 235) 56 = .ok (.iload_n 2, 1) := by decide +kernel
theorem d_235_57 : decode (am_b 235) 57 = .ok (.invokevirtual 130, 3) := by decide +kernel
theorem d_235_60 : decode (am_b 235) 60 = .ok (.iaload, 1) := by decide +kernel
theorem d_235_61 : decode (am_b 235) 61 = .ok (.iastore, 1) := by decide +kernel
theorem d_235_62 : decode (am_b 235) 62 = .ok (.iinc 2 1, 3) := by decide +kernel
theorem d_235_65 : decode (am_b 235) 65 = .ok (.goto (-45), 3) := by decide +kernel
theorem d_235_68 : decode (am_b 235) 68 = .ok (.iinc 1 1, 3) := by decide +kernel
theorem d_235_71 : decode (am_b 235) 71 = .ok (.goto (-61), 3) := by decide +kernel
theorem d_235_74 : decode (am_b 235) 74 = .ok (.return_, 1) := by decide +kernel
theorem d_236_0 : decode (am_b 236) 0 = .ok (.aload_n 0, 1) := by decide +kernel
theorem d_236_1 : decode (am_b 236) 1 = .ok (.iload_n 1, 1) := by decide +kernel
theorem d_236_2 : decode (am_b 236) 2 = .ok (.invokevirtual 124, 3) := by decide +kernel
theorem d_236_5 : decode (am_b 236) 5 = .ok (.ifCond .ne 10, 3) := by decide +kernel
theorem d_236_8 : decode (am_b 236) 8 = .ok (.aload_n 0, 1) := by decide +kernel
theorem d_236_9 : decode (am_b 236) 9 = .ok (.bipush (-2), 2) := by decide +kernel
theorem d_236_11 : decode (am_b 236) 11 = .ok (.invokevirtual 110, 3) := by decide +kernel
theorem d_236_14 : decode (am_b 236) 14 = .ok (.ireturn, 1) := by decide +kernel
theorem d_236_15 : decode (am_b 236) 15 = .ok (.aload_n 0, 1) := by decide +kernel
theorem d_236_16 : decode (am_b 236) 16 = .ok (.iload_n 1, 1) := by decide +kernel
theorem d_236_17 : decode (am_b 236) 17 = .ok (.invokevirtual 248, 3) := by decide +kernel
theorem d_236_20 : decode (am_b 236) 20 = .ok (.aload_n 0, 1) := by decide +kernel
theorem d_236_21 : decode (am_b 236) 21 = .ok (.iload_n 2, 1) := by decide +kernel
theorem d_236_22 : decode (am_b 236) 22 = .ok (.invokevirtual 260, 3) := by decide +kernel
theorem d_236_25 : decode (am_b 236) 25 = .ok (.ifCond .eq 25, 3) := by decide +kernel
theorem d_236_28 : decode (am_b 236) 28 = .ok (.aload_n 0, 1) := by decide +kernel
theorem d_236_29 : decode (am_b 236) 29 = .ok (.iload_n 3, 1) := by decide +kernel
theorem d_236_30 : decode (am_b 236) 30 = .ok (.invokevirtual 260, 3) := by decide +kernel
theorem d_236_33 : decode (am_b 236) 33 = .ok (.ifCond .eq 17, 3) := by decide +kernel
theorem d_236_36 : decode (am_b 236) 36 = .ok (.iload_n 2, 1) := by decide +kernel
theorem d_236_37 : decode (am_b 236) 37 = .ok (.iload_n 3, 1) := by decide +kernel
theorem d_236_38 : decode (am_b 236) 38 = .ok (.if_icmp .eq 12, 3) := by decide +kernel
theorem d_236_41 : decode (am_b 236) 41 = .ok (.aload_n 0, 1) := by decide +kernel
theorem d_236_42 : decode (am_b 236) 42 = .ok (.iload 4, 2) := by decide +kernel
theorem d_236_44 : decode (am_b 236) 44 = .ok (.invokevirtual 260, 3) := by decide +kernel
theorem d_236_47 : decode (am_b 236) 47 = .ok (.ifCond .ne 9, 3) := by decide +kernel
theorem d_236_50 : decode (am_b 236) 50 = .ok (.aload_n 0, 1) := by decide +kernel
theorem d_236_51 : decode (am_b 236) 51 = .ok (.iconst (-1), 1) := by decide +kernel
theorem d_236_52 : decode (am_b 236) 52 = .ok (.invokevirtual 110, 3) := by decide +kernel
theorem d_236_55 : decode (am_b 236) 55 = .ok (.ireturn, 1) := by decide +kernel
theorem d_236_56 : decode (am_b 236) 56 = .ok (.aload_n 0, 1) := by decide +kernel
theorem d_236_57 : decode (am_b 236) 57 = .ok (.iload_n 2, 1) := by decide +kernel
theorem d_236_58 : decode (am_b 236) 58 = .ok (.iload_n 3, 1) := by decide +kernel
theorem d_236_59 : decode (am_b 236) 59 = .ok (.iload 4, 2) := by decide +kernel
theorem d_236_61 : decode (am_b 236) 61 = .ok (.invokevirtual 279, 3) := by decide +kernel
theorem d_236_64 : decode (am_b 236) 64 = .ok (.istore 5, 2) := by decide +kernel
theorem d_236_66 : decode (am_b 236) 66 = .ok (.aload_n 0, 1) := by decide +kernel
theorem d_236_67 : decode (am_b 236) 67 = .ok (.aload_n 0, 1) := by decide +kernel
theorem d_236_68 : decode (am_b 236) 68 = .ok (.getfield 127, 3) := by decide +kernel
theorem d_236_71 : decode (am_b 236) 71 = .ok (.putfield 134, 3) := by decide +kernel
theorem d_236_74 : decode (am_b 236) 74 = .ok (.iconst 0, 1) := by decide +kernel
theorem d_236_75 : decode (am_b 236) 75 = .ok (.istore 6, 2) := by decide +kernel
theorem d_236_77 : decode (am_b 236) 77 = .ok (.iload 6, 2) := by decide +kernel
theorem d_236_79 : decode (am_b 236) 79 = .ok (.aload_n 0, 1) := by decide +kernel
theorem d_236_80 : decode (am_b 236) 80 = .ok (.getfield 127, 3) := by decide +kernel
theorem d_236_83 : decode (am_b 236) 83 = .ok (.aload_n 0, 1) := by decide +kernel
theorem d_236_84 : decode (am_b 236) 84 = .ok (.getfield 127, 3) := by decide +kernel
theorem d_236_87 : decode (am_b 236) 87 = .ok (.imul, 1) := by decide +kernel
theorem d_236_88 : decode (am_b 236) 88 = .ok (.if_icmp .ge 23, 3) := by decide +kernel
theorem d_236_91 : decode (am_b 236) 91 = .ok (.aload_n 0, 1) := by decide +kernel
theorem d_236_92 : decode (am_b 236) 92 = .ok (.getfield 26, 3) := by decide +kernel
theorem d_236_95 : decode (am_b 236) 95 = .ok (.iload 6, 2) := by decide +kernel
theorem d_236_97 : decode (am_b 236) 97 = .ok (.aload_n 0, 1) := by decide +kernel
theorem d_236_98 : decode (am_b 236) 98 = .ok (.getfield 23, 3) := by decide +kernel
theorem d_236_101 : decode (am_b 236) 101 = .ok (.iload 6, 2) := by decide +kernel
theorem d_236_103 : decode (am_b 236) 103 = .ok (.iaload, 1) := by decide +kernel
theorem d_236_104 : decode (am_b 236) 104 = .ok (.iastore, 1) := by decide +kernel
theorem d_236_105 : decode (am_b 236) 105 = .ok (.iinc 6 1, 3) := by decide +kernel
theorem d_236_108 : decode (am_b 236) 108 = .ok (.goto (-31), 3) := by decide +kernel
theorem d_236_111 : decode (am_b 236) 111 = .ok (.aload_n 0, 1) := by decide +kernel
theorem d_236_112 : decode (am_b 236) 112 = .ok (.iload_n 1, 1) := by decide +kernel
theorem d_236_113 : decode (am_b 236) 113 = .ok (.invokevirtual 257, 3) := by decide +kernel
theorem d_236_116 : decode (am_b 236) 116 = .ok (.aload_n 0, 1) := by decide +kernel
theorem d_236_117 : decode (am_b 236) 117 = .ok (.iload 5, 2) := by decide +kernel
theorem d_236_119 : decode (am_b 236) 119 = .ok (.invokevirtual 114, 3) := by decide +kernel
theorem d_236_122 : decode (am_b 236) 122 = .ok (.ireturn, 1) := by decide +kernel
theorem d_237_0 : decode (am_b 237) 0 = .ok (.iload_n 3, 1) := by decide +kernel
theorem d_237_1 : decode (am_b 237) 1 = .ok (.istore 4, 2) := by decide +kernel
theorem d_237_3 : decode (am_b 237) 3 = .ok (.iconst 0, 1) := by decide +kernel
theorem d_237_4 : decode (am_b 237) 4 = .ok (.istore 5, 2) := by decide +kernel
theorem d_237_6 : decode (am_b 237) 6 = .ok (.iconst 1, 1) := by decide +kernel
theorem d_237_7 : decode (am_b 237) 7 = .ok (.istore 6, 2) := by decide +kernel
theorem d_237_9 : decode (am_b 237) 9 = .ok (.iload 6, 2) := by decide +kernel
theorem d_237_11 : decode (am_b 237) 11 = .ok (.ifCond .eq 103, 3) := by decide +kernel
theorem d_237_14 : decode (am_b 237) 14 = .ok (.aload_n 0, 1) := by decide +kernel
theorem d_237_15 : decode (am_b 237) 15 = .ok (.iload_n 1, 1) := by decide +kernel
theorem d_237_16 : decode (am_b 237) 16 = .ok (.iload 4, 2) := by decide +kernel
theorem d_237_18 : decode (am_b 237) 18 = .ok (.invokevirtual 130, 3) := by decide +kernel
theorem d_237_21 : decode (am_b 237) 21 = .ok (.istore 7, 2) := by decide +kernel
theorem d_237_23 : decode (am_b 237) 23 = .ok (.aload_n 0, 1) := by decide +kernel
theorem d_237_24 : decode (am_b 237) 24 = .ok (.iload_n 2, 1) := by decide +kernel
theorem d_237_25 : decode (am_b 237) 25 = .ok (.iload 4, 2) := by decide +kernel
theorem d_237_27 : decode (am_b 237) 27 = .ok (.invokevirtual 130, 3) := by decide +kernel
theorem d_237_30 : decode (am_b 237) 30 = .ok (.istore 8, 2) := by decide +kernel
theorem d_237_32 : decode (am_b 237) 32 = .ok (.aload_n 0, 1) := by decide +kernel
theorem d_237_33 : decode (am_b 237) 33 = .ok (.getfield 23, 3) := by decide +kernel
theorem d_237_36 : decode (am_b 237) 36 = .ok (.aload_n 0, 1) := by decide +kernel
theorem d_237_37 : decode (am_b 237) 37 = .ok (.getfield 127, 3) := by decide +kernel
theorem d_237_40 : decode (am_b 237) 40 = .ok (.iload_n 1, 1) := by decide +kernel
theorem d_237_41 : decode (am_b 237) 41 = .ok (.imul, 1) := by decide +kernel
theorem d_237_42 : decode (am_b 237) 42 = .ok (.iload 4, 2) := by decide +kernel
theorem d_237_44 : decode (am_b 237) 44 = .ok (.iadd, 1) := by decide +kernel
theorem d_237_45 : decode (am_b 237) 45 = .ok (.iload 8, 2) := by decide +kernel
theorem d_237_47 : decode (am_b 237) 47 = .ok (.iastore, 1) := by decide +kernel
theorem d_237_48 : decode (am_b 237) 48 = .ok (.aload_n 0, 1) := by decide +kernel
theorem d_237_49 : decode (am_b 237) 49 = .ok (.getfield 23, 3) := by decide +kernel
theorem d_237_52 : decode (am_b 237) 52 = .ok (.aload_n 0, 1) := by decide +kernel
theorem d_237_53 : decode (am_b 237) 53 = .ok (.getfield 127, 3) := by decide +kernel
theorem d_237_56 : decode (am_b 237) 56 = .ok (.iload_n 2, 1) := by decide +kernel
theorem d_237_57 : decode (am_b 237) 57 = .ok (.imul, 1) := by decide +kernel
theorem d_237_58 : decode (am_b 237) 58 = .ok (.iload 4, 2) := by decide +kernel
theorem d_237_60 : decode (am_b 237) 60 = .ok (.iadd, 1) := by decide +kernel
theorem d_237_61 : decode (am_b 237) 61 = .ok (.iload 7, 2) := by decide +kernel
theorem d_237_63 : decode (am_b 237) 63 = .ok (.iastore, 1) := by decide +kernel
theorem d_237_64 : decode (am_b 237) 64 = .ok (.iinc 5 1, 3) := by decide +kernel
theorem d_237_67 : decode (am_b 237) 67 = .ok (.iconst 0, 1) := by decide +kernel
theorem d_237_68 : decode (am_b 237) 68 = .ok (.istore 9, 2) := by decide +kernel
theorem d_237_70 : decode (am_b 237) 70 = .ok (.iload 9, 2) := by decide +kernel
theorem d_237_72 : decode (am_b 237) 72 = .ok (.iload 4, 2) := by decide +kernel
theorem d_237_74 : decode (am_b 237) 74 = .ok (.if_icmp .eq 15, 3) := by decide +kernel
theorem d_237_77 : decode (am_b 237) 77 = .ok (.aload_n 0, 1) := by decide +kernel
theorem d_237_78 : decode (am_b 237) 78 = .ok (.iload_n 1, 1) := by decide +kernel
theorem d_237_79 : decode (am_b 237) 79 = .ok (.iload 9, 2) := by decide +kernel
theorem d_237_81 : decode (am_b 237) 81 = .ok (.invokevirtual 130, 3) := by decide +kernel
theorem d_237_84 : decode (am_b 237) 84 = .ok (.iload 8, 2) := by decide +kernel
theorem d_237_86 : decode (am_b 237) 86 = .ok (.if_icmp .eq 21, 3) := by decide +kernel
theorem d_237_89 : decode (am_b 237) 89 = .ok (.iinc 9 1, 3) := by decide +kernel
theorem d_237_92 : decode (am_b 237) 92 = .ok (.iload 9, 2) := by decide +kernel
theorem d_237_94 : decode (am_b 237) 94 = .ok (.aload_n 0, 1) := by decide +kernel
theorem d_237_95 : decode (am_b 237) 95 = .ok (.getfield 127, 3) := by decide +kernel
theorem d_237_98 : decode (am_b 237) 98 = .ok (.if_icmp .ne (-28), 3) := by decide +kernel
theorem d_237_101 : decode (am_b 237) 101 = .ok (.iconst 0, 1) := by decide +kernel
theorem d_237_102 : decode (am_b 237) 102 = .ok (.istore 6, 2) := by decide +kernel
theorem d_237_104 : decode (am_b 237) 104 = .ok (.goto 3, 3) := by decide +kernel
theorem d_237_107 : decode (am_b 237) 107 = .ok (.iload 9, 2) := by decide +kernel
theorem d_237_109 : decode (am_b 237) 109 = .ok (.istore 4, 2) := by decide +kernel
theorem d_237_111 : decode (am_b 237) 111 = .ok (.goto (-102), 3) := by decide +kernel
theorem d_237_114 : decode (am_b 237) 114 = .ok (.iload 5, 2) := by decide +kernel
theorem d_237_116 : decode (am_b 237) 116 = .ok (.ireturn, 1) := by decide +kernel
theorem d_238_0 : decode (am_b 238) 0 = .ok (.iload_n 1, 1) := by decide +kernel
theorem d_238_1 : decode (am_b 238) 1 = .ok (.invokestatic 117, 3) := by decide +kernel
theorem d_238_4 : decode (am_b 238) 4 = .ok (.ifCond .ne 9, 3) := by decide +kernel
theorem d_238_7 : decode (am_b 238) 7 = .ok (.aload_n 0, 1) := by decide +kernel
theorem d_238_8 : decode (am_b 238) 8 = .ok (.iconst (-1), 1) := by decide +kernel
theorem d_238_9 : decode (am_b 238) 9 = .ok (.invokevirtual 110, 3) := by decide +kernel
theorem d_238_12 : decode (am_b 238) 12 = .ok (.ireturn, 1) := by decide +kernel
theorem d_238_13 : decode (am_b 238) 13 = .ok (.aload_n 0, 1) := by decide +kernel
theorem d_238_14 : decode (am_b 238) 14 = .ok (.iload_n 2, 1) := by decide +kernel
theorem d_238_15 : decode (am_b 238) 15 = .ok (.invokevirtual 124, 3) := by decide +kernel
theorem d_238_18 : decode (am_b 238) 18 = .ok (.ifCond .eq 11, 3) := by decide +kernel
theorem d_238_21 : decode (am_b 238) 21 = .ok (.aload_n 0, 1) := by decide +kernel
theorem d_238_22 : decode (am_b 238) 22 = .ok (.iload_n 3, 1) := by decide +kernel
theorem d_238_23 : decode (am_b 238) 23 = .ok (.invokevirtual 124, 3) := by decide +kernel
theorem d_238_26 : decode (am_b 238) 26 = .ok (.ifCond .ne 10, 3) := by decide +kernel
theorem d_238_29 : decode (am_b 238) 29 = .ok (.aload_n 0, 1) := by decide +kernel
theorem d_238_30 : decode (am_b 238) 30 = .ok (.bipush (-2), 2) := by decide +kernel
theorem d_238_32 : decode (am_b 238) 32 = .ok (.invokevirtual 110, 3) := by decide +kernel
theorem d_238_35 : decode (am_b 238) 35 = .ok (.ireturn, 1) := by decide +kernel
theorem d_238_36 : decode (am_b 238) 36 = .ok (.aload_n 0, 1) := by decide +kernel
theorem d_238_37 : decode (am_b 238) 37 = .ok (.iload_n 2, 1) := by decide +kernel
theorem d_238_38 : decode (am_b 238) 38 = .ok (.invokevirtual 121, 3) := by decide +kernel
theorem d_238_41 : decode (am_b 238) 41 = .ok (.istore 4, 2) := by decide +kernel
theorem d_238_43 : decode (am_b 238) 43 = .ok (.aload_n 0, 1) := by decide +kernel
theorem d_238_44 : decode (am_b 238) 44 = .ok (.iload_n 3, 1) := by decide +kernel
theorem d_238_45 : decode (am_b 238) 45 = .ok (.invokevirtual 121, 3) := by decide +kernel
theorem d_238_48 : decode (am_b 238) 48 = .ok (.istore 5, 2) := by decide +kernel
theorem d_238_50 : decode (am_b 238) 50 = .ok (.iload 4, 2) := by decide +kernel
theorem d_238_52 : decode (am_b 238) 52 = .ok (.iload 5, 2) := by decide +kernel
theorem d_238_54 : decode (am_b 238) 54 = .ok (.imul, 1) := by decide +kernel
theorem d_238_55 : decode (am_b 238) 55 = .ok (.bipush 6, 2) := by decide +kernel
theorem d_238_57 : decode (am_b 238) 57 = .ok (.if_icmp .le 10, 3) := by decide +kernel
theorem d_238_60 : decode (am_b 238) 60 = .ok (.aload_n 0, 1) := by decide +kernel
theorem d_238_61 : decode (am_b 238) 61 = .ok (.bipush (-3), 2) := by decide +kernel
theorem d_238_63 : decode (am_b 238) 63 = .ok (.invokevirtual 110, 3) := by decide +kernel
theorem d_238_66 : decode (am_b 238) 66 = .ok (.ireturn, 1) := by decide +kernel
theorem d_238_67 : decode (am_b 238) 67 = .ok (.aload_n 0, 1) := by decide +kernel
theorem d_238_68 : decode (am_b 238) 68 = .ok (.iload 4, 2) := by decide +kernel
theorem d_238_70 : decode (am_b 238) 70 = .ok (.iload 5, 2) := by decide +kernel
theorem d_238_72 : decode (am_b 238) 72 = .ok (.imul, 1) := by decide +kernel
theorem d_238_73 : decode (am_b 238) 73 = .ok (.putfield 134, 3) := by decide +kernel
theorem d_238_76 : decode (am_b 238) 76 = .ok (.iconst 0, 1) := by decide +kernel
theorem d_238_77 : decode (am_b 238) 77 = .ok (.istore 6, 2) := by decide +kernel
theorem d_238_79 : decode (am_b 238) 79 = .ok (.iload 6, 2) := by decide +kernel
theorem d_238_81 : decode (am_b 238) 81 = .ok (.aload_n 0, 1) := by decide +kernel
theorem d_238_82 : decode (am_b 238) 82 = .ok (.getfield 134, 3) := by decide +kernel
theorem d_238_85 : decode (am_b 238) 85 = .ok (.if_icmp .ge 98, 3) := by decide +kernel
theorem d_238_88 : decode (am_b 238) 88 = .ok (.iconst 0, 1) := by decide +kernel
theorem d_238_89 : decode (am_b 238) 89 = .ok (.istore 7, 2) := by decide +kernel
theorem d_238_91 : decode (am_b 238) 91 = .ok (.iload 7, 2) := by decide +kernel
theorem d_238_93 : decode (am_b 238) 93 = .ok (.aload_n 0, 1) := by decide +kernel
theorem d_238_94 : decode (am_b 238) 94 = .ok (.getfield 134, 3) := by decide +kernel
theorem d_238_97 : decode (am_b 238) 97 = .ok (.if_icmp .ge 80, 3) := by decide +kernel
theorem d_238_100 : decode (am_b 238) 100 = .ok (.aload_n 0, 1) := by decide +kernel
theorem d_238_101 : decode (am_b 238) 101 = .ok (.getfield 26, 3) := by decide +kernel
theorem d_238_104 : decode (am_b 238) 104 = .ok (.aload_n 0, 1) := by decide +kernel
theorem d_238_105 : decode (am_b 238) 105 = .ok (.getfield 134, 3) := by decide +kernel
theorem d_238_108 : decode (am_b 238) 108 = .ok (.iload 6, 2) := by decide +kernel
theorem d_238_110 : decode (am_b 238) 110 = .ok (.imul, 1) := by decide +kernel
theorem d_238_111 : decode (am_b 238) 111 = .ok (.iload 7, 2) := by decide +kernel
theorem d_238_113 : decode (am_b 238) 113 = .ok (.iadd, 1) := by decide +kernel
theorem d_238_114 : decode (am_b 238) 114 = .ok (.iload 5, 2) := by decide +kernel
theorem d_238_116 : decode (am_b 238) 116 = .ok (.aload_n 0, 1) := by decide +kernel
theorem d_238_117 : decode (am_b 238) 117 = .ok (.getfield 13, 3) := by decide +kernel
theorem d_238_120 : decode (am_b 238) 120 = .ok (.bipush 37, 2) := by decide +kernel
theorem d_238_122 : decode (am_b 238) 122 = .ok (.iload_n 2, 1) := by decide +kernel
theorem d_238_123 : decode (am_b 238) 123 = .ok (.imul, 1) := by decide +kernel
theorem d_238_124 : decode (am_b 238) 124 = .ok (.iconst 1, 1) := by decide +kernel
theorem d_238_125 : decode (am_b 238) 125 = .ok (.iadd, 1) := by decide +kernel
theorem d_238_126 : decode (am_b 238) 126 = .ok (.iload 4, 2) := by decide +kernel
theorem d_238_128 : decode (am_b 238) 128 = .ok (.iload 6, 2) := by decide +kernel
theorem d_238_130 : decode (am_b 238) 130 = .ok (.iload 5, 2) := by decide +kernel
theorem d_238_132 : decode (am_b 238) 132 = .ok (.idiv, 1) := by decide +kernel
theorem d_238_133 : decode (am_b 238) 133 = .ok (.imul, 1) := by decide +kernel
theorem d_238_134 : decode (am_b 238) 134 = .ok (.iadd, 1) := by decide +kernel
theorem d_238_135 : decode (am_b 238) 135 = .ok (.iload 7, 2) := by decide +kernel
theorem d_238_137 : decode (am_b 238) 137 = .ok (.iload 5, 2) := by decide +kernel
theorem d_238_139 : decode (am_b 238) 139 = .ok (.idiv, 1) := by decide +kernel
theorem d_238_140 : decode (am_b 238) 140 = .ok (.iadd, 1) := by decide +kernel
theorem d_238_141 : decode (am_b 238) 141 = .ok (.iaload, 1) := by decide +kernel
theorem d_238_142 : decode (am_b 238) 142 = .ok (.imul, 1) := by decide +kernel
theorem d_238_143 : decode (am_b 238) 143 = .ok (.aload_n 0, 1) := by decide +kernel
theorem d_238_144 : decode (am_b 238) 144 = .ok (.getfield 13, 3) := by decide +kernel
theorem d_238_147 : decode (am_b 238) 147 = .ok (.bipush 37, 2) := by decide +kernel
theorem d_238_149 : decode (am_b 238) 149 = .ok (.iload_n 3, 1) := by decide +kernel
theorem d_238_150 : decode (am_b 238) 150 = .ok (.imul, 1) := by decide +kernel
theorem d_238_151 : decode (am_b 238) 151 = .ok (.iconst 1, 1) := by decide +kernel
theorem d_238_152 : decode (am_b 238) 152 = .ok (.iadd, 1) := by decide +kernel
theorem d_238_153 : decode (am_b 238) 153 = .ok (.iload 5, 2) := by decide +kernel
theorem d_238_155 : decode (am_b 238) 155 = .ok (.iload 6, 2) := by decide +kernel
theorem d_238_157 : decode (am_b 238) 157 = .ok (.iload 5, 2) := by decide +kernel
theorem d_238_159 : decode (am_b 238) 159 = .ok (.irem, 1) := by decide +kernel
theorem d_238_160 : decode (am_b 238) 160 = .ok (.imul, 1) := by decide +kernel
theorem d_238_161 : decode (am_b 238) 161 = .ok (.iadd, 1) := by decide +kernel
theorem d_238_162 : decode (am_b 238) 162 = .ok (.iload 7, 2) := by decide +kernel
theorem d_238_164 : decode (am_b 238) 164 = .ok (.iload 5, 2) := by decide +kernel
theorem d_238_166 : decode (am_b 238) 166 = .ok (.irem, 1) := by decide +kernel
theorem d_238_167 : decode (am_b 238) 167 = .ok (.iadd, 1) := by decide +kernel
theorem d_238_168 : decode (am_b 238) 168 = .ok (.iaload, 1) := by decide +kernel
theorem d_238_169 : decode (am_b 238) 169 = .ok (.iadd, 1) := by decide +kernel
theorem d_238_170 : decode (am_b 238) 170 = .ok (.iastore, 1) := by decide +kernel
theorem d_238_171 : decode (am_b 238) 171 = .ok (.iinc 7 1, 3) := by decide +kernel
theorem d_238_174 : decode (am_b 238) 174 = .ok (.goto (-83), 3) := by decide +kernel
theorem d_238_177 : decode (am_b 238) 177 = .ok (.iinc 6 1, 3) := by decide +kernel
theorem d_238_180 : decode (am_b 238) 180 = .ok (.goto (-101), 3) := by decide +kernel
theorem d_238_183 : decode (am_b 238) 183 = .ok (.aload_n 0, 1) := by decide +kernel
theorem d_238_184 : decode (am_b 238) 184 = .ok (.iload_n 1, 1) := by decide +kernel
theorem d_238_185 : decode (am_b 238) 185 = .ok (.invokevirtual 257, 3) := by decide +kernel
theorem d_238_188 : decode (am_b 238) 188 = .ok (.aload_n 0, 1) := by decide +kernel
theorem d_238_189 : decode (am_b 238) 189 = .ok (.aload_n 0, 1) := by decide +kernel
theorem d_238_190 : decode (am_b 238) 190 = .ok (.getfield 134, 3) := by decide +kernel
theorem d_238_193 : decode (am_b 238) 193 = .ok (.invokevirtual 114, 3) := by decide +kernel
theorem d_238_196 : decode (am_b 238) 196 = .ok (.ireturn, 1) := by decide +kernel
theorem d_239_0 : decode (am_b 239) 0 = .ok (.iload_n 1, 1) := by decide +kernel
theorem d_239_1 : decode (am_b 239) 1 = .ok (.invokestatic 117, 3) := by decide +kernel
theorem d_239_4 : decode (am_b 239) 4 = .ok (.ifCond .eq 14, 3) := by decide +kernel
theorem d_239_7 : decode (am_b 239) 7 = .ok (.iload_n 3, 1) := by decide +kernel
theorem d_239_8 : decode (am_b 239) 8 = .ok (.iconst 0, 1) := by decide +kernel
theorem d_239_9 : decode (am_b 239) 9 = .ok (.sipush 511, 3) := by decide +kernel
theorem d_239_12 : decode (am_b 239) 12 = .ok (.invokestatic 106, 3) := by decide +kernel
theorem d_239_15 : decode (am_b 239) 15 = .ok (.ifCond .ne 9, 3) := by decide +kernel
theorem d_239_18 : decode (am_b 239) 18 = .ok (.aload_n 0, 1) := by decide +kernel
theorem d_239_19 : decode (am_b 239) 19 = .ok (.iconst (-1), 1) := by decide +kernel
theorem d_239_20 : decode (am_b 239) 20 = .ok (.invokevirtual 110, 3) := by decide +kernel
theorem d_239_23 : decode (am_b 239) 23 = .ok (.ireturn, 1) := by decide +kernel
theorem d_239_24 : decode (am_b 239) 24 = .ok (.aload_n 0, 1) := by decide +kernel
theorem d_239_25 : decode (am_b 239) 25 = .ok (.iload_n 2, 1) := by decide +kernel
theorem d_239_26 : decode (am_b 239) 26 = .ok (.invokevirtual 124, 3) := by decide +kernel
theorem d_239_29 : decode (am_b 239) 29 = .ok (.ifCond .ne 10, 3) := by decide +kernel
theorem d_239_32 : decode (am_b 239) 32 = .ok (.aload_n 0, 1) := by decide +kernel
theorem d_239_33 : decode (am_b 239) 33 = .ok (.bipush (-2), 2) := by decide +kernel
theorem d_239_35 : decode (am_b 239) 35 = .ok (.invokevirtual 110, 3) := by decide +kernel
theorem d_239_38 : decode (am_b 239) 38 = .ok (.ireturn, 1) := by decide +kernel
theorem d_239_39 : decode (am_b 239) 39 = .ok (.aload_n 0, 1) := by decide +kernel
theorem d_239_40 : decode (am_b 239) 40 = .ok (.iload_n 2, 1) := by decide +kernel
theorem d_239_41 : decode (am_b 239) 41 = .ok (.invokevirtual 248, 3) := by decide +kernel
theorem d_239_44 : decode (am_b 239) 44 = .ok (.aload_n 0, 1) := by decide +kernel
theorem d_239_45 : decode (am_b 239) 45 = .ok (.getfield 127, 3) := by decide +kernel
theorem d_239_48 : decode (am_b 239) 48 = .ok (.iconst 3, 1) := by decide +kernel
theorem d_239_49 : decode (am_b 239) 49 = .ok (.if_icmp .le 10, 3) := by decide +kernel
theorem d_239_52 : decode (am_b 239) 52 = .ok (.aload_n 0, 1) := by decide +kernel
theorem d_239_53 : decode (am_b 239) 53 = .ok (.bipush (-3), 2) := by decide +kernel
theorem d_239_55 : decode (am_b 239) 55 = .ok (.invokevirtual 110, 3) := by decide +kernel
theorem d_239_58 : decode (am_b 239) 58 = .ok (.ireturn, 1) := by decide +kernel
theorem d_239_59 : decode (am_b 239) 59 = .ok (.aload_n 0, 1) := by decide +kernel
theorem d_239_60 : decode (am_b 239) 60 = .ok (.iconst 2, 1) := by decide +kernel
theorem d_239_61 : decode (am_b 239) 61 = .ok (.aload_n 0, 1) := by decide +kernel
theorem d_239_62 : decode (am_b 239) 62 = .ok (.getfield 127, 3) := by decide +kernel
theorem d_239_65 : decode (am_b 239) 65 = .ok (.imul, 1) := by decide +kernel
theorem d_239_66 : decode (am_b 239) 66 = .ok (.putfield 134, 3) := by decide +kernel
theorem d_239_69 : decode (am_b 239) 69 = .ok (.iconst 0, 1) := by decide +kernel
theorem d_239_70 : decode (am_b 239) 70 = .ok (.istore 4, 2) := by decide +kernel
theorem d_239_72 : decode (am_b 239) 72 = .ok (.iload 4, 2) := by decide +kernel
theorem d_239_74 : decode (am_b 239) 74 = .ok (.aload_n 0, 1) := by decide +kernel
theorem d_239_75 : decode (am_b 239) 75 = .ok (.getfield 134, 3) := by decide +kernel
theorem d_239_78 : decode (am_b 239) 78 = .ok (.if_icmp .ge 87, 3) := by decide +kernel
theorem d_239_81 : decode (am_b 239) 81 = .ok (.iconst 0, 1) := by decide +kernel
theorem d_239_82 : decode (am_b 239) 82 = .ok (.istore 5, 2) := by decide +kernel
theorem d_239_84 : decode (am_b 239) 84 = .ok (.iload 5, 2) := by decide +kernel
theorem d_239_86 : decode (am_b 239) 86 = .ok (.aload_n 0, 1) := by decide +kernel
theorem d_239_87 : decode (am_b 239) 87 = .ok (.getfield 134, 3) := by decide +kernel
theorem d_239_90 : decode (am_b 239) 90 = .ok (.if_icmp .ge 69, 3) := by decide +kernel
theorem d_239_93 : decode (am_b 239) 93 = .ok (.aload_n 0, 1) := by decide +kernel
theorem d_239_94 : decode (am_b 239) 94 = .ok (.getfield 26, 3) := by decide +kernel
theorem d_239_97 : decode (am_b 239) 97 = .ok (.aload_n 0, 1) := by decide +kernel
theorem d_239_98 : decode (am_b 239) 98 = .ok (.getfield 134, 3) := by decide +kernel
theorem d_239_101 : decode (am_b 239) 101 = .ok (.iload 4, 2) := by decide +kernel
theorem d_239_103 : decode (am_b 239) 103 = .ok (.imul, 1) := by decide +kernel
theorem d_239_104 : decode (am_b 239) 104 = .ok (.iload 5, 2) := by decide +kernel
theorem d_239_106 : decode (am_b 239) 106 = .ok (.iadd, 1) := by decide +kernel
theorem d_239_107 : decode (am_b 239) 107 = .ok (.iconst 2, 1) := by decide +kernel
theorem d_239_108 : decode (am_b 239) 108 = .ok (.aload_n 0, 1) := by decide +kernel
theorem d_239_109 : decode (am_b 239) 109 = .ok (.iload 4, 2) := by decide +kernel
theorem d_239_111 : decode (am_b 239) 111 = .ok (.iconst 2, 1) := by decide +kernel
theorem d_239_112 : decode (am_b 239) 112 = .ok (.idiv, 1) := by decide +kernel
theorem d_239_113 : decode (am_b 239) 113 = .ok (.iload 5, 2) := by decide +kernel
theorem d_239_115 : decode (am_b 239) 115 = .ok (.iconst 2, 1) := by decide +kernel
theorem d_239_116 : decode (am_b 239) 116 = .ok (.idiv, 1) := by decide +kernel
theorem d_239_117 : decode (am_b 239) 117 = .ok (.invokevirtual 130, 3) := by decide +kernel
theorem d_239_120 : decode (am_b 239) 120 = .ok (.imul, 1) := by decide +kernel
theorem d_239_121 : decode (am_b 239) 121 = .ok (.iload 4, 2) := by decide +kernel
theorem d_239_123 : decode (am_b 239) 123 = .ok (.iconst 2, 1) := by decide +kernel
theorem d_239_124 : decode (am_b 239) 124 = .ok (.irem, 1) := by decide +kernel
theorem d_239_125 : decode (am_b 239) 125 = .ok (.iload 5, 2) := by decide +kernel
theorem d_239_127 : decode (am_b 239) 127 = .ok (.iconst 2, 1) := by decide +kernel
theorem d_239_128 : decode (am_b 239) 128 = .ok (.irem, 1) := by decide +kernel
theorem d_239_129 : decode (am_b 239) 129 = .ok (.iadd, 1) := by decide +kernel
theorem d_239_130 : decode (am_b 239) 130 = .ok (.iload_n 3, 1) := by decide +kernel
theorem d_239_131 : decode (am_b 239) 131 = .ok (.aload_n 0, 1) := by decide +kernel
theorem d_239_132 : decode (am_b 239) 132 = .ok (.getfield 127, 3) := by decide +kernel
theorem d_239_135 : decode (am_b 239) 135 = .ok (.iload 4, 2) := by decide +kernel
theorem d_239_137 : decode (am_b 239) 137 = .ok (.iconst 2, 1) := by decide +kernel
theorem d_239_138 : decode (am_b 239) 138 = .ok (.idiv, 1) := by decide +kernel
theorem d_239_139 : decode (am_b 239) 139 = .ok (.imul, 1) := by decide +kernel
theorem d_239_140 : decode (am_b 239) 140 = .ok (.iload 5, 2) := by decide +kernel
theorem d_239_142 : decode (am_b 239) 142 = .ok (.iconst 2, 1) := by decide +kernel
theorem d_239_143 : decode (am_b 239) 143 = .ok (.idiv, 1) := by decide +kernel
theorem d_239_144 : decode (am_b 239) 144 = .ok (.iadd, 1) := by decide +kernel
theorem d_239_145 : decode (am_b 239) 145 = .ok (.ishr, 1) := by decide +kernel
theorem d_239_146 : decode (am_b 239) 146 = .ok (.iconst 1, 1) := by decide +kernel
theorem d_239_147 : decode (am_b 239) 147 = .ok (.iand, 1) := by decide +kernel
theorem d_239_148 : decode (am_b 239) 148 = .ok (.iadd, 1) := by decide +kernel
theorem d_239_149 : decode (am_b 239) 149 = .ok (.iconst 2, 1) := by decide +kernel
theorem d_239_150 : decode (am_b 239) 150 = .ok (.irem, 1) := by decide +kernel
theorem d_239_151 : decode (am_b 239) 151 = .ok (.iadd, 1) := by decide +kernel
theorem d_239_152 : decode (am_b 239) 152 = .ok (.iastore, 1) := by decide +kernel
theorem d_239_153 : decode (am_b 239) 153 = .ok (.iinc 5 1, 3) := by decide +kernel
theorem d_239_156 : decode (am_b 239) 156 = .ok (.goto (-72), 3) := by decide +kernel
theorem d_239_159 : decode (am_b 239) 159 = .ok (.iinc 4 1, 3) := by decide +kernel
theorem d_239_162 : decode (am_b 239) 162 = .ok (.goto (-90), 3) := by decide +kernel
theorem d_239_165 : decode (am_b 239) 165 = .ok (.aload_n 0, 1) := by decide +kernel
theorem d_239_166 : decode (am_b 239) 166 = .ok (.iload_n 1, 1) := by decide +kernel
theorem d_239_167 : decode (am_b 239) 167 = .ok (.invokevirtual 257, 3) := by decide +kernel
theorem d_239_170 : decode (am_b 239) 170 = .ok (.aload_n 0, 1) := by decide +kernel
theorem d_239_171 : decode (am_b 239) 171 = .ok (.aload_n 0, 1) := by decide +kernel
theorem d_239_172 : decode (am_b 239) 172 = .ok (.getfield 134, 3) := by decide +kernel
theorem d_239_175 : decode (am_b 239) 175 = .ok (.invokevirtual 114, 3) := by decide +kernel
theorem d_239_178 : decode (am_b 239) 178 = .ok (.ireturn, 1) := by decide +kernel
theorem d_240_0 : decode (am_b 240) 0 = .ok (.aload_n 0, 1) := by decide +kernel
theorem d_240_1 : decode (am_b 240) 1 = .ok (.iload_n 1, 1) := by decide +kernel
theorem d_240_2 : decode (am_b 240) 2 = .ok (.invokevirtual 124, 3) := by decide +kernel
theorem d_240_5 : decode (am_b 240) 5 = .ok (.ifCond .eq 12, 3) := by decide +kernel
theorem d_240_8 : decode (am_b 240) 8 = .ok (.iload_n 2, 1) := by decide +kernel
theorem d_240_9 : decode (am_b 240) 9 = .ok (.iconst 0, 1) := by decide +kernel
theorem d_240_10 : decode (am_b 240) 10 = .ok (.iconst 2, 1) := by decide +kernel
theorem d_240_11 : decode (am_b 240) 11 = .ok (.invokestatic 106, 3) := by decide +kernel
theorem d_240_14 : decode (am_b 240) 14 = .ok (.ifCond .ne 5, 3) := by decide +kernel
theorem d_240_17 : decode (am_b 240) 17 = .ok (.iconst (-1), 1) := by decide +kernel
theorem d_240_18 : decode (am_b 240) 18 = .ok (.ireturn, 1) := by decide +kernel
theorem d_240_19 : decode (am_b 240) 19 = .ok (.aload_n 0, 1) := by decide +kernel
theorem d_240_20 : decode (am_b 240) 20 = .ok (.iload_n 1, 1) := by decide +kernel
theorem d_240_21 : decode (am_b 240) 21 = .ok (.invokevirtual 248, 3) := by decide +kernel
theorem d_240_24 : decode (am_b 240) 24 = .ok (.aload_n 0, 1) := by decide +kernel
theorem d_240_25 : decode (am_b 240) 25 = .ok (.iload_n 3, 1) := by decide +kernel
theorem d_240_26 : decode (am_b 240) 26 = .ok (.invokevirtual 260, 3) := by decide +kernel
theorem d_240_29 : decode (am_b 240) 29 = .ok (.ifCond .eq 12, 3) := by decide +kernel
theorem d_240_32 : decode (am_b 240) 32 = .ok (.aload_n 0, 1) := by decide +kernel
theorem d_240_33 : decode (am_b 240) 33 = .ok (.iload 4, 2) := by decide +kernel
theorem d_240_35 : decode (am_b 240) 35 = .ok (.invokevirtual 260, 3) := by decide +kernel
theorem d_240_38 : decode (am_b 240) 38 = .ok (.ifCond .ne 5, 3) := by decide +kernel
theorem d_240_41 : decode (am_b 240) 41 = .ok (.iconst (-1), 1) := by decide +kernel
theorem d_240_42 : decode (am_b 240) 42 = .ok (.ireturn, 1) := by decide +kernel
theorem d_240_43 : decode (am_b 240) 43 = .ok (.iload_n 2, 1) := by decide +kernel
theorem d_240_44 : decode (am_b 240) 44 = .ok (.ifCond .ne 13, 3) := by decide +kernel
theorem d_240_47 : decode (am_b 240) 47 = .ok (.aload_n 0, 1) := by decide +kernel
theorem d_240_48 : decode (am_b 240) 48 = .ok (.iload_n 3, 1) := by decide +kernel
theorem d_240_49 : decode (am_b 240) 49 = .ok (.iload 4, 2) := by decide +kernel
theorem d_240_51 : decode (am_b 240) 51 = .ok (.invokevirtual 130, 3) := by decide +kernel
theorem d_240_54 : decode (am_b 240) 54 = .ok (.goto 25, 3) := by decide +kernel
theorem d_240_57 : decode (am_b 240) 57 = .ok (.iload_n 2, 1) := by decide +kernel
theorem d_240_58 : decode (am_b 240) 58 = .ok (.iconst 1, 1) := by decide +kernel
theorem d_240_59 : decode (am_b 240) 59 = .ok (.if_icmp .ne 13, 3) := by decide +kernel
theorem d_240_62 : decode (am_b 240) 62 = .ok (.aload_n 0, 1) := by decide +kernel
theorem d_240_63 : decode (am_b 240) 63 = .ok (.iload_n 3, 1) := by decide +kernel
theorem d_240_64 : decode (am_b 240) 64 = .ok (.iload 4, 2) := by decide +kernel
theorem d_240_66 : decode (am_b 240) 66 = .ok (.invokevirtual 211, 3) := by decide +kernel
theorem d_240_69 : decode (am_b 240) 69 = .ok (.goto 10, 3) := by decide +kernel
theorem d_240_72 : decode (am_b 240) 72 = .ok (.aload_n 0, 1) := by decide +kernel
theorem d_240_73 : decode (am_b 240) 73 = .ok (.iload_n 3, 1) := by decide +kernel
theorem d_240_74 : decode (am_b 240) 74 = .ok (.iload 4, 2) := by decide +kernel
theorem d_240_76 : decode (am_b 240) 76 = .ok (.invokevirtual 208, 3) := by decide +kernel
theorem d_240_79 : decode (am_b 240) 79 = .ok (.ireturn, 1) := by decide +kernel
theorem d_241_0 : decode (am_b 241) 0 = .ok (.aload_n 0, 1) := by decide +kernel
theorem d_241_1 : decode (am_b 241) 1 = .ok (.iload_n 1, 1) := by decide +kernel
theorem d_241_2 : decode (am_b 241) 2 = .ok (.invokevirtual 124, 3) := by decide +kernel
theorem d_241_5 : decode (am_b 241) 5 = .ok (.ifCond .eq 12, 3) := by decide +kernel
theorem d_241_8 : decode (am_b 241) 8 = .ok (.iload_n 2, 1) := by decide +kernel
theorem d_241_9 : decode (am_b 241) 9 = .ok (.iconst 0, 1) := by decide +kernel
theorem d_241_10 : decode (am_b 241) 10 = .ok (.iconst 2, 1) := by decide +kernel
theorem d_241_11 : decode (am_b 241) 11 = .ok (.invokestatic 106, 3) := by decide +kernel
theorem d_241_14 : decode (am_b 241) 14 = .ok (.ifCond .ne 5, 3) := by decide +kernel
theorem d_241_17 : decode (am_b 241) 17 = .ok (.iconst (-1), 1) := by decide +kernel
theorem d_241_18 : decode (am_b 241) 18 = .ok (.ireturn, 1) := by decide +kernel
theorem d_241_19 : decode (am_b 241) 19 = .ok (.aload_n 0, 1) := by decide +kernel
theorem d_241_20 : decode (am_b 241) 20 = .ok (.iload_n 1, 1) := by decide +kernel
theorem d_241_21 : decode (am_b 241) 21 = .ok (.invokevirtual 248, 3) := by decide +kernel
theorem d_241_24 : decode (am_b 241) 24 = .ok (.aload_n 0, 1) := by decide +kernel
theorem d_241_25 : decode (am_b 241) 25 = .ok (.iload_n 2, 1) := by decide +kernel
theorem d_241_26 : decode (am_b 241) 26 = .ok (.invokevirtual 223, 3) := by decide +kernel
theorem d_241_29 : decode (am_b 241) 29 = .ok (.ireturn, 1) := by decide +kernel
theorem d_242_0 : decode (am_b 242) 0 = .ok (.iload_n 1, 1) := by decide +kernel
theorem d_242_1 : decode (am_b 242) 1 = .ok (.invokestatic 117, 3) := by decide +kernel
theorem d_242_4 : decode (am_b 242) 4 = .ok (.ifCond .eq 13, 3) := by decide +kernel
theorem d_242_7 : decode (am_b 242) 7 = .ok (.iload_n 3, 1) := by decide +kernel
theorem d_242_8 : decode (am_b 242) 8 = .ok (.iconst 0, 1) := by decide +kernel
theorem d_242_9 : decode (am_b 242) 9 = .ok (.bipush 63, 2) := by decide +kernel
theorem d_242_11 : decode (am_b 242) 11 = .ok (.invokestatic 106, 3) := by decide +kernel
theorem d_242_14 : decode (am_b 242) 14 = .ok (.ifCond .ne 9, 3) := by decide +kernel
theorem d_242_17 : decode (am_b 242) 17 = .ok (.aload_n 0, 1) := by decide +kernel
theorem d_242_18 : decode (am_b 242) 18 = .ok (.iconst (-1), 1) := by decide +kernel
theorem d_242_19 : decode (am_b 242) 19 = .ok (.invokevirtual 110, 3) := by decide +kernel
theorem d_242_22 : decode (am_b 242) 22 = .ok (.ireturn, 1) := by decide +kernel
theorem d_242_23 : decode (am_b 242) 23 = .ok (.aload_n 0, 1) := by decide +kernel
theorem d_242_24 : decode (am_b 242) 24 = .ok (.iload_n 2, 1) := by decide +kernel
theorem d_242_25 : decode (am_b 242) 25 = .ok (.invokevirtual 124, 3) := by decide +kernel
theorem d_242_28 : decode (am_b 242) 28 = .ok (.ifCond .ne 10, 3) := by decide +kernel
theorem d_242_31 : decode (am_b 242) 31 = .ok (.aload_n 0, 1) := by decide +kernel
theorem d_242_32 : decode (am_b 242) 32 = .ok (.bipush (-2), 2) := by decide +kernel
theorem d_242_34 : decode (am_b 242) 34 = .ok (.invokevirtual 110, 3) := by decide +kernel
theorem d_242_37 : decode (am_b 242) 37 = .ok (.ireturn, 1) := by decide +kernel
theorem d_242_38 : decode (am_b 242) 38 = .ok (.aload_n 0, 1) := by decide +kernel
theorem d_242_39 : decode (am_b 242) 39 = .ok (.iload_n 2, 1) := by decide +kernel
theorem d_242_40 : decode (am_b 242) 40 = .ok (.invokevirtual 248, 3) := by decide +kernel
theorem d_242_43 : decode (am_b 242) 43 = .ok (.aload_n 0, 1) := by decide +kernel
theorem d_242_44 : decode (am_b 242) 44 = .ok (.iconst 0, 1) := by decide +kernel
theorem d_242_45 : decode (am_b 242) 45 = .ok (.invokevirtual 223, 3) := by decide +kernel
theorem d_242_48 : decode (am_b 242) 48 = .ok (.iconst (-1), 1) := by decide +kernel
theorem d_242_49 : decode (am_b 242) 49 = .ok (.if_icmp .eq 11, 3) := by decide +kernel
theorem d_242_52 : decode (am_b 242) 52 = .ok (.aload_n 0, 1) := by decide +kernel
theorem d_242_53 : decode (am_b 242) 53 = .ok (.iload_n 3, 1) := by decide +kernel
theorem d_242_54 : decode (am_b 242) 54 = .ok (.invokevirtual 295, 3) := by decide +kernel
theorem d_242_57 : decode (am_b 242) 57 = .ok (.ifCond .ne 10, 3) := by decide +kernel
theorem d_242_60 : decode (am_b 242) 60 = .ok (.aload_n 0, 1) := by decide +kernel
theorem d_242_61 : decode (am_b 242) 61 = .ok (.bipush (-3), 2) := by decide +kernel
theorem d_242_63 : decode (am_b 242) 63 = .ok (.invokevirtual 110, 3) := by decide +kernel
theorem d_242_66 : decode (am_b 242) 66 = .ok (.ireturn, 1) := by decide +kernel
theorem d_242_67 : decode (am_b 242) 67 = .ok (.aload_n 0, 1) := by decide +kernel
theorem d_242_68 : decode (am_b 242) 68 = .ok (.iconst 0, 1) := by decide +kernel
theorem d_242_69 : decode (am_b 242) 69 = .ok (.putfield 134, 3) := by decide +kernel
theorem d_242_72 : decode (am_b 242) 72 = .ok (.iconst 0, 1) := by decide +kernel
theorem d_242_73 : decode (am_b 242) 73 = .ok (.istore 4, 2) := by decide +kernel
theorem d_242_75 : decode (am_b 242) 75 = .ok (.iload 4, 2) := by decide +kernel
theorem d_242_77 : decode (am_b 242) 77 = .ok (.aload_n 0, 1) := by decide +kernel
theorem d_242_78 : decode (am_b 242) 78 = .ok (.getfield 127, 3) := by decide +kernel
theorem d_242_81 : decode (am_b 242) 81 = .ok (.if_icmp .ge 31, 3) := by decide +kernel
theorem d_242_84 : decode (am_b 242) 84 = .ok (.aload_n 0, 1) := by decide +kernel
theorem d_242_85 : decode (am_b 242) 85 = .ok (.getfield 58, 3) := by decide +kernel
theorem d_242_88 : decode (am_b 242) 88 = .ok (.iload 4, 2) := by decide +kernel
theorem d_242_90 : decode (am_b 242) 90 = .ok (.iaload, 1) := by decide +kernel
theorem d_242_91 : decode (am_b 242) 91 = .ok (.iload 4, 2) := by decide +kernel
theorem d_242_93 : decode (am_b 242) 93 = .ok (.if_icmp .ne 13, 3) := by decide +kernel
theorem d_242_96 : decode (am_b 242) 96 = .ok (.aload_n 0, 1) := by decide +kernel
theorem d_242_97 : decode (am_b 242) 97 = .ok (.dup, 1) := by decide +kernel
theorem d_242_98 : decode (am_b 242) 98 = .ok (.getfield 134, 3) := by decide +kernel
theorem d_242_101 : decode (am_b 242) 101 = .ok (.iconst 1, 1) := by decide +kernel
theorem d_242_102 : decode (am_b 242) 102 = .ok (.iadd, 1) := by decide +kernel
theorem d_242_103 : decode (am_b 242) 103 = .ok (.putfield 134, 3) := by decide +kernel
theorem d_242_106 : decode (am_b 242) 106 = .ok (.iinc 4 1, 3) := by decide +kernel
theorem d_242_109 : decode (am_b 242) 109 = .ok (.goto (-34), 3) := by decide +kernel
theorem d_242_112 : decode (am_b 242) 112 = .ok (.iconst 0, 1) := by decide +kernel
theorem d_242_113 : decode (am_b 242) 113 = .ok (.istore 4, 2) := by decide +kernel
theorem d_242_115 : decode (am_b 242) 115 = .ok (.iconst 0, 1) := by decide +kernel
theorem d_242_116 : decode (am_b 242) 116 = .ok (.istore 5, 2) := by decide +kernel
theorem d_242_118 : decode (am_b 242) 118 = .ok (.iload 5, 2) := by decide +kernel
theorem d_242_120 : decode (am_b 242) 120 = .ok (.aload_n 0, 1) := by decide +kernel
theorem d_242_121 : decode (am_b 242) 121 = .ok (.getfield 127, 3) := by decide +kernel
theorem d_242_124 : decode (am_b 242) 124 = .ok (.if_icmp .ge 135, 3) := by decide +kernel
theorem d_242_127 : decode (am_b 242) 127 = .ok (.aload_n 0, 1) := by decide +kernel
theorem d_242_128 : decode (am_b 242) 128 = .ok (.getfield 58, 3) := by decide +kernel
theorem d_242_131 : decode (am_b 242) 131 = .ok (.iload 5, 2) := by decide +kernel
theorem d_242_133 : decode (am_b 242) 133 = .ok (.iaload, 1) := by decide +kernel
theorem d_242_134 : decode (am_b 242) 134 = .ok (.iload 5, 2) := by decide +kernel
theorem d_242_136 : decode (am_b 242) 136 = .ok (.if_icmp .eq 6, 3) := by decide +kernel
theorem d_242_139 : decode (am_b 242) 139 = .ok (.goto 114, 3) := by decide +kernel
theorem d_242_142 : decode (am_b 242) 142 = .ok (.iconst 0, 1) := by decide +kernel
theorem d_242_143 : decode (am_b 242) 143 = .ok (.istore 6, 2) := by decide +kernel
theorem d_242_145 : decode (am_b 242) 145 = .ok (.iconst 0, 1) := by decide +kernel
theorem d_242_146 : decode (am_b 242) 146 = .ok (.istore 7, 2) := by decide +kernel
theorem d_242_148 : decode (am_b 242) 148 = .ok (.iload 7, 2) := by decide +kernel
theorem d_242_150 : decode (am_b 242) 150 = .ok (.aload_n 0, 1) := by decide +kernel
theorem d_242_151 : decode (am_b 242) 151 = .ok (.getfield 127, 3) := by decide +kernel
theorem d_242_154 : decode (am_b 242) 154 = .ok (.if_icmp .ge 96, 3) := by decide +kernel
theorem d_242_157 : decode (am_b 242) 157 = .ok (.aload_n 0, 1) := by decide +kernel
theorem d_242_158 : decode (am_b 242) 158 = .ok (.getfield 58, 3) := by decide +kernel
theorem d_242_161 : decode (am_b 242) 161 = .ok (.iload 7, 2) := by decide +kernel
theorem d_242_163 : decode (am_b 242) 163 = .ok (.iaload, 1) := by decide +kernel
theorem d_242_164 : decode (am_b 242) 164 = .ok (.iload 7, 2) := by decide +kernel
theorem d_242_166 : decode (am_b 242) 166 = .ok (.if_icmp .eq 6, 3) := by decide +kernel
theorem d_242_169 : decode (am_b 242) 169 = .ok (.goto 75, 3) := by decide +kernel
theorem d_242_172 : decode (am_b 242) 172 = .ok (.iconst 0, 1) := by decide +kernel
theorem d_242_173 : decode (am_b 242) 173 = .ok (.istore 8, 2) := by decide +kernel
theorem d_242_175 : decode (am_b 242) 175 = .ok (.iconst 0, 1) := by decide +kernel
theorem d_242_176 : decode (am_b 242) 176 = .ok (.istore 9, 2) := by decide +kernel
theorem d_242_178 : decode (am_b 242) 178 = .ok (.iload 9, 2) := by decide +kernel
theorem d_242_180 : decode (am_b 242) 180 = .ok (.aload_n 0, 1) := by decide +kernel
theorem d_242_181 : decode (am_b 242) 181 = .ok (.getfield 58, 3) := by decide +kernel
theorem d_242_184 : decode (am_b 242) 184 = .ok (.aload_n 0, 1) := by decide +kernel
theorem d_242_185 : decode (am_b 242) 185 = .ok (.iload 5, 2) := by decide +kernel
theorem d_242_187 : decode (am_b 242) 187 = .ok (.iload 7, 2) := by decide +kernel
theorem d_242_189 : decode (am_b 242) 189 = .ok (.invokevirtual 130, 3) := by decide +kernel
theorem d_242_192 : decode (am_b 242) 192 = .ok (.iaload, 1) := by decide +kernel
theorem d_242_193 : decode (am_b 242) 193 = .ok (.if_icmp .ge 31, 3) := by decide +kernel
theorem d_242_196 : decode (am_b 242) 196 = .ok (.iload 8, 2) := by decide +kernel
theorem d_242_198 : decode (am_b 242) 198 = .ok (.aload_n 0, 1) := by decide +kernel
theorem d_242_199 : decode (am_b 242) 199 = .ok (.getfield 58, 3) := by decide +kernel
theorem d_242_202 : decode (am_b 242) 202 = .ok (.iload 9, 2) := by decide +kernel
theorem d_242_204 : decode (am_b 242) 204 = .ok (.iaload, 1) := by decide +kernel
theorem d_242_205 : decode (am_b 242) 205 = .ok (.iload 9, 2) := by decide +kernel
theorem d_242_207 : decode (am_b 242) 207 = .ok (.if_icmp .ne 7, 3) := by decide +kernel
theorem d_242_210 : decode (am_b 242) 210 = .ok (.iconst 1, 1) := by decide +kernel
theorem d_242_211 : decode (am_b 242) 211 = .ok (.goto 4, 3) := by decide +kernel
theorem d_242_214 : decode (am_b 242) 214 = .ok (.iconst 0, 1) := by decide +kernel
theorem d_242_215 : decode (am_b 242) 215 = .ok (.iadd, 1) := by decide +kernel
theorem d_242_216 : decode (am_b 242) 216 = .ok (.istore 8, 2) := by decide +kernel
theorem d_242_218 : decode (am_b 242) 218 = .ok (.iinc 9 1, 3) := by decide +kernel
theorem d_242_221 : decode (am_b 242) 221 = .ok (.goto (-43), 3) := by decide +kernel
theorem d_242_224 : decode (am_b 242) 224 = .ok (.aload_n 0, 1) := by decide +kernel
theorem d_242_225 : decode (am_b 242) 225 = .ok (.getfield 26, 3) := by decide +kernel
theorem d_242_228 : decode (am_b 242) 228 = .ok (.aload_n 0, 1) := by decide +kernel
theorem d_242_229 : decode (am_b 242) 229 = .ok (.getfield 134, 3) := by decide +kernel
theorem d_242_232 : decode (am_b 242) 232 = .ok (.iload 4, 2) := by decide +kernel
theorem d_242_234 : decode (am_b 242) 234 = .ok (.imul, 1) := by decide +kernel
theorem d_242_235 : decode (am_b 242) 235 = .ok (.iload 6, 2) := by decide +kernel
theorem d_242_237 : decode (am_b 242) 237 = .ok (.iadd, 1) := by decide +kernel
theorem d_242_238 : decode (am_b 242) 238 = .ok (.iload 8, 2) := by decide +kernel
theorem d_242_240 : decode (am_b 242) 240 = .ok (.iastore, 1) := by decide +kernel
theorem d_242_241 : decode (am_b 242) 241 = .ok (.iinc 6 1, 3) := by decide +kernel
theorem d_242_244 : decode (am_b 242) 244 = .ok (.iinc 7 1, 3) := by decide +kernel
theorem d_242_247 : decode (am_b 242) 247 = .ok (.goto (-99), 3) := by decide +kernel
theorem d_242_250 : decode (am_b 242) 250 = .ok (.iinc 4 1, 3) := by decide +kernel
theorem d_242_253 : decode (am_b 242) 253 = .ok (.iinc 5 1, 3) := by decide +kernel
theorem d_242_256 : decode (am_b 242) 256 = .ok (.goto (-138), 3) := by decide +kernel
theorem d_242_259 : decode (am_b 242) 259 = .ok (.aload_n 0, 1) := by decide +kernel
theorem d_242_260 : decode (am_b 242) 260 = .ok (.iload_n 1, 1) := by decide +kernel
theorem d_242_261 : decode (am_b 242) 261 = .ok (.invokevirtual 257, 3) := by decide +kernel
theorem d_242_264 : decode (am_b 242) 264 = .ok (.aload_n 0, 1) := by decide +kernel
theorem d_242_265 : decode (am_b 242) 265 = .ok (.aload_n 0, 1) := by decide +kernel
theorem d_242_266 : decode (am_b 242) 266 = .ok (.getfield 134, 3) := by decide +kernel
theorem d_242_269 : decode (am_b 242) 269 = .ok (.invokevirtual 114, 3) := by decide +kernel
theorem d_242_272 : decode (am_b 242) 272 = .ok (.ireturn, 1) := by decide +kernel
theorem d_243_0 : decode (am_b 243) 0 = .ok (.aload_n 0, 1) := by decide +kernel
theorem d_243_1 : decode (am_b 243) 1 = .ok (.iload_n 1, 1) := by decide +kernel
theorem d_243_2 : decode (am_b 243) 2 = .ok (.invokevirtual 289, 3) := by decide +kernel
theorem d_243_5 : decode (am_b 243) 5 = .ok (.ifCond .ne 5, 3) := by decide +kernel
theorem d_243_8 : decode (am_b 243) 8 = .ok (.iconst 0, 1) := by decide +kernel
theorem d_243_9 : decode (am_b 243) 9 = .ok (.ireturn, 1) := by decide +kernel
theorem d_243_10 : decode (am_b 243) 10 = .ok (.iconst 0, 1) := by decide +kernel
theorem d_243_11 : decode (am_b 243) 11 = .ok (.istore_n 2, 1) := by decide +kernel
theorem d_243_12 : decode (am_b 243) 12 = .ok (.iload_n 2, 1) := by decide +kernel
theorem d_243_13 : decode (am_b 243) 13 = .ok (.aload_n 0, 1) := by decide +kernel
theorem d_243_14 : decode (am_b 243) 14 = .ok (.getfield 127, 3) := by decide +kernel
theorem d_243_17 : decode (am_b 243) 17 = .ok (.if_icmp .ge 16, 3) := by decide +kernel
theorem d_243_20 : decode (am_b 243) 20 = .ok (.aload_n 0, 1) := by decide +kernel
theorem d_243_21 : decode (am_b 243) 21 = .ok (.getfield 58, 3) := by decide +kernel
theorem d_243_24 : decode (am_b 243) 24 = .ok (.iload_n 2, 1) := by decide +kernel
theorem d_243_25 : decode (am_b 243) 25 = .ok (.iconst (-1), 1) := by decide +kernel
theorem d_243_26 : decode (am_b 243) 26 = .ok (.iastore, 1) := by decide +kernel
theorem d_243_27 : decode (am_b 243) 27 = .ok (.iinc 2 1, 3) := by decide +kernel
theorem d_243_30 : decode (am_b 243) 30 = .ok (.goto (-18), 3) := by decide +kernel
theorem d_243_33 : decode (am_b 243) 33 = .ok (.iconst 0, 1) := by decide +kernel
theorem d_243_34 : decode (am_b 243) 34 = .ok (.istore_n 2, 1) := by decide +kernel
theorem d_243_35 : decode (am_b 243) 35 = .ok (.iload_n 2, 1) := by decide +kernel
theorem d_243_36 : decode (am_b 243) 36 = .ok (.aload_n 0, 1) := by decide +kernel
theorem d_243_37 : decode (am_b 243) 37 = .ok (.getfield 127, 3) := by decide +kernel
theorem d_243_40 : decode (am_b 243) 40 = .ok (.if_icmp .ge 133, 3) := by decide +kernel
theorem d_243_43 : decode (am_b 243) 43 = .ok (.iconst 0, 1) := by decide +kernel
theorem d_243_44 : decode (am_b 243) 44 = .ok (.istore_n 3, 1) := by decide +kernel
theorem d_243_45 : decode (am_b 243) 45 = .ok (.iconst 0, 1) := by decide +kernel
theorem d_243_46 : decode (am_b 243) 46 = .ok (.istore 4, 2) := by decide +kernel
theorem d_243_48 : decode (am_b 243) 48 = .ok (.iload 4, 2) := by decide +kernel
theorem d_243_50 : decode (am_b 243) 50 = .ok (.aload_n 0, 1) := by decide +kernel
theorem d_243_51 : decode (am_b 243) 51 = .ok (.getfield 127, 3) := by decide +kernel
theorem d_243_54 : decode (am_b 243) 54 = .ok (.if_icmp .ge 31, 3) := by decide +kernel
theorem d_243_57 : decode (am_b 243) 57 = .ok (.iload_n 1, 1) := by decide +kernel
theorem d_243_58 : decode (am_b 243) 58 = .ok (.iload 4, 2) := by decide +kernel
theorem d_243_60 : decode (am_b 243) 60 = .ok (.ishr, 1) := by decide +kernel
theorem d_243_61 : decode (am_b 243) 61 = .ok (.iconst 1, 1) := by decide +kernel
theorem d_243_62 : decode (am_b 243) 62 = .ok (.iand, 1) := by decide +kernel
theorem d_243_63 : decode (am_b 243) 63 = .ok (.iconst 1, 1) := by decide +kernel
theorem d_243_64 : decode (am_b 243) 64 = .ok (.if_icmp .ne 15, 3) := by decide +kernel
theorem d_243_67 : decode (am_b 243) 67 = .ok (.iload_n 3, 1) := by decide +kernel
theorem d_243_68 : decode (am_b 243) 68 = .ok (.iconst 1, 1) := by decide +kernel
theorem d_243_69 : decode (am_b 243) 69 = .ok (.aload_n 0, 1) := by decide +kernel
theorem d_243_70 : decode (am_b 243) 70 = .ok (.iload_n 2, 1) := by decide +kernel
theorem d_243_71 : decode (am_b 243) 71 = .ok (.iload 4, 2) := by decide +kernel
theorem d_243_73 : decode (am_b 243) 73 = .ok (.invokevirtual 130, 3) := by decide +kernel
theorem d_243_76 : decode (am_b 243) 76 = .ok (.ishl, 1) := by decide +kernel
theorem d_243_77 : decode (am_b 243) 77 = .ok (.ior, 1) := by decide +kernel
theorem d_243_78 : decode (am_b 243) 78 = .ok (.istore_n 3, 1) := by decide +kernel
theorem d_243_79 : decode (am_b 243) 79 = .ok (.iinc 4 1, 3) := by decide +kernel
theorem d_243_82 : decode (am_b 243) 82 = .ok (.goto (-34), 3) := by decide +kernel
theorem d_243_85 : decode (am_b 243) 85 = .ok (.iconst 0, 1) := by decide +kernel
theorem d_243_86 : decode (am_b 243) 86 = .ok (.istore 4, 2) := by decide +kernel
theorem d_243_88 : decode (am_b 243) 88 = .ok (.iload_n 3, 1) := by decide +kernel
theorem d_243_89 : decode (am_b 243) 89 = .ok (.iload 4, 2) := by decide +kernel
theorem d_243_91 : decode (am_b 243) 91 = .ok (.ishr, 1) := by decide +kernel
theorem d_243_92 : decode (am_b 243) 92 = .ok (.iconst 1, 1) := by decide +kernel
theorem d_243_93 : decode (am_b 243) 93 = .ok (.iand, 1) := by decide +kernel
theorem d_243_94 : decode (am_b 243) 94 = .ok (.ifCond .ne 9, 3) := by decide +kernel
theorem d_243_97 : decode (am_b 243) 97 = .ok (.iinc 4 1, 3) := by decide +kernel
theorem d_243_100 : decode (am_b 243) 100 = .ok (.goto (-12), 3) := by decide +kernel
theorem d_243_103 : decode (am_b 243) 103 = .ok (.iconst 0, 1) := by decide +kernel
theorem d_243_104 : decode (am_b 243) 104 = .ok (.istore 5, 2) := by decide +kernel
theorem d_243_106 : decode (am_b 243) 106 = .ok (.iload 5, 2) := by decide +kernel
theorem d_243_108 : decode (am_b 243) 108 = .ok (.aload_n 0, 1) := by decide +kernel
theorem d_243_109 : decode (am_b 243) 109 = .ok (.getfield 127, 3) := by decide +kernel
theorem d_243_112 : decode (am_b 243) 112 = .ok (.if_icmp .ge 55, 3) := by decide +kernel
theorem d_243_115 : decode (am_b 243) 115 = .ok (.iload_n 3, 1) := by decide +kernel
theorem d_243_116 : decode (am_b 243) 116 = .ok (.iload 5, 2) := by decide +kernel
theorem d_243_118 : decode (am_b 243) 118 = .ok (.ishr, 1) := by decide +kernel
theorem d_243_119 : decode (am_b 243) 119 = .ok (.iconst 1, 1) := by decide +kernel
theorem d_243_120 : decode (am_b 243) 120 = .ok (.iand, 1) := by decide +kernel
theorem d_243_121 : decode (am_b 243) 121 = .ok (.ifCond .ne 6, 3) := by decide +kernel
theorem d_243_124 : decode (am_b 243) 124 = .ok (.goto 37, 3) := by decide +kernel
theorem d_243_127 : decode (am_b 243) 127 = .ok (.aload_n 0, 1) := by decide +kernel
theorem d_243_128 : decode (am_b 243) 128 = .ok (.getfield 58, 3) := by decide +kernel
theorem d_243_131 : decode (am_b 243) 131 = .ok (.iload 5, 2) := by decide +kernel
theorem d_243_133 : decode (am_b 243) 133 = .ok (.iaload, 1) := by decide +kernel
theorem d_243_134 : decode (am_b 243) 134 = .ok (.iconst (-1), 1) := by decide +kernel
theorem d_243_135 : decode (am_b 243) 135 = .ok (.if_icmp .eq 17, 3) := by decide +kernel
theorem d_243_138 : decode (am_b 243) 138 = .ok (.aload_n 0, 1) := by decide +kernel
theorem d_243_139 : decode (am_b 243) 139 = .ok (.getfield 58, 3) := by decide +kernel
theorem d_243_142 : decode (am_b 243) 142 = .ok (.iload 5, 2) := by decide +kernel
theorem d_243_144 : decode (am_b 243) 144 = .ok (.iaload, 1) := by decide +kernel
theorem d_243_145 : decode (am_b 243) 145 = .ok (.iload 4, 2) := by decide +kernel
theorem d_243_147 : decode (am_b 243) 147 = .ok (.if_icmp .eq 5, 3) := by decide +kernel
theorem d_243_150 : decode (am_b 243) 150 = .ok (.iconst 0, 1) := by decide +kernel
theorem d_243_151 : decode (am_b 243) 151 = .ok (.ireturn, 1) := by decide +kernel
theorem d_243_152 : decode (am_b 243) 152 = .ok (.aload_n 0, 1) := by decide +kernel
theorem d_243_153 : decode (am_b 243) 153 = .ok (.getfield 58, 3) := by decide +kernel
theorem d_243_156 : decode (am_b 243) 156 = .ok (.iload 5, 2) := by decide +kernel
theorem d_243_158 : decode (am_b 243) 158 = .ok (.iload 4, 2) := by decide +kernel
theorem d_243_160 : decode (am_b 243) 160 = .ok (.iastore, 1) := by decide +kernel
theorem d_243_161 : decode (am_b 243) 161 = .ok (.iinc 5 1, 3) := by decide +kernel
theorem d_243_164 : decode (am_b 243) 164 = .ok (.goto (-58), 3) := by decide +kernel
theorem d_243_167 : decode (am_b 243) 167 = .ok (.iinc 2 1, 3) := by decide +kernel
theorem d_243_170 : decode (am_b 243) 170 = .ok (.goto (-135), 3) := by decide +kernel
theorem d_243_173 : decode (am_b 243) 173 = .ok (.iconst 0, 1) := by decide +kernel
theorem d_243_174 : decode (am_b 243) 174 = .ok (.istore_n 2, 1) := by decide +kernel
theorem d_243_175 : decode (am_b 243) 175 = .ok (.iload_n 2, 1) := by decide +kernel
theorem d_243_176 : decode (am_b 243) 176 = .ok (.aload_n 0, 1) := by decide +kernel
theorem d_243_177 : decode (am_b 243) 177 = .ok (.getfield 127, 3) := by decide +kernel
theorem d_243_180 : decode (am_b 243) 180 = .ok (.if_icmp .ge 73, 3) := by decide +kernel
theorem d_243_183 : decode (am_b 243) 183 = .ok (.iconst 0, 1) := by decide +kernel
theorem d_243_184 : decode (am_b 243) 184 = .ok (.istore_n 3, 1) := by decide +kernel
theorem d_243_185 : decode (am_b 243) 185 = .ok (.iconst 0, 1) := by decide +kernel
theorem d_243_186 : decode (am_b 243) 186 = .ok (.istore 4, 2) := by decide +kernel
theorem d_243_188 : decode (am_b 243) 188 = .ok (.iload 4, 2) := by decide +kernel
theorem d_243_190 : decode (am_b 243) 190 = .ok (.aload_n 0, 1) := by decide +kernel
theorem d_243_191 : decode (am_b 243) 191 = .ok (.getfield 127, 3) := by decide +kernel
theorem d_243_194 : decode (am_b 243) 194 = .ok (.if_icmp .ge 33, 3) := by decide +kernel
theorem d_243_197 : decode (am_b 243) 197 = .ok (.iload_n 3, 1) := by decide +kernel
theorem d_243_198 : decode (am_b 243) 198 = .ok (.aload_n 0, 1) := by decide +kernel
theorem d_243_199 : decode (am_b 243) 199 = .ok (.getfield 58, 3) := by decide +kernel
theorem d_243_202 : decode (am_b 243) 202 = .ok (.iload 4, 2) := by decide +kernel
theorem d_243_204 : decode (am_b 243) 204 = .ok (.iaload, 1) := by decide +kernel
theorem d_243_205 : decode (am_b 243) 205 = .ok (.aload_n 0, 1) := by decide +kernel
theorem d_243_206 : decode (am_b 243) 206 = .ok (.getfield 58, 3) := by decide +kernel
theorem d_243_209 : decode (am_b 243) 209 = .ok (.iload_n 2, 1) := by decide +kernel
theorem d_243_210 : decode (am_b 243) 210 = .ok (.iaload, 1) := by decide +kernel
theorem d_243_211 : decode (am_b 243) 211 = .ok (.if_icmp .ne 7, 3) := by decide +kernel
theorem d_243_214 : decode (am_b 243) 214 = .ok (.iconst 1, 1) := by decide +kernel
theorem d_243_215 : decode (am_b 243) 215 = .ok (.goto 4, 3) := by decide +kernel
theorem d_243_218 : decode (am_b 243) 218 = .ok (.iconst 0, 1) := by decide +kernel
theorem d_243_219 : decode (am_b 243) 219 = .ok (.iadd, 1) := by decide +kernel
theorem d_243_220 : decode (am_b 243) 220 = .ok (.istore_n 3, 1) := by decide +kernel
theorem d_243_221 : decode (am_b 243) 221 = .ok (.iinc 4 1, 3) := by decide +kernel
theorem d_243_224 : decode (am_b 243) 224 = .ok (.goto (-36), 3) := by decide +kernel
theorem d_243_227 : decode (am_b 243) 227 = .ok (.aload_n 0, 1) := by decide +kernel
theorem d_243_228 : decode (am_b 243) 228 = .ok (.getfield 58, 3) := by decide +kernel
theorem d_243_231 : decode (am_b 243) 231 = .ok (.iload_n 2, 1) := by decide +kernel
theorem d_243_232 : decode (am_b 243) 232 = .ok (.iaload, 1) := by decide +kernel
theorem d_243_233 : decode (am_b 243) 233 = .ok (.iconst (-1), 1) := by decide +kernel
theorem d_243_234 : decode (am_b 243) 234 = .ok (.if_icmp .eq 11, 3) := by decide +kernel
theorem d_243_237 : decode (am_b 243) 237 = .ok (.iload_n 3, 1) := by decide +kernel
theorem d_243_238 : decode (am_b 243) 238 = .ok (.iload_n 1, 1) := by decide +kernel
theorem d_243_239 : decode (am_b 243) 239 = .ok (.invokestatic 292, 3) := by decide +kernel
theorem d_243_242 : decode (am_b 243) 242 = .ok (.if_icmp .eq 5, 3) := by decide +kernel
theorem d_243_245 : decode (am_b 243) 245 = .ok (.iconst 0, 1) := by decide +kernel
theorem d_243_246 : decode (am_b 243) 246 = .ok (.ireturn, 1) := by decide +kernel
theorem d_243_247 : decode (am_b 243) 247 = .ok (.iinc 2 1, 3) := by decide +kernel
theorem d_243_250 : decode (am_b 243) 250 = .ok (.goto (-75), 3) := by decide +kernel
theorem d_243_253 : decode (am_b 243) 253 = .ok (.iconst 0, 1) := by decide +kernel
theorem d_243_254 : decode (am_b 243) 254 = .ok (.istore_n 2, 1) := by decide +kernel
theorem d_243_255 : decode (am_b 243) 255 = .ok (.iload_n 2, 1) := by decide +kernel
theorem d_243_256 : decode (am_b 243) 256 = .ok (.aload_n 0, 1) := by decide +kernel
theorem d_243_257 : decode (am_b 243) 257 = .ok (.getfield 127, 3) := by decide +kernel
theorem d_243_260 : decode (am_b 243) 260 = .ok (.if_icmp .ge 62, 3) := by decide +kernel
theorem d_243_263 : decode (am_b 243) 263 = .ok (.iconst 0, 1) := by decide +kernel
theorem d_243_264 : decode (am_b 243) 264 = .ok (.istore_n 3, 1) := by decide +kernel
theorem d_243_265 : decode (am_b 243) 265 = .ok (.iload_n 3, 1) := by decide +kernel
theorem d_243_266 : decode (am_b 243) 266 = .ok (.aload_n 0, 1) := by decide +kernel
theorem d_243_267 : decode (am_b 243) 267 = .ok (.getfield 127, 3) := by decide +kernel
theorem d_243_270 : decode (am_b 243) 270 = .ok (.if_icmp .ge 46, 3) := by decide +kernel
theorem d_243_273 : decode (am_b 243) 273 = .ok (.aload_n 0, 1) := by decide +kernel
theorem d_243_274 : decode (am_b 243) 274 = .ok (.getfield 58, 3) := by decide +kernel
theorem d_243_277 : decode (am_b 243) 277 = .ok (.aload_n 0, 1) := by decide +kernel
theorem d_243_278 : decode (am_b 243) 278 = .ok (.iload_n 2, 1) := by decide +kernel
theorem d_243_279 : decode (am_b 243) 279 = .ok (.iload_n 3, 1) := by decide +kernel
theorem d_243_280 : decode (am_b 243) 280 = .ok (.invokevirtual 130, 3) := by decide +kernel
theorem d_243_283 : decode (am_b 243) 283 = .ok (.iaload, 1) := by decide +kernel
theorem d_243_284 : decode (am_b 243) 284 = .ok (.aload_n 0, 1) := by decide +kernel
theorem d_243_285 : decode (am_b 243) 285 = .ok (.getfield 58, 3) := by decide +kernel
theorem d_243_288 : decode (am_b 243) 288 = .ok (.aload_n 0, 1) := by decide +kernel
theorem d_243_289 : decode (am_b 243) 289 = .ok (.aload_n 0, 1) := by decide +kernel
theorem d_243_290 : decode (am_b 243) 290 = .ok (.getfield 58, 3) := by decide +kernel
theorem d_243_293 : decode (am_b 243) 293 = .ok (.iload_n 2, 1) := by decide +kernel
theorem d_243_294 : decode (am_b 243) 294 = .ok (.iaload, 1) := by decide +kernel
theorem d_243_295 : decode (am_b 243) 295 = .ok (.aload_n 0, 1) := by decide +kernel
theorem d_243_296 : decode (am_b 243) 296 = .ok (.getfield 58, 3) := by decide +kernel
theorem d_243_299 : decode (am_b 243) 299 = .ok (.iload_n 3, 1) := by decide +kernel
theorem d_243_300 : decode (am_b 243) 300 = .ok (.iaload, 1) := by decide +kernel
theorem d_243_301 : decode (am_b 243) 301 = .ok (.invokevirtual 130, 3) := by decide +kernel
theorem d_243_304 : decode (am_b 243) 304 = .ok (.iaload, 1) := by decide +kernel
theorem d_243_305 : decode (am_b 243) 305 = .ok (.if_icmp .eq 5, 3) := by decide +kernel
theorem d_243_308 : decode (am_b 243) 308 = .ok (.iconst 0, 1) := by decide +kernel
theorem d_243_309 : decode (am_b 243) 309 = .ok (.ireturn, 1) := by decide +kernel
theorem d_243_310 : decode (am_b 243) 310 = .ok (.iinc 3 1, 3) := by decide +kernel
theorem d_243_313 : decode (am_b 243) 313 = .ok (.goto (-48), 3) := by decide +kernel
theorem d_243_316 : decode (am_b 243) 316 = .ok (.iinc 2 1, 3) := by decide +kernel
theorem d_243_319 : decode (am_b 243) 319 = .ok (.goto (-64), 3) := by decide +kernel
theorem d_243_322 : decode (am_b 243) 322 = .ok (.iconst 1, 1) := by decide +kernel
theorem d_243_323 : decode (am_b 243) 323 = .ok (.ireturn, 1) := by decide +kernel
theorem d_244_0 : decode (am_b 244) 0 = .ok (.aload_n 0, 1) := by decide +kernel
theorem d_244_1 : decode (am_b 244) 1 = .ok (.iload_n 1, 1) := by decide +kernel
theorem d_244_2 : decode (am_b 244) 2 = .ok (.invokevirtual 283, 3) := by decide +kernel
theorem d_244_5 : decode (am_b 244) 5 = .ok (.ifCond .eq 16, 3) := by decide +kernel
theorem d_244_8 : decode (am_b 244) 8 = .ok (.aload_n 0, 1) := by decide +kernel
theorem d_244_9 : decode (am_b 244) 9 = .ok (.iload_n 1, 1) := by decide +kernel
theorem d_244_10 : decode (am_b 244) 10 = .ok (.invokevirtual 286, 3) := by decide +kernel
theorem d_244_13 : decode (am_b 244) 13 = .ok (.iload_n 1, 1) := by decide +kernel
theorem d_244_14 : decode (am_b 244) 14 = .ok (.if_icmp .ne 7, 3) := by decide +kernel
theorem d_244_17 : decode (am_b 244) 17 = .ok (.iconst 1, 1) := by decide +kernel
theorem d_244_18 : decode (am_b 244) 18 = .ok (.goto 4, 3) := by decide +kernel
theorem d_244_21 : decode (am_b 244) 21 = .ok (.iconst 0, 1) := by decide +kernel
theorem d_244_22 : decode (am_b 244) 22 = .ok (.ireturn, 1) := by decide +kernel
theorem d_245_0 : decode (am_b 245) 0 = .ok (.iload_n 1, 1) := by decide +kernel
theorem d_245_1 : decode (am_b 245) 1 = .ok (.iconst 1, 1) := by decide +kernel
theorem d_245_2 : decode (am_b 245) 2 = .ok (.iconst 1, 1) := by decide +kernel
theorem d_245_3 : decode (am_b 245) 3 = .ok (.aload_n 0, 1) := by decide +kernel
theorem d_245_4 : decode (am_b 245) 4 = .ok (.getfield 127, 3) := by decide +kernel
theorem d_245_7 : decode (am_b 245) 7 = .ok (.ishl, 1) := by decide +kernel
theorem d_245_8 : decode (am_b 245) 8 = .ok (.iconst 1, 1) := by decide +kernel
theorem d_245_9 : decode (am_b 245) 9 = .ok (.isub, 1) := by decide +kernel
theorem d_245_10 : decode (am_b 245) 10 = .ok (.invokestatic 106, 3) := by decide +kernel
theorem d_245_13 : decode (am_b 245) 13 = .ok (.ireturn, 1) := by decide +kernel
theorem d_246_0 : decode (am_b 246) 0 = .ok (.iload_n 1, 1) := by decide +kernel
theorem d_246_1 : decode (am_b 246) 1 = .ok (.istore_n 2, 1) := by decide +kernel
theorem d_246_2 : decode (am_b 246) 2 = .ok (.iconst 0, 1) := by decide +kernel
theorem d_246_3 : decode (am_b 246) 3 = .ok (.istore_n 3, 1) := by decide +kernel
theorem d_246_4 : decode (am_b 246) 4 = .ok (.iload_n 2, 1) := by decide +kernel
theorem d_246_5 : decode (am_b 246) 5 = .ok (.iload_n 3, 1) := by decide +kernel
theorem d_246_6 : decode (am_b 246) 6 = .ok (.if_icmp .eq 72, 3) := by decide +kernel
theorem d_246_9 : decode (am_b 246) 9 = .ok (.iload_n 2, 1) := by decide +kernel
theorem d_246_10 : decode (am_b 246) 10 = .ok (.istore_n 3, 1) := by decide +kernel
theorem d_246_11 : decode (am_b 246) 11 = .ok (.iconst 0, 1) := by decide +kernel
theorem d_246_12 : decode (am_b 246) 12 = .ok (.istore 4, 2) := by decide +kernel
theorem d_246_14 : decode (am_b 246) 14 = .ok (.iload 4, 2) := by decide +kernel
theorem d_246_16 : decode (am_b 246) 16 = .ok (.aload_n 0, 1) := by decide +kernel
theorem d_246_17 : decode (am_b 246) 17 = .ok (.getfield 127, 3) := by decide +kernel
theorem d_246_20 : decode (am_b 246) 20 = .ok (.if_icmp .ge 55, 3) := by decide +kernel
theorem d_246_23 : decode (am_b 246) 23 = .ok (.iconst 0, 1) := by decide +kernel
theorem d_246_24 : decode (am_b 246) 24 = .ok (.istore 5, 2) := by decide +kernel
theorem d_246_26 : decode (am_b 246) 26 = .ok (.iload 5, 2) := by decide +kernel
theorem d_246_28 : decode (am_b 246) 28 = .ok (.aload_n 0, 1) := by decide +kernel
theorem d_246_29 : decode (am_b 246) 29 = .ok (.getfield 127, 3) := by decide +kernel
theorem d_246_32 : decode (am_b 246) 32 = .ok (.if_icmp .ge 37, 3) := by decide +kernel
theorem d_246_35 : decode (am_b 246) 35 = .ok (.iload_n 3, 1) := by decide +kernel
theorem d_246_36 : decode (am_b 246) 36 = .ok (.iload 4, 2) := by decide +kernel
theorem d_246_38 : decode (am_b 246) 38 = .ok (.ishr, 1) := by decide +kernel
theorem d_246_39 : decode (am_b 246) 39 = .ok (.iload_n 3, 1) := by decide +kernel
theorem d_246_40 : decode (am_b 246) 40 = .ok (.iload 5, 2) := by decide +kernel
theorem d_246_42 : decode (am_b 246) 42 = .ok (.ishr, 1) := by decide +kernel
theorem d_246_43 : decode (am_b 246) 43 = .ok (.iand, 1) := by decide +kernel
theorem d_246_44 : decode (am_b 246) 44 = .ok (.iconst 1, 1) := by decide +kernel
theorem d_246_45 : decode (am_b 246) 45 = .ok (.iand, 1) := by decide +kernel
theorem d_246_46 : decode (am_b 246) 46 = .ok (.iconst 1, 1) := by decide +kernel
theorem d_246_47 : decode (am_b 246) 47 = .ok (.if_icmp .ne 16, 3) := by decide +kernel
theorem d_246_50 : decode (am_b 246) 50 = .ok (.iload_n 2, 1) := by decide +kernel
theorem d_246_51 : decode (am_b 246) 51 = .ok (.iconst 1, 1) := by decide +kernel
theorem d_246_52 : decode (am_b 246) 52 = .ok (.aload_n 0, 1) := by decide +kernel
theorem d_246_53 : decode (am_b 246) 53 = .ok (.iload 4, 2) := by decide +kernel
theorem d_246_55 : decode (am_b 246) 55 = .ok (.iload 5, 2) := by decide +kernel
theorem d_246_57 : decode (am_b 246) 57 = .ok (.invokevirtual 130, 3) := by decide +kernel
theorem d_246_60 : decode (am_b 246) 60 = .ok (.ishl, 1) := by decide +kernel
theorem d_246_61 : decode (am_b 246) 61 = .ok (.ior, 1) := by decide +kernel
theorem d_246_62 : decode (am_b 246) 62 = .ok (.istore_n 2, 1) := by decide +kernel
theorem d_246_63 : decode (am_b 246) 63 = .ok (.iinc 5 1, 3) := by decide +kernel
theorem d_246_66 : decode (am_b 246) 66 = .ok (.goto (-40), 3) := by decide +kernel
theorem d_246_69 : decode (am_b 246) 69 = .ok (.iinc 4 1, 3) := by decide +kernel
theorem d_246_72 : decode (am_b 246) 72 = .ok (.goto (-58), 3) := by decide +kernel
theorem d_246_75 : decode (am_b 246) 75 = .ok (.goto (-71), 3) := by decide +kernel
theorem d_246_78 : decode (am_b 246) 78 = .ok (.iload_n 2, 1) := by decide +kernel
theorem d_246_79 : decode (am_b 246) 79 = .ok (.ireturn, 1) := by decide +kernel
theorem d_247_0 : decode (am_b 247) 0 = .ok (.iconst 0, 1) := by decide +kernel
theorem d_247_1 : decode (am_b 247) 1 = .ok (.istore_n 1, 1) := by decide +kernel
theorem d_247_2 : decode (am_b 247) 2 = .ok (.iconst 0, 1) := by decide +kernel
theorem d_247_3 : decode (am_b 247) 3 = .ok (.istore_n 2, 1) := by decide +kernel
theorem d_247_4 : decode (am_b 247) 4 = .ok (.iload_n 2, 1) := by decide +kernel
theorem d_247_5 : decode (am_b 247) 5 = .ok (.bipush 16, 2) := by decide +kernel
theorem d_247_7 : decode (am_b 247) 7 = .ok (.if_icmp .ge 17, 3) := by decide +kernel
theorem d_247_10 : decode (am_b 247) 10 = .ok (.iload_n 1, 1) := by decide +kernel
theorem d_247_11 : decode (am_b 247) 11 = .ok (.iload_n 0, 1) := by decide +kernel
theorem d_247_12 : decode (am_b 247) 12 = .ok (.iload_n 2, 1) := by decide +kernel
theorem d_247_13 : decode (am_b 247) 13 = .ok (.ishr, 1) := by decide +kernel
theorem d_247_14 : decode (am_b 247) 14 = .ok (.iconst 1, 1) := by decide +kernel
theorem d_247_15 : decode (am_b 247) 15 = .ok (.iand, 1) := by decide +kernel
theorem d_247_16 : decode (am_b 247) 16 = .ok (.iadd, 1) := by decide +kernel
theorem d_247_17 : decode (am_b 247) 17 = .ok (.istore_n 1, 1) := by decide +kernel
theorem d_247_18 : decode (am_b 247) 18 = .ok (.iinc 2 1, 3) := by decide +kernel
theorem d_247_21 : decode (am_b 247) 21 = .ok (.goto (-17), 3) := by decide +kernel
theorem d_247_24 : decode (am_b 247) 24 = .ok (.iload_n 1, 1) := by decide +kernel
theorem d_247_25 : decode (am_b 247) 25 = .ok (.ireturn, 1) := by decide +kernel
theorem d_248_0 : decode (am_b 248) 0 = .ok (.aload_n 0, 1) := by decide +kernel
theorem d_248_1 : decode (am_b 248) 1 = .ok (.iload_n 1, 1) := by decide +kernel
theorem d_248_2 : decode (am_b 248) 2 = .ok (.invokevirtual 124, 3) := by decide +kernel
theorem d_248_5 : decode (am_b 248) 5 = .ok (.ifCond .ne 5, 3) := by decide +kernel
theorem d_248_8 : decode (am_b 248) 8 = .ok (.iconst (-1), 1) := by decide +kernel
theorem d_248_9 : decode (am_b 248) 9 = .ok (.ireturn, 1) := by decide +kernel
theorem d_248_10 : decode (am_b 248) 10 = .ok (.aload_n 0, 1) := by decide +kernel
theorem d_248_11 : decode (am_b 248) 11 = .ok (.iload_n 1, 1) := by decide +kernel
theorem d_248_12 : decode (am_b 248) 12 = .ok (.invokevirtual 248, 3) := by decide +kernel
theorem d_248_15 : decode (am_b 248) 15 = .ok (.aload_n 0, 1) := by decide +kernel
theorem d_248_16 : decode (am_b 248) 16 = .ok (.iload_n 2, 1) := by decide +kernel
theorem d_248_17 : decode (am_b 248) 17 = .ok (.invokevirtual 283, 3) := by decide +kernel
theorem d_248_20 : decode (am_b 248) 20 = .ok (.ifCond .eq 11, 3) := by decide +kernel
theorem d_248_23 : decode (am_b 248) 23 = .ok (.aload_n 0, 1) := by decide +kernel
theorem d_248_24 : decode (am_b 248) 24 = .ok (.iload_n 2, 1) := by decide +kernel
theorem d_248_25 : decode (am_b 248) 25 = .ok (.invokevirtual 286, 3) := by decide +kernel
theorem d_248_28 : decode (am_b 248) 28 = .ok (.goto 4, 3) := by decide +kernel
theorem d_248_31 : decode (am_b 248) 31 = .ok (.iconst (-1), 1) := by decide +kernel
theorem d_248_32 : decode (am_b 248) 32 = .ok (.ireturn, 1) := by decide +kernel
theorem d_249_0 : decode (am_b 249) 0 = .ok (.aload_n 0, 1) := by decide +kernel
theorem d_249_1 : decode (am_b 249) 1 = .ok (.iload_n 1, 1) := by decide +kernel
theorem d_249_2 : decode (am_b 249) 2 = .ok (.invokevirtual 124, 3) := by decide +kernel
theorem d_249_5 : decode (am_b 249) 5 = .ok (.ifCond .eq 12, 3) := by decide +kernel
theorem d_249_8 : decode (am_b 249) 8 = .ok (.iload_n 2, 1) := by decide +kernel
theorem d_249_9 : decode (am_b 249) 9 = .ok (.iconst 0, 1) := by decide +kernel
theorem d_249_10 : decode (am_b 249) 10 = .ok (.iconst 1, 1) := by decide +kernel
theorem d_249_11 : decode (am_b 249) 11 = .ok (.invokestatic 106, 3) := by decide +kernel
theorem d_249_14 : decode (am_b 249) 14 = .ok (.ifCond .ne 5, 3) := by decide +kernel
theorem d_249_17 : decode (am_b 249) 17 = .ok (.iconst (-1), 1) := by decide +kernel
theorem d_249_18 : decode (am_b 249) 18 = .ok (.ireturn, 1) := by decide +kernel
theorem d_249_19 : decode (am_b 249) 19 = .ok (.aload_n 0, 1) := by decide +kernel
theorem d_249_20 : decode (am_b 249) 20 = .ok (.iload_n 1, 1) := by decide +kernel
theorem d_249_21 : decode (am_b 249) 21 = .ok (.invokevirtual 248, 3) := by decide +kernel
theorem d_249_24 : decode (am_b 249) 24 = .ok (.iload_n 2, 1) := by decide +kernel
theorem d_249_25 : decode (am_b 249) 25 = .ok (.iconst 1, 1) := by decide +kernel
theorem d_249_26 : decode (am_b 249) 26 = .ok (.if_icmp .ne 14, 3) := by decide +kernel
theorem d_249_29 : decode (am_b 249) 29 = .ok (.aload_n 0, 1) := by decide +kernel
theorem d_249_30 : decode (am_b 249) 30 = .ok (.iconst 0, 1) := by decide +kernel
theorem d_249_31 : decode (am_b 249) 31 = .ok (.invokevirtual 223, 3) := by decide +kernel
theorem d_249_34 : decode (am_b 249) 34 = .ok (.iconst (-1), 1) := by decide +kernel
theorem d_249_35 : decode (am_b 249) 35 = .ok (.if_icmp .ne 5, 3) := by decide +kernel
theorem d_249_38 : decode (am_b 249) 38 = .ok (.iconst (-1), 1) := by decide +kernel
theorem d_249_39 : decode (am_b 249) 39 = .ok (.ireturn, 1) := by decide +kernel
theorem d_249_40 : decode (am_b 249) 40 = .ok (.iconst 0, 1) := by decide +kernel
theorem d_249_41 : decode (am_b 249) 41 = .ok (.istore_n 3, 1) := by decide +kernel
theorem d_249_42 : decode (am_b 249) 42 = .ok (.iconst 1, 1) := by decide +kernel
theorem d_249_43 : decode (am_b 249) 43 = .ok (.istore 4, 2) := by decide +kernel
theorem d_249_45 : decode (am_b 249) 45 = .ok (.iload 4, 2) := by decide +kernel
theorem d_249_47 : decode (am_b 249) 47 = .ok (.iconst 1, 1) := by decide +kernel
theorem d_249_48 : decode (am_b 249) 48 = .ok (.aload_n 0, 1) := by decide +kernel
theorem d_249_49 : decode (am_b 249) 49 = .ok (.getfield 127, 3) := by decide +kernel
theorem d_249_52 : decode (am_b 249) 52 = .ok (.ishl, 1) := by decide +kernel
theorem d_249_53 : decode (am_b 249) 53 = .ok (.if_icmp .ge 42, 3) := by decide +kernel
theorem d_249_56 : decode (am_b 249) 56 = .ok (.iload_n 3, 1) := by decide +kernel
theorem d_249_57 : decode (am_b 249) 57 = .ok (.iload_n 2, 1) := by decide +kernel
theorem d_249_58 : decode (am_b 249) 58 = .ok (.ifCond .ne 15, 3) := by decide +kernel
theorem d_249_61 : decode (am_b 249) 61 = .ok (.aload_n 0, 1) := by decide +kernel
theorem d_249_62 : decode (am_b 249) 62 = .ok (.iload 4, 2) := by decide +kernel
theorem d_249_64 : decode (am_b 249) 64 = .ok (.invokevirtual 289, 3) := by decide +kernel
theorem d_249_67 : decode (am_b 249) 67 = .ok (.ifCond .eq 19, 3) := by decide +kernel
theorem d_249_70 : decode (am_b 249) 70 = .ok (.goto 12, 3) := by decide +kernel
theorem d_249_73 : decode (am_b 249) 73 = .ok (.aload_n 0, 1) := by decide +kernel
theorem d_249_74 : decode (am_b 249) 74 = .ok (.iload 4, 2) := by decide +kernel
theorem d_249_76 : decode (am_b 249) 76 = .ok (.invokevirtual 295, 3) := by decide +kernel
theorem d_249_79 : decode (am_b 249) 79 = .ok (.ifCond .eq 7, 3) := by decide +kernel
theorem d_249_82 : decode (am_b 249) 82 = .ok (.iconst 1, 1) := by decide +kernel
theorem d_249_83 : decode (am_b 249) 83 = .ok (.goto 4, 3) := by decide +kernel
theorem d_249_86 : decode (am_b 249) 86 = .ok (.iconst 0, 1) := by decide +kernel
theorem d_249_87 : decode (am_b 249) 87 = .ok (.iadd, 1) := by decide +kernel
theorem d_249_88 : decode (am_b 249) 88 = .ok (.istore_n 3, 1) := by decide +kernel
theorem d_249_89 : decode (am_b 249) 89 = .ok (.iinc 4 1, 3) := by decide +kernel
theorem d_249_92 : decode (am_b 249) 92 = .ok (.goto (-47), 3) := by decide +kernel
theorem d_249_95 : decode (am_b 249) 95 = .ok (.iload_n 3, 1) := by decide +kernel
theorem d_249_96 : decode (am_b 249) 96 = .ok (.ireturn, 1) := by decide +kernel
theorem d_250_0 : decode (am_b 250) 0 = .ok (.aload_n 0, 1) := by decide +kernel
theorem d_250_1 : decode (am_b 250) 1 = .ok (.iload_n 1, 1) := by decide +kernel
theorem d_250_2 : decode (am_b 250) 2 = .ok (.invokevirtual 124, 3) := by decide +kernel
theorem d_250_5 : decode (am_b 250) 5 = .ok (.ifCond .eq 12, 3) := by decide +kernel
theorem d_250_8 : decode (am_b 250) 8 = .ok (.iload_n 2, 1) := by decide +kernel
theorem d_250_9 : decode (am_b 250) 9 = .ok (.iconst 0, 1) := by decide +kernel
theorem d_250_10 : decode (am_b 250) 10 = .ok (.iconst 1, 1) := by decide +kernel
theorem d_250_11 : decode (am_b 250) 11 = .ok (.invokestatic 106, 3) := by decide +kernel
theorem d_250_14 : decode (am_b 250) 14 = .ok (.ifCond .ne 5, 3) := by decide +kernel
theorem d_250_17 : decode (am_b 250) 17 = .ok (.iconst (-1), 1) := by decide +kernel
theorem d_250_18 : decode (am_b 250) 18 = .ok (.ireturn, 1) := by decide +kernel
theorem d_250_19 : decode (am_b 250) 19 = .ok (.aload_n 0, 1) := by decide +kernel
theorem d_250_20 : decode (am_b 250) 20 = .ok (.iload_n 1, 1) := by decide +kernel
theorem d_250_21 : decode (am_b 250) 21 = .ok (.invokevirtual 248, 3) := by decide +kernel
theorem d_250_24 : decode (am_b 250) 24 = .ok (.iconst 1, 1) := by decide +kernel
theorem d_250_25 : decode (am_b 250) 25 = .ok (.aload_n 0, 1) := by decide +kernel
theorem d_250_26 : decode (am_b 250) 26 = .ok (.getfield 127, 3) := by decide +kernel
theorem d_250_29 : decode (am_b 250) 29 = .ok (.ishl, 1) := by decide +kernel
theorem d_250_30 : decode (am_b 250) 30 = .ok (.iconst 1, 1) := by decide +kernel
theorem d_250_31 : decode (am_b 250) 31 = .ok (.isub, 1) := by decide +kernel
theorem d_250_32 : decode (am_b 250) 32 = .ok (.istore_n 3, 1) := by decide +kernel
theorem d_250_33 : decode (am_b 250) 33 = .ok (.iload_n 3, 1) := by decide +kernel
theorem d_250_34 : decode (am_b 250) 34 = .ok (.istore 4, 2) := by decide +kernel
theorem d_250_36 : decode (am_b 250) 36 = .ok (.iload 4, 2) := by decide +kernel
theorem d_250_38 : decode (am_b 250) 38 = .ok (.ifCond .le 41, 3) := by decide +kernel
theorem d_250_41 : decode (am_b 250) 41 = .ok (.iload 4, 2) := by decide +kernel
theorem d_250_43 : decode (am_b 250) 43 = .ok (.invokestatic 292, 3) := by decide +kernel
theorem d_250_46 : decode (am_b 250) 46 = .ok (.iload_n 3, 1) := by decide +kernel
theorem d_250_47 : decode (am_b 250) 47 = .ok (.invokestatic 292, 3) := by decide +kernel
theorem d_250_50 : decode (am_b 250) 50 = .ok (.if_icmp .gt 23, 3) := by decide +kernel
theorem d_250_53 : decode (am_b 250) 53 = .ok (.aload_n 0, 1) := by decide +kernel
theorem d_250_54 : decode (am_b 250) 54 = .ok (.iload 4, 2) := by decide +kernel
theorem d_250_56 : decode (am_b 250) 56 = .ok (.invokevirtual 286, 3) := by decide +kernel
theorem d_250_59 : decode (am_b 250) 59 = .ok (.iconst 1, 1) := by decide +kernel
theorem d_250_60 : decode (am_b 250) 60 = .ok (.aload_n 0, 1) := by decide +kernel
theorem d_250_61 : decode (am_b 250) 61 = .ok (.getfield 127, 3) := by decide +kernel
theorem d_250_64 : decode (am_b 250) 64 = .ok (.ishl, 1) := by decide +kernel
theorem d_250_65 : decode (am_b 250) 65 = .ok (.iconst 1, 1) := by decide +kernel
theorem d_250_66 : decode (am_b 250) 66 = .ok (.isub, 1) := by decide +kernel
theorem d_250_67 : decode (am_b 250) 67 = .ok (.if_icmp .ne 6, 3) := by decide +kernel
theorem d_250_70 : decode (am_b 250) 70 = .ok (.iload 4, 2) := by decide +kernel
theorem d_250_72 : decode (am_b 250) 72 = .ok (.istore_n 3, 1) := by decide +kernel
theorem d_250_73 : decode (am_b 250) 73 = .ok (.iinc 4 (-1), 3) := by decide +kernel
theorem d_250_76 : decode (am_b 250) 76 = .ok (.goto (-40), 3) := by decide +kernel
theorem d_250_79 : decode (am_b 250) 79 = .ok (.iload_n 2, 1) := by decide +kernel
theorem d_250_80 : decode (am_b 250) 80 = .ok (.ifCond .ne 10, 3) := by decide +kernel
theorem d_250_83 : decode (am_b 250) 83 = .ok (.iload_n 3, 1) := by decide +kernel
theorem d_250_84 : decode (am_b 250) 84 = .ok (.invokestatic 292, 3) := by decide +kernel
theorem d_250_87 : decode (am_b 250) 87 = .ok (.goto 4, 3) := by decide +kernel
theorem d_250_90 : decode (am_b 250) 90 = .ok (.iload_n 3, 1) := by decide +kernel
theorem d_250_91 : decode (am_b 250) 91 = .ok (.ireturn, 1) := by decide +kernel
theorem d_251_0 : decode (am_b 251) 0 = .ok (.aload_n 0, 1) := by decide +kernel
theorem d_251_1 : decode (am_b 251) 1 = .ok (.iload_n 1, 1) := by decide +kernel
theorem d_251_2 : decode (am_b 251) 2 = .ok (.invokevirtual 124, 3) := by decide +kernel
theorem d_251_5 : decode (am_b 251) 5 = .ok (.ifCond .eq 12, 3) := by decide +kernel
theorem d_251_8 : decode (am_b 251) 8 = .ok (.iload_n 2, 1) := by decide +kernel
theorem d_251_9 : decode (am_b 251) 9 = .ok (.iconst 0, 1) := by decide +kernel
theorem d_251_10 : decode (am_b 251) 10 = .ok (.iconst 5, 1) := by decide +kernel
theorem d_251_11 : decode (am_b 251) 11 = .ok (.invokestatic 106, 3) := by decide +kernel
theorem d_251_14 : decode (am_b 251) 14 = .ok (.ifCond .ne 5, 3) := by decide +kernel
theorem d_251_17 : decode (am_b 251) 17 = .ok (.iconst (-1), 1) := by decide +kernel
theorem d_251_18 : decode (am_b 251) 18 = .ok (.ireturn, 1) := by decide +kernel
theorem d_251_19 : decode (am_b 251) 19 = .ok (.aload_n 0, 1) := by decide +kernel
theorem d_251_20 : decode (am_b 251) 20 = .ok (.iload_n 1, 1) := by decide +kernel
theorem d_251_21 : decode (am_b 251) 21 = .ok (.invokevirtual 248, 3) := by decide +kernel
theorem d_251_24 : decode (am_b 251) 24 = .ok (.iconst 0, 1) := by decide +kernel
theorem d_251_25 : decode (am_b 251) 25 = .ok (.istore_n 3, 1) := by decide +kernel
theorem d_251_26 : decode (am_b 251) 26 = .ok (.iconst 0, 1) := by decide +kernel
theorem d_251_27 : decode (am_b 251) 27 = .ok (.istore 4, 2) := by decide +kernel
theorem d_251_29 : decode (am_b 251) 29 = .ok (.iload 4, 2) := by decide +kernel
theorem d_251_31 : decode (am_b 251) 31 = .ok (.aload_n 0, 1) := by decide +kernel
theorem d_251_32 : decode (am_b 251) 32 = .ok (.getfield 127, 3) := by decide +kernel
theorem d_251_35 : decode (am_b 251) 35 = .ok (.if_icmp .ge 124, 3) := by decide +kernel
theorem d_251_38 : decode (am_b 251) 38 = .ok (.aload_n 0, 1) := by decide +kernel
theorem d_251_39 : decode (am_b 251) 39 = .ok (.iload 4, 2) := by decide +kernel
theorem d_251_41 : decode (am_b 251) 41 = .ok (.iconst 0, 1) := by decide +kernel
theorem d_251_42 : decode (am_b 251) 42 = .ok (.invokevirtual 298, 3) := by decide +kernel
theorem d_251_45 : decode (am_b 251) 45 = .ok (.ifCond .eq 27, 3) := by decide +kernel
theorem d_251_48 : decode (am_b 251) 48 = .ok (.aload_n 0, 1) := by decide +kernel
theorem d_251_49 : decode (am_b 251) 49 = .ok (.iload 4, 2) := by decide +kernel
theorem d_251_51 : decode (am_b 251) 51 = .ok (.iconst 1, 1) := by decide +kernel
theorem d_251_52 : decode (am_b 251) 52 = .ok (.invokevirtual 298, 3) := by decide +kernel
theorem d_251_55 : decode (am_b 251) 55 = .ok (.ifCond .eq 17, 3) := by decide +kernel
theorem d_251_58 : decode (am_b 251) 58 = .ok (.aload_n 0, 1) := by decide +kernel
theorem d_251_59 : decode (am_b 251) 59 = .ok (.iload 4, 2) := by decide +kernel
theorem d_251_61 : decode (am_b 251) 61 = .ok (.iconst 2, 1) := by decide +kernel
theorem d_251_62 : decode (am_b 251) 62 = .ok (.invokevirtual 298, 3) := by decide +kernel
theorem d_251_65 : decode (am_b 251) 65 = .ok (.ifCond .eq 7, 3) := by decide +kernel
theorem d_251_68 : decode (am_b 251) 68 = .ok (.iconst 1, 1) := by decide +kernel
theorem d_251_69 : decode (am_b 251) 69 = .ok (.goto 4, 3) := by decide +kernel
theorem d_251_72 : decode (am_b 251) 72 = .ok (.iconst 0, 1) := by decide +kernel
theorem d_251_73 : decode (am_b 251) 73 = .ok (.istore 5, 2) := by decide +kernel
theorem d_251_75 : decode (am_b 251) 75 = .ok (.iload_n 2, 1) := by decide +kernel
theorem d_251_76 : decode (am_b 251) 76 = .ok (.iconst 3, 1) := by decide +kernel
theorem d_251_77 : decode (am_b 251) 77 = .ok (.if_icmp .ge 13, 3) := by decide +kernel
theorem d_251_80 : decode (am_b 251) 80 = .ok (.aload_n 0, 1) := by decide +kernel
theorem d_251_81 : decode (am_b 251) 81 = .ok (.iload 4, 2) := by decide +kernel
theorem d_251_83 : decode (am_b 251) 83 = .ok (.iload_n 2, 1) := by decide +kernel
theorem d_251_84 : decode (am_b 251) 84 = .ok (.invokevirtual 298, 3) := by decide +kernel
theorem d_251_87 : decode (am_b 251) 87 = .ok (.goto 48, 3) := by decide +kernel
theorem d_251_90 : decode (am_b 251) 90 = .ok (.iload_n 2, 1) := by decide +kernel
theorem d_251_91 : decode (am_b 251) 91 = .ok (.iconst 3, 1) := by decide +kernel
theorem d_251_92 : decode (am_b 251) 92 = .ok (.if_icmp .ne 8, 3) := by decide +kernel
theorem d_251_95 : decode (am_b 251) 95 = .ok (.iload 5, 2) := by decide +kernel
theorem d_251_97 : decode (am_b 251) 97 = .ok (.goto 38, 3) := by decide +kernel
theorem d_251_100 : decode (am_b 251) 100 = .ok (.iload_n 2, 1) := by decide +kernel
theorem d_251_101 : decode (am_b 251) 101 = .ok (.iconst 4, 1) := by decide +kernel
theorem d_251_102 : decode (am_b 251) 102 = .ok (.if_icmp .ne 13, 3) := by decide +kernel
theorem d_251_105 : decode (am_b 251) 105 = .ok (.aload_n 0, 1) := by decide +kernel
theorem d_251_106 : decode (am_b 251) 106 = .ok (.iload 4, 2) := by decide +kernel
theorem d_251_108 : decode (am_b 251) 108 = .ok (.iconst 3, 1) := by decide +kernel
theorem d_251_109 : decode (am_b 251) 109 = .ok (.invokevirtual 298, 3) := by decide +kernel
theorem d_251_112 : decode (am_b 251) 112 = .ok (.goto 23, 3) := by decide +kernel
theorem d_251_115 : decode (am_b 251) 115 = .ok (.iload 5, 2) := by decide +kernel
theorem d_251_117 : decode (am_b 251) 117 = .ok (.ifCond .eq 17, 3) := by decide +kernel
theorem d_251_120 : decode (am_b 251) 120 = .ok (.aload_n 0, 1) := by decide +kernel
theorem d_251_121 : decode (am_b 251) 121 = .ok (.iload 4, 2) := by decide +kernel
theorem d_251_123 : decode (am_b 251) 123 = .ok (.iconst 3, 1) := by decide +kernel
theorem d_251_124 : decode (am_b 251) 124 = .ok (.invokevirtual 298, 3) := by decide +kernel
theorem d_251_127 : decode (am_b 251) 127 = .ok (.ifCond .eq 7, 3) := by decide +kernel
theorem d_251_130 : decode (am_b 251) 130 = .ok (.iconst 1, 1) := by decide +kernel
theorem d_251_131 : decode (am_b 251) 131 = .ok (.goto 4, 3) := by decide +kernel
theorem d_251_134 : decode (am_b 251) 134 = .ok (.iconst 0, 1) := by decide +kernel
theorem d_251_135 : decode (am_b 251) 135 = .ok (.istore 6, 2) := by decide +kernel
theorem d_251_137 : decode (am_b 251) 137 = .ok (.iload_n 3, 1) := by decide +kernel
theorem d_251_138 : decode (am_b 251) 138 = .ok (.iload 6, 2) := by decide +kernel
theorem d_251_140 : decode (am_b 251) 140 = .ok (.ifCond .eq 10, 3) := by decide +kernel
theorem d_251_143 : decode (am_b 251) 143 = .ok (.iconst 1, 1) := by decide +kernel
theorem d_251_144 : decode (am_b 251) 144 = .ok (.iload 4, 2) := by decide +kernel
theorem d_251_146 : decode (am_b 251) 146 = .ok (.ishl, 1) := by decide +kernel
theorem d_251_147 : decode (am_b 251) 147 = .ok (.goto 4, 3) := by decide +kernel
theorem d_251_150 : decode (am_b 251) 150 = .ok (.iconst 0, 1) := by decide +kernel
theorem d_251_151 : decode (am_b 251) 151 = .ok (.ior, 1) := by decide +kernel
theorem d_251_152 : decode (am_b 251) 152 = .ok (.istore_n 3, 1) := by decide +kernel
theorem d_251_153 : decode (am_b 251) 153 = .ok (.iinc 4 1, 3) := by decide +kernel
theorem d_251_156 : decode (am_b 251) 156 = .ok (.goto (-127), 3) := by decide +kernel
theorem d_251_159 : decode (am_b 251) 159 = .ok (.iload_n 3, 1) := by decide +kernel
theorem d_251_160 : decode (am_b 251) 160 = .ok (.ireturn, 1) := by decide +kernel
theorem d_252_0 : decode (am_b 252) 0 = .ok (.iconst 0, 1) := by decide +kernel
theorem d_252_1 : decode (am_b 252) 1 = .ok (.istore_n 3, 1) := by decide +kernel
theorem d_252_2 : decode (am_b 252) 2 = .ok (.iload_n 3, 1) := by decide +kernel
theorem d_252_3 : decode (am_b 252) 3 = .ok (.aload_n 0, 1) := by decide +kernel
theorem d_252_4 : decode (am_b 252) 4 = .ok (.getfield 127, 3) := by decide +kernel
theorem d_252_7 : decode (am_b 252) 7 = .ok (.if_icmp .ge 169, 3) := by decide +kernel
theorem d_252_10 : decode (am_b 252) 10 = .ok (.iload_n 2, 1) := by decide +kernel
theorem d_252_11 : decode (am_b 252) 11 = .ok (.iconst 3, 1) := by decide +kernel
theorem d_252_12 : decode (am_b 252) 12 = .ok (.if_icmp .ne 20, 3) := by decide +kernel
theorem d_252_15 : decode (am_b 252) 15 = .ok (.aload_n 0, 1) := by decide +kernel
theorem d_252_16 : decode (am_b 252) 16 = .ok (.iload_n 1, 1) := by decide +kernel
theorem d_252_17 : decode (am_b 252) 17 = .ok (.iload_n 3, 1) := by decide +kernel
theorem d_252_18 : decode (am_b 252) 18 = .ok (.invokevirtual 130, 3) := by decide +kernel
theorem d_252_21 : decode (am_b 252) 21 = .ok (.aload_n 0, 1) := by decide +kernel
theorem d_252_22 : decode (am_b 252) 22 = .ok (.iload_n 3, 1) := by decide +kernel
theorem d_252_23 : decode (am_b 252) 23 = .ok (.iload_n 1, 1) := by decide +kernel
theorem d_252_24 : decode (am_b 252) 24 = .ok (.invokevirtual 130, 3) := by decide +kernel
theorem d_252_27 : decode (am_b 252) 27 = .ok (.if_icmp .eq 5, 3) := by decide +kernel
theorem d_252_30 : decode (am_b 252) 30 = .ok (.iconst 0, 1) := by decide +kernel
theorem d_252_31 : decode (am_b 252) 31 = .ok (.ireturn, 1) := by decide +kernel
theorem d_252_32 : decode (am_b 252) 32 = .ok (.iconst 0, 1) := by decide +kernel
theorem d_252_33 : decode (am_b 252) 33 = .ok (.istore 4, 2) := by decide +kernel
theorem d_252_35 : decode (am_b 252) 35 = .ok (.iload 4, 2) := by decide +kernel
theorem d_252_37 : decode (am_b 252) 37 = .ok (.aload_n 0, 1) := by decide +kernel
theorem d_252_38 : decode (am_b 252) 38 = .ok (.getfield 127, 3) := by decide +kernel
theorem d_252_41 : decode (am_b 252) 41 = .ok (.if_icmp .ge 129, 3) := by decide +kernel
theorem d_252_44 : decode (am_b 252) 44 = .ok (.iload_n 2, 1) := by decide +kernel
theorem d_252_45 : decode (am_b 252) 45 = .ok (.iconst 3, 1) := by decide +kernel
theorem d_252_46 : decode (am_b 252) 46 = .ok (.if_icmp .ge 124, 3) := by decide +kernel
theorem d_252_49 : decode (am_b 252) 49 = .ok (.iload_n 2, 1) := by decide +kernel
theorem d_252_50 : decode (am_b 252) 50 = .ok (.ifCond .ne 18, 3) := by decide +kernel
theorem d_252_53 : decode (am_b 252) 53 = .ok (.aload_n 0, 1) := by decide +kernel
theorem d_252_54 : decode (am_b 252) 54 = .ok (.iload_n 1, 1) := by decide +kernel
theorem d_252_55 : decode (am_b 252) 55 = .ok (.aload_n 0, 1) := by decide +kernel
theorem d_252_56 : decode (am_b 252) 56 = .ok (.iload_n 3, 1) := by decide +kernel
theorem d_252_57 : decode (am_b 252) 57 = .ok (.iload 4, 2) := by decide +kernel
theorem d_252_59 : decode (am_b 252) 59 = .ok (.invokevirtual 130, 3) := by decide +kernel
theorem d_252_62 : decode (am_b 252) 62 = .ok (.invokevirtual 130, 3) := by decide +kernel
theorem d_252_65 : decode (am_b 252) 65 = .ok (.goto 35, 3) := by decide +kernel
theorem d_252_68 : decode (am_b 252) 68 = .ok (.iload_n 2, 1) := by decide +kernel
theorem d_252_69 : decode (am_b 252) 69 = .ok (.iconst 1, 1) := by decide +kernel
theorem d_252_70 : decode (am_b 252) 70 = .ok (.if_icmp .ne 18, 3) := by decide +kernel
theorem d_252_73 : decode (am_b 252) 73 = .ok (.aload_n 0, 1) := by decide +kernel
theorem d_252_74 : decode (am_b 252) 74 = .ok (.iload_n 3, 1) := by decide +kernel
theorem d_252_75 : decode (am_b 252) 75 = .ok (.aload_n 0, 1) := by decide +kernel
theorem d_252_76 : decode (am_b 252) 76 = .ok (.iload_n 1, 1) := by decide +kernel
theorem d_252_77 : decode (am_b 252) 77 = .ok (.iload 4, 2) := by decide +kernel
theorem d_252_79 : decode (am_b 252) 79 = .ok (.invokevirtual 130, 3) := by decide +kernel
theorem d_252_82 : decode (am_b 252) 82 = .ok (.invokevirtual 130, 3) := by decide +kernel
theorem d_252_85 : decode (am_b 252) 85 = .ok (.goto 15, 3) := by decide +kernel
theorem d_252_88 : decode (am_b 252) 88 = .ok (.aload_n 0, 1) := by decide +kernel
theorem d_252_89 : decode (am_b 252) 89 = .ok (.iload_n 3, 1) := by decide +kernel
theorem d_252_90 : decode (am_b 252) 90 = .ok (.aload_n 0, 1) := by decide +kernel
theorem d_252_91 : decode (am_b 252) 91 = .ok (.iload 4, 2) := by decide +kernel
theorem d_252_93 : decode (am_b 252) 93 = .ok (.iload_n 1, 1) := by decide +kernel
theorem d_252_94 : decode (am_b 252) 94 = .ok (.invokevirtual 130, 3) := by decide +kernel
theorem d_252_97 : decode (am_b 252) 97 = .ok (.invokevirtual 130, 3) := by decide +kernel
theorem d_252_100 : decode (am_b 252) 100 = .ok (.istore 5, 2) := by decide +kernel
theorem d_252_102 : decode (am_b 252) 102 = .ok (.iload_n 2, 1) := by decide +kernel
theorem d_252_103 : decode (am_b 252) 103 = .ok (.ifCond .ne 18, 3) := by decide +kernel
theorem d_252_106 : decode (am_b 252) 106 = .ok (.aload_n 0, 1) := by decide +kernel
theorem d_252_107 : decode (am_b 252) 107 = .ok (.aload_n 0, 1) := by decide +kernel
theorem d_252_108 : decode (am_b 252) 108 = .ok (.iload_n 1, 1) := by decide +kernel
theorem d_252_109 : decode (am_b 252) 109 = .ok (.iload_n 3, 1) := by decide +kernel
theorem d_252_110 : decode (am_b 252) 110 = .ok (.invokevirtual 130, 3) := by decide +kernel
theorem d_252_113 : decode (am_b 252) 113 = .ok (.iload 4, 2) := by decide +kernel
theorem d_252_115 : decode (am_b 252) 115 = .ok (.invokevirtual 130, 3) := by decide +kernel
theorem d_252_118 : decode (am_b 252) 118 = .ok (.goto 35, 3) := by decide +kernel
theorem d_252_121 : decode (am_b 252) 121 = .ok (.iload_n 2, 1) := by decide +kernel
theorem d_252_122 : decode (am_b 252) 122 = .ok (.iconst 1, 1) := by decide +kernel
theorem d_252_123 : decode (am_b 252) 123 = .ok (.if_icmp .ne 18, 3) := by decide +kernel
theorem d_252_126 : decode (am_b 252) 126 = .ok (.aload_n 0, 1) := by decide +kernel
theorem d_252_127 : decode (am_b 252) 127 = .ok (.aload_n 0, 1) := by decide +kernel
theorem d_252_128 : decode (am_b 252) 128 = .ok (.iload_n 3, 1) := by decide +kernel
theorem d_252_129 : decode (am_b 252) 129 = .ok (.iload_n 1, 1) := by decide +kernel
theorem d_252_130 : decode (am_b 252) 130 = .ok (.invokevirtual 130, 3) := by decide +kernel
theorem d_252_133 : decode (am_b 252) 133 = .ok (.iload 4, 2) := by decide +kernel
theorem d_252_135 : decode (am_b 252) 135 = .ok (.invokevirtual 130, 3) := by decide +kernel
theorem d_252_138 : decode (am_b 252) 138 = .ok (.goto 15, 3) := by decide +kernel
theorem d_252_141 : decode (am_b 252) 141 = .ok (.aload_n 0, 1) := by decide +kernel
theorem d_252_142 : decode (am_b 252) 142 = .ok (.aload_n 0, 1) := by decide +kernel
theorem d_252_143 : decode (am_b 252) 143 = .ok (.iload_n 3, 1) := by decide +kernel
theorem d_252_144 : decode (am_b 252) 144 = .ok (.iload 4, 2) := by decide +kernel
theorem d_252_146 : decode (am_b 252) 146 = .ok (.invokevirtual 130, 3) := by decide +kernel
theorem d_252_149 : decode (am_b 252) 149 = .ok (.iload_n 1, 1) := by decide +kernel
theorem d_252_150 : decode (am_b 252) 150 = .ok (.invokevirtual 130, 3) := by decide +kernel
theorem d_252_153 : decode (am_b 252) 153 = .ok (.istore 6, 2) := by decide +kernel
theorem d_252_155 : decode (am_b 252) 155 = .ok (.iload 5, 2) := by decide +kernel
theorem d_252_157 : decode (am_b 252) 157 = .ok (.iload 6, 2) := by decide +kernel
theorem d_252_159 : decode (am_b 252) 159 = .ok (.if_icmp .eq 5, 3) := by decide +kernel
theorem d_252_162 : decode (am_b 252) 162 = .ok (.iconst 0, 1) := by decide +kernel
theorem d_252_163 : decode (am_b 252) 163 = .ok (.ireturn, 1) := by decide +kernel
theorem d_252_164 : decode (am_b 252) 164 = .ok (.iinc 4 1, 3) := by decide +kernel
theorem d_252_167 : decode (am_b 252) 167 = .ok (.goto (-132), 3) := by decide +kernel
theorem d_252_170 : decode (am_b 252) 170 = .ok (.iinc 3 1, 3) := by decide +kernel
theorem d_252_173 : decode (am_b 252) 173 = .ok (.goto (-171), 3) := by decide +kernel
theorem d_252_176 : decode (am_b 252) 176 = .ok (.iconst 1, 1) := by decide +kernel
theorem d_252_177 : decode (am_b 252) 177 = .ok (.ireturn, 1) := by decide +kernel
theorem d_253_0 : decode (am_b 253) 0 = .ok (.aload_n 0, 1) := by decide +kernel
theorem d_253_1 : decode (am_b 253) 1 = .ok (.iload_n 1, 1) := by decide +kernel
theorem d_253_2 : decode (am_b 253) 2 = .ok (.invokevirtual 124, 3) := by decide +kernel
theorem d_253_5 : decode (am_b 253) 5 = .ok (.ifCond .eq 12, 3) := by decide +kernel
theorem d_253_8 : decode (am_b 253) 8 = .ok (.iload_n 2, 1) := by decide +kernel
theorem d_253_9 : decode (am_b 253) 9 = .ok (.iconst 0, 1) := by decide +kernel
theorem d_253_10 : decode (am_b 253) 10 = .ok (.iconst 1, 1) := by decide +kernel
theorem d_253_11 : decode (am_b 253) 11 = .ok (.invokestatic 106, 3) := by decide +kernel
theorem d_253_14 : decode (am_b 253) 14 = .ok (.ifCond .ne 5, 3) := by decide +kernel
theorem d_253_17 : decode (am_b 253) 17 = .ok (.iconst (-1), 1) := by decide +kernel
theorem d_253_18 : decode (am_b 253) 18 = .ok (.ireturn, 1) := by decide +kernel
theorem d_253_19 : decode (am_b 253) 19 = .ok (.aload_n 0, 1) := by decide +kernel
theorem d_253_20 : decode (am_b 253) 20 = .ok (.iload_n 1, 1) := by decide +kernel
theorem d_253_21 : decode (am_b 253) 21 = .ok (.invokevirtual 248, 3) := by decide +kernel
theorem d_253_24 : decode (am_b 253) 24 = .ok (.iload_n 2, 1) := by decide +kernel
theorem d_253_25 : decode (am_b 253) 25 = .ok (.ifCond .ne 8, 3) := by decide +kernel
theorem d_253_28 : decode (am_b 253) 28 = .ok (.aload_n 0, 1) := by decide +kernel
theorem d_253_29 : decode (am_b 253) 29 = .ok (.invokevirtual 302, 3) := by decide +kernel
theorem d_253_32 : decode (am_b 253) 32 = .ok (.ireturn, 1) := by decide +kernel
theorem d_253_33 : decode (am_b 253) 33 = .ok (.iconst 0, 1) := by decide +kernel
theorem d_253_34 : decode (am_b 253) 34 = .ok (.istore_n 3, 1) := by decide +kernel
theorem d_253_35 : decode (am_b 253) 35 = .ok (.iconst 0, 1) := by decide +kernel
theorem d_253_36 : decode (am_b 253) 36 = .ok (.istore 4, 2) := by decide +kernel
theorem d_253_38 : decode (am_b 253) 38 = .ok (.iload 4, 2) := by decide +kernel
theorem d_253_40 : decode (am_b 253) 40 = .ok (.aload_n 0, 1) := by decide +kernel
theorem d_253_41 : decode (am_b 253) 41 = .ok (.getfield 127, 3) := by decide +kernel
theorem d_253_44 : decode (am_b 253) 44 = .ok (.if_icmp .ge 54, 3) := by decide +kernel
theorem d_253_47 : decode (am_b 253) 47 = .ok (.iconst 0, 1) := by decide +kernel
theorem d_253_48 : decode (am_b 253) 48 = .ok (.istore 5, 2) := by decide +kernel
theorem d_253_50 : decode (am_b 253) 50 = .ok (.iload 5, 2) := by decide +kernel
theorem d_253_52 : decode (am_b 253) 52 = .ok (.aload_n 0, 1) := by decide +kernel
theorem d_253_53 : decode (am_b 253) 53 = .ok (.getfield 127, 3) := by decide +kernel
theorem d_253_56 : decode (am_b 253) 56 = .ok (.if_icmp .ge 36, 3) := by decide +kernel
theorem d_253_59 : decode (am_b 253) 59 = .ok (.iload_n 3, 1) := by decide +kernel
theorem d_253_60 : decode (am_b 253) 60 = .ok (.aload_n 0, 1) := by decide +kernel
theorem d_253_61 : decode (am_b 253) 61 = .ok (.iload 4, 2) := by decide +kernel
theorem d_253_63 : decode (am_b 253) 63 = .ok (.iload 5, 2) := by decide +kernel
theorem d_253_65 : decode (am_b 253) 65 = .ok (.invokevirtual 130, 3) := by decide +kernel
theorem d_253_68 : decode (am_b 253) 68 = .ok (.aload_n 0, 1) := by decide +kernel
theorem d_253_69 : decode (am_b 253) 69 = .ok (.iload 5, 2) := by decide +kernel
theorem d_253_71 : decode (am_b 253) 71 = .ok (.iload 4, 2) := by decide +kernel
theorem d_253_73 : decode (am_b 253) 73 = .ok (.invokevirtual 130, 3) := by decide +kernel
theorem d_253_76 : decode (am_b 253) 76 = .ok (.if_icmp .ne 7, 3) := by decide +kernel
theorem d_253_79 : decode (am_b 253) 79 = .ok (.iconst 1, 1) := by decide +kernel
theorem d_253_80 : decode (am_b 253) 80 = .ok (.goto 4, 3) := by decide +kernel
theorem d_253_83 : decode (am_b 253) 83 = .ok (.iconst 0, 1) := by decide +kernel
theorem d_253_84 : decode (am_b 253) 84 = .ok (.iadd, 1) := by decide +kernel
theorem d_253_85 : decode (am_b 253) 85 = .ok (.istore_n 3, 1) := by decide +kernel
theorem d_253_86 : decode (am_b 253) 86 = .ok (.iinc 5 1, 3) := by decide +kernel
theorem d_253_89 : decode (am_b 253) 89 = .ok (.goto (-39), 3) := by decide +kernel
theorem d_253_92 : decode (am_b 253) 92 = .ok (.iinc 4 1, 3) := by decide +kernel
theorem d_253_95 : decode (am_b 253) 95 = .ok (.goto (-57), 3) := by decide +kernel
theorem d_253_98 : decode (am_b 253) 98 = .ok (.iload_n 3, 1) := by decide +kernel
theorem d_253_99 : decode (am_b 253) 99 = .ok (.ireturn, 1) := by decide +kernel
theorem d_254_0 : decode (am_b 254) 0 = .ok (.iconst 0, 1) := by decide +kernel
theorem d_254_1 : decode (am_b 254) 1 = .ok (.istore_n 1, 1) := by decide +kernel
theorem d_254_2 : decode (am_b 254) 2 = .ok (.iconst 0, 1) := by decide +kernel
theorem d_254_3 : decode (am_b 254) 3 = .ok (.istore_n 2, 1) := by decide +kernel
theorem d_254_4 : decode (am_b 254) 4 = .ok (.iload_n 2, 1) := by decide +kernel
theorem d_254_5 : decode (am_b 254) 5 = .ok (.aload_n 0, 1) := by decide +kernel
theorem d_254_6 : decode (am_b 254) 6 = .ok (.getfield 127, 3) := by decide +kernel
theorem d_254_9 : decode (am_b 254) 9 = .ok (.if_icmp .ge 78, 3) := by decide +kernel
theorem d_254_12 : decode (am_b 254) 12 = .ok (.iconst 0, 1) := by decide +kernel
theorem d_254_13 : decode (am_b 254) 13 = .ok (.istore_n 3, 1) := by decide +kernel
theorem d_254_14 : decode (am_b 254) 14 = .ok (.iload_n 3, 1) := by decide +kernel
theorem d_254_15 : decode (am_b 254) 15 = .ok (.aload_n 0, 1) := by decide +kernel
theorem d_254_16 : decode (am_b 254) 16 = .ok (.getfield 127, 3) := by decide +kernel
theorem d_254_19 : decode (am_b 254) 19 = .ok (.if_icmp .ge 62, 3) := by decide +kernel
theorem d_254_22 : decode (am_b 254) 22 = .ok (.iconst 0, 1) := by decide +kernel
theorem d_254_23 : decode (am_b 254) 23 = .ok (.istore 4, 2) := by decide +kernel
theorem d_254_25 : decode (am_b 254) 25 = .ok (.iload 4, 2) := by decide +kernel
theorem d_254_27 : decode (am_b 254) 27 = .ok (.aload_n 0, 1) := by decide +kernel
theorem d_254_28 : decode (am_b 254) 28 = .ok (.getfield 127, 3) := by decide +kernel
theorem d_254_31 : decode (am_b 254) 31 = .ok (.if_icmp .ge 44, 3) := by decide +kernel
theorem d_254_34 : decode (am_b 254) 34 = .ok (.iload_n 1, 1) := by decide +kernel
theorem d_254_35 : decode (am_b 254) 35 = .ok (.aload_n 0, 1) := by decide +kernel
theorem d_254_36 : decode (am_b 254) 36 = .ok (.iload_n 2, 1) := by decide +kernel
theorem d_254_37 : decode (am_b 254) 37 = .ok (.aload_n 0, 1) := by decide +kernel
theorem d_254_38 : decode (am_b 254) 38 = .ok (.iload_n 3, 1) := by decide +kernel
theorem d_254_39 : decode (am_b 254) 39 = .ok (.iload 4, 2) := by decide +kernel
theorem d_254_41 : decode (am_b 254) 41 = .ok (.invokevirtual 130, 3) := by decide +kernel
theorem d_254_44 : decode (am_b 254) 44 = .ok (.invokevirtual 130, 3) := by decide +kernel
theorem d_254_47 : decode (am_b 254) 47 = .ok (.aload_n 0, 1) := by decide +kernel
theorem d_254_48 : decode (am_b 254) 48 = .ok (.aload_n 0, 1) := by decide +kernel
theorem d_254_49 : decode (am_b 254) 49 = .ok (.iload_n 2, 1) := by decide +kernel
theorem d_254_50 : decode (am_b 254) 50 = .ok (.iload_n 3, 1) := by decide +kernel
theorem d_254_51 : decode (am_b 254) 51 = .ok (.invokevirtual 130, 3) := by decide +kernel
theorem d_254_54 : decode (am_b 254) 54 = .ok (.iload 4, 2) := by decide +kernel
theorem d_254_56 : decode (am_b 254) 56 = .ok (.invokevirtual 130, 3) := by decide +kernel
theorem d_254_59 : decode (am_b 254) 59 = .ok (.if_icmp .ne 7, 3) := by decide +kernel
theorem d_254_62 : decode (am_b 254) 62 = .ok (.iconst 1, 1) := by decide +kernel
theorem d_254_63 : decode (am_b 254) 63 = .ok (.goto 4, 3) := by decide +kernel
theorem d_254_66 : decode (am_b 254) 66 = .ok (.iconst 0, 1) := by decide +kernel
theorem d_254_67 : decode (am_b 254) 67 = .ok (.iadd, 1) := by decide +kernel
theorem d_254_68 : decode (am_b 254) 68 = .ok (.istore_n 1, 1) := by decide +kernel
theorem d_254_69 : decode (am_b 254) 69 = .ok (.iinc 4 1, 3) := by decide +kernel
theorem d_254_72 : decode (am_b 254) 72 = .ok (.goto (-47), 3) := by decide +kernel
theorem d_254_75 : decode (am_b 254) 75 = .ok (.iinc 3 1, 3) := by decide +kernel
theorem d_254_78 : decode (am_b 254) 78 = .ok (.goto (-64), 3) := by decide +kernel
theorem d_254_81 : decode (am_b 254) 81 = .ok (.iinc 2 1, 3) := by decide +kernel
theorem d_254_84 : decode (am_b 254) 84 = .ok (.goto (-80), 3) := by decide +kernel
theorem d_254_87 : decode (am_b 254) 87 = .ok (.iload_n 1, 1) := by decide +kernel
theorem d_254_88 : decode (am_b 254) 88 = .ok (.ireturn, 1) := by decide +kernel
theorem d_255_0 : decode (am_b 255) 0 = .ok (.aload_n 0, 1) := by decide +kernel
theorem d_255_1 : decode (am_b 255) 1 = .ok (.iload_n 1, 1) := by decide +kernel
theorem d_255_2 : decode (am_b 255) 2 = .ok (.invokevirtual 124, 3) := by decide +kernel
theorem d_255_5 : decode (am_b 255) 5 = .ok (.ifCond .eq 12, 3) := by decide +kernel
theorem d_255_8 : decode (am_b 255) 8 = .ok (.iload_n 2, 1) := by decide +kernel
theorem d_255_9 : decode (am_b 255) 9 = .ok (.iconst 0, 1) := by decide +kernel
theorem d_255_10 : decode (am_b 255) 10 = .ok (.iconst 2, 1) := by decide +kernel
theorem d_255_11 : decode (am_b 255) 11 = .ok (.invokestatic 106, 3) := by decide +kernel
theorem d_255_14 : decode (am_b 255) 14 = .ok (.ifCond .ne 5, 3) := by decide +kernel
theorem d_255_17 : decode (am_b 255) 17 = .ok (.iconst (-1), 1) := by decide +kernel
theorem d_255_18 : decode (am_b 255) 18 = .ok (.ireturn, 1) := by decide +kernel
theorem d_255_19 : decode (am_b 255) 19 = .ok (.aload_n 0, 1) := by decide +kernel
theorem d_255_20 : decode (am_b 255) 20 = .ok (.iload_n 1, 1) := by decide +kernel
theorem d_255_21 : decode (am_b 255) 21 = .ok (.invokevirtual 248, 3) := by decide +kernel
theorem d_255_24 : decode (am_b 255) 24 = .ok (.aload_n 0, 1) := by decide +kernel
theorem d_255_25 : decode (am_b 255) 25 = .ok (.getfield 127, 3) := by decide +kernel
theorem d_255_28 : decode (am_b 255) 28 = .ok (.invokestatic 270, 3) := by decide +kernel
theorem d_255_31 : decode (am_b 255) 31 = .ok (.istore_n 3, 1) := by decide +kernel
theorem d_255_32 : decode (am_b 255) 32 = .ok (.iconst 0, 1) := by decide +kernel
theorem d_255_33 : decode (am_b 255) 33 = .ok (.istore 4, 2) := by decide +kernel
theorem d_255_35 : decode (am_b 255) 35 = .ok (.iload 4, 2) := by decide +kernel
theorem d_255_37 : decode (am_b 255) 37 = .ok (.iload_n 3, 1) := by decide +kernel
theorem d_255_38 : decode (am_b 255) 38 = .ok (.if_icmp .ge 26, 3) := by decide +kernel
theorem d_255_41 : decode (am_b 255) 41 = .ok (.aload_n 0, 1) := by decide +kernel
theorem d_255_42 : decode (am_b 255) 42 = .ok (.getfield 61, 3) := by decide +kernel
theorem d_255_45 : decode (am_b 255) 45 = .ok (.iload 4, 2) := by decide +kernel
theorem d_255_47 : decode (am_b 255) 47 = .ok (.iload 4, 2) := by decide +kernel
theorem d_255_49 : decode (am_b 255) 49 = .ok (.ifCond .ne 7, 3) := by decide +kernel
theorem d_255_52 : decode (am_b 255) 52 = .ok (.iconst 1, 1) := by decide +kernel
theorem d_255_53 : decode (am_b 255) 53 = .ok (.goto 4, 3) := by decide +kernel
theorem d_255_56 : decode (am_b 255) 56 = .ok (.iconst 0, 1) := by decide +kernel
theorem d_255_57 : decode (am_b 255) 57 = .ok (.bastore, 1) := by decide +kernel
theorem d_255_58 : decode (am_b 255) 58 = .ok (.iinc 4 1, 3) := by decide +kernel
theorem d_255_61 : decode (am_b 255) 61 = .ok (.goto (-26), 3) := by decide +kernel
theorem d_255_64 : decode (am_b 255) 64 = .ok (.aload_n 0, 1) := by decide +kernel
theorem d_255_65 : decode (am_b 255) 65 = .ok (.getfield 64, 3) := by decide +kernel
theorem d_255_68 : decode (am_b 255) 68 = .ok (.iconst 0, 1) := by decide +kernel
theorem d_255_69 : decode (am_b 255) 69 = .ok (.iconst 0, 1) := by decide +kernel
theorem d_255_70 : decode (am_b 255) 70 = .ok (.iastore, 1) := by decide +kernel
theorem d_255_71 : decode (am_b 255) 71 = .ok (.iconst 1, 1) := by decide +kernel
theorem d_255_72 : decode (am_b 255) 72 = .ok (.istore 4, 2) := by decide +kernel
theorem d_255_74 : decode (am_b 255) 74 = .ok (.iconst 0, 1) := by decide +kernel
theorem d_255_75 : decode (am_b 255) 75 = .ok (.istore 5, 2) := by decide +kernel
theorem d_255_77 : decode (am_b 255) 77 = .ok (.iload 5, 2) := by decide +kernel
theorem d_255_79 : decode (am_b 255) 79 = .ok (.iload 4, 2) := by decide +kernel
theorem d_255_81 : decode (am_b 255) 81 = .ok (.if_icmp .ge 185, 3) := by decide +kernel
theorem d_255_84 : decode (am_b 255) 84 = .ok (.aload_n 0, 1) := by decide +kernel
theorem d_255_85 : decode (am_b 255) 85 = .ok (.aload_n 0, 1) := by decide +kernel
theorem d_255_86 : decode (am_b 255) 86 = .ok (.getfield 64, 3) := by decide +kernel
theorem d_255_89 : decode (am_b 255) 89 = .ok (.iload 5, 2) := by decide +kernel
theorem d_255_91 : decode (am_b 255) 91 = .ok (.iaload, 1) := by decide +kernel
theorem d_255_92 : decode (am_b 255) 92 = .ok (.aload_n 0, 1) := by decide +kernel
theorem d_255_93 : decode (am_b 255) 93 = .ok (.getfield 127, 3) := by decide +kernel
theorem d_255_96 : decode (am_b 255) 96 = .ok (.invokevirtual 273, 3) := by decide +kernel
theorem d_255_99 : decode (am_b 255) 99 = .ok (.iconst 0, 1) := by decide +kernel
theorem d_255_100 : decode (am_b 255) 100 = .ok (.istore 6, 2) := by decide +kernel
theorem d_255_102 : decode (am_b 255) 102 = .ok (.iload 6, 2) := by decide +kernel
theorem d_255_104 : decode (am_b 255) 104 = .ok (.aload_n 0, 1) := by decide +kernel
theorem d_255_105 : decode (am_b 255) 105 = .ok (.getfield 127, 3) := by decide +kernel
theorem d_255_108 : decode (am_b 255) 108 = .ok (.if_icmp .ge 23, 3) := by decide +kernel
theorem d_255_111 : decode (am_b 255) 111 = .ok (.aload_n 0, 1) := by decide +kernel
theorem d_255_112 : decode (am_b 255) 112 = .ok (.getfield 67, 3) := by decide +kernel
theorem d_255_115 : decode (am_b 255) 115 = .ok (.iload 6, 2) := by decide +kernel
theorem d_255_117 : decode (am_b 255) 117 = .ok (.aload_n 0, 1) := by decide +kernel
theorem d_255_118 : decode (am_b 255) 118 = .ok (.getfield 55, 3) := by decide +kernel
theorem d_255_121 : decode (am_b 255) 121 = .ok (.iload 6, 2) := by decide +kernel
theorem d_255_123 : decode (am_b 255) 123 = .ok (.iaload, 1) := by decide +kernel
theorem d_255_124 : decode (am_b 255) 124 = .ok (.iastore, 1) := by decide +kernel
theorem d_255_125 : decode (am_b 255) 125 = .ok (.iinc 6 1, 3) := by decide +kernel
theorem d_255_128 : decode (am_b 255) 128 = .ok (.goto (-26), 3) := by decide +kernel
theorem d_255_131 : decode (am_b 255) 131 = .ok (.iload_n 2, 1) := by decide +kernel
theorem d_255_132 : decode (am_b 255) 132 = .ok (.iconst 1, 1) := by decide +kernel
theorem d_255_133 : decode (am_b 255) 133 = .ok (.if_icmp .ne 10, 3) := by decide +kernel
theorem d_255_136 : decode (am_b 255) 136 = .ok (.aload_n 0, 1) := by decide +kernel
theorem d_255_137 : decode (am_b 255) 137 = .ok (.getfield 127, 3) := by decide +kernel
theorem d_255_140 : decode (am_b 255) 140 = .ok (.goto 4, 3) := by decide +kernel
theorem d_255_143 : decode (am_b 255) 143 = .ok (.iconst 0, 1) := by decide +kernel
theorem d_255_144 : decode (am_b 255) 144 = .ok (.istore 6, 2) := by decide +kernel
theorem d_255_146 : decode (am_b 255) 146 = .ok (.iload 6, 2) := by decide +kernel
theorem d_255_148 : decode (am_b 255) 148 = .ok (.iload_n 2, 1) := by decide +kernel
theorem d_255_149 : decode (am_b 255) 149 = .ok (.ifCond .ne 10, 3) := by decide +kernel
theorem d_255_152 : decode (am_b 255) 152 = .ok (.aload_n 0, 1) := by decide +kernel
theorem d_255_153 : decode (am_b 255) 153 = .ok (.getfield 127, 3) := by decide +kernel
theorem d_255_156 : decode (am_b 255) 156 = .ok (.goto 9, 3) := by decide +kernel
theorem d_255_159 : decode (am_b 255) 159 = .ok (.iconst 2, 1) := by decide +kernel
theorem d_255_160 : decode (am_b 255) 160 = .ok (.aload_n 0, 1) := by decide +kernel
theorem d_255_161 : decode (am_b 255) 161 = .ok (.getfield 127, 3) := by decide +kernel
theorem d_255_164 : decode (am_b 255) 164 = .ok (.imul, 1) := by decide +kernel
theorem d_255_165 : decode (am_b 255) 165 = .ok (.if_icmp .ge 95, 3) := by decide +kernel
theorem d_255_168 : decode (am_b 255) 168 = .ok (.aload_n 0, 1) := by decide +kernel
theorem d_255_169 : decode (am_b 255) 169 = .ok (.iload 6, 2) := by decide +kernel
theorem d_255_171 : decode (am_b 255) 171 = .ok (.invokevirtual 305, 3) := by decide +kernel
theorem d_255_174 : decode (am_b 255) 174 = .ok (.iconst 0, 1) := by decide +kernel
theorem d_255_175 : decode (am_b 255) 175 = .ok (.istore 7, 2) := by decide +kernel
theorem d_255_177 : decode (am_b 255) 177 = .ok (.iload 7, 2) := by decide +kernel
theorem d_255_179 : decode (am_b 255) 179 = .ok (.aload_n 0, 1) := by decide +kernel
theorem d_255_180 : decode (am_b 255) 180 = .ok (.getfield 127, 3) := by decide +kernel
theorem d_255_183 : decode (am_b 255) 183 = .ok (.if_icmp .ge 28, 3) := by decide +kernel
theorem d_255_186 : decode (am_b 255) 186 = .ok (.aload_n 0, 1) := by decide +kernel
theorem d_255_187 : decode (am_b 255) 187 = .ok (.getfield 55, 3) := by decide +kernel
theorem d_255_190 : decode (am_b 255) 190 = .ok (.iload 7, 2) := by decide +kernel
theorem d_255_192 : decode (am_b 255) 192 = .ok (.aload_n 0, 1) := by decide +kernel
theorem d_255_193 : decode (am_b 255) 193 = .ok (.getfield 70, 3) := by decide +kernel
theorem d_255_196 : decode (am_b 255) 196 = .ok (.aload_n 0, 1) := by decide +kernel
theorem d_255_197 : decode (am_b 255) 197 = .ok (.getfield 67, 3) := by decide +kernel
theorem d_255_200 : decode (am_b 255) 200 = .ok (.iload 7, 2) := by decide +kernel
theorem d_255_202 : decode (am_b 255) 202 = .ok (.iaload, 1) := by decide +kernel
theorem d_255_203 : decode (am_b 255) 203 = .ok (.iaload, 1) := by decide +kernel
theorem d_255_204 : decode (am_b 255) 204 = .ok (.iastore, 1) := by decide +kernel
theorem d_255_205 : decode (am_b 255) 205 = .ok (.iinc 7 1, 3) := by decide +kernel
theorem d_255_208 : decode (am_b 255) 208 = .ok (.goto (-31), 3) := by decide +kernel
theorem d_255_211 : decode (am_b 255) 211 = .ok (.aload_n 0, 1) := by decide +kernel
theorem d_255_212 : decode (am_b 255) 212 = .ok (.aload_n 0, 1) := by decide +kernel
theorem d_255_213 : decode (am_b 255) 213 = .ok (.getfield 55, 3) := by decide +kernel
theorem d_255_216 : decode (am_b 255) 216 = .ok (.invokevirtual 308, 3) := by decide +kernel
theorem d_255_219 : decode (am_b 255) 219 = .ok (.istore 7, 2) := by decide +kernel
theorem d_255_221 : decode (am_b 255) 221 = .ok (.aload_n 0, 1) := by decide +kernel
theorem d_255_222 : decode (am_b 255) 222 = .ok (.getfield 61, 3) := by decide +kernel
theorem d_255_225 : decode (am_b 255) 225 = .ok (.iload 7, 2) := by decide +kernel
theorem d_255_227 : decode (am_b 255) 227 = .ok (.baload, 1) := by decide +kernel
theorem d_255_228 : decode (am_b 255) 228 = .ok (.ifCond .eq 6, 3) := by decide +kernel
theorem d_255_231 : decode (am_b 255) 231 = .ok (.goto 23, 3) := by decide +kernel
theorem d_255_234 : decode (am_b 255) 234 = .ok (.aload_n 0, 1) := by decide +kernel
theorem d_255_235 : decode (am_b 255) 235 = .ok (.getfield 61, 3) := by decide +kernel
theorem d_255_238 : decode (am_b 255) 238 = .ok (.iload 7, 2) := by decide +kernel
theorem d_255_240 : decode (am_b 255) 240 = .ok (.iconst 1, 1) := by decide +kernel
theorem d_255_241 : decode (am_b 255) 241 = .ok (.bastore, 1) := by decide +kernel
theorem d_255_242 : decode (am_b 255) 242 = .ok (.aload_n 0, 1) := by decide +kernel
theorem d_255_243 : decode (am_b 255) 243 = .ok (.getfield 64, 3) := by decide +kernel
theorem d_255_246 : decode (am_b 255) 246 = .ok (.iload 4, 2) := by decide +kernel
theorem d_255_248 : decode (am_b 255) 248 = .ok (.iload 7, 2) := by decide +kernel
theorem d_255_250 : decode (am_b 255) 250 = .ok (.iastore, 1) := by decide +kernel
theorem d_255_251 : decode (am_b 255) 251 = .ok (.iinc 4 1, 3) := by decide +kernel
theorem d_255_254 : decode (am_b 255) 254 = .ok (.iinc 6 1, 3) := by decide +kernel
theorem d_255_257 : decode (am_b 255) 257 = .ok (.goto (-111), 3) := by decide +kernel
theorem d_255_260 : decode (am_b 255) 260 = .ok (.iinc 5 1, 3) := by decide +kernel
theorem d_255_263 : decode (am_b 255) 263 = .ok (.goto (-186), 3) := by decide +kernel
theorem d_255_266 : decode (am_b 255) 266 = .ok (.iload 4, 2) := by decide +kernel
theorem d_255_268 : decode (am_b 255) 268 = .ok (.ireturn, 1) := by decide +kernel
theorem d_256_0 : decode (am_b 256) 0 = .ok (.iconst 0, 1) := by decide +kernel
theorem d_256_1 : decode (am_b 256) 1 = .ok (.istore_n 2, 1) := by decide +kernel
theorem d_256_2 : decode (am_b 256) 2 = .ok (.iload_n 2, 1) := by decide +kernel
theorem d_256_3 : decode (am_b 256) 3 = .ok (.aload_n 0, 1) := by decide +kernel
theorem d_256_4 : decode (am_b 256) 4 = .ok (.getfield 127, 3) := by decide +kernel
theorem d_256_7 : decode (am_b 256) 7 = .ok (.if_icmp .ge 43, 3) := by decide +kernel
theorem d_256_10 : decode (am_b 256) 10 = .ok (.aload_n 0, 1) := by decide +kernel
theorem d_256_11 : decode (am_b 256) 11 = .ok (.getfield 70, 3) := by decide +kernel
theorem d_256_14 : decode (am_b 256) 14 = .ok (.iload_n 2, 1) := by decide +kernel
theorem d_256_15 : decode (am_b 256) 15 = .ok (.iload_n 1, 1) := by decide +kernel
theorem d_256_16 : decode (am_b 256) 16 = .ok (.aload_n 0, 1) := by decide +kernel
theorem d_256_17 : decode (am_b 256) 17 = .ok (.getfield 127, 3) := by decide +kernel
theorem d_256_20 : decode (am_b 256) 20 = .ok (.if_icmp .ge 12, 3) := by decide +kernel
theorem d_256_23 : decode (am_b 256) 23 = .ok (.aload_n 0, 1) := by decide +kernel
theorem d_256_24 : decode (am_b 256) 24 = .ok (.iload_n 1, 1) := by decide +kernel
theorem d_256_25 : decode (am_b 256) 25 = .ok (.iload_n 2, 1) := by decide +kernel
theorem d_256_26 : decode (am_b 256) 26 = .ok (.invokevirtual 130, 3) := by decide +kernel
theorem d_256_29 : decode (am_b 256) 29 = .ok (.goto 14, 3) := by decide +kernel
theorem d_256_32 : decode (am_b 256) 32 = .ok (.aload_n 0, 1) := by decide +kernel
theorem d_256_33 : decode (am_b 256) 33 = .ok (.iload_n 2, 1) := by decide +kernel
theorem d_256_34 : decode (am_b 256) 34 = .ok (.iload_n 1, 1) := by decide +kernel
theorem d_256_35 : decode (am_b 256) 35 = .ok (.aload_n 0, 1) := by decide +kernel
theorem d_256_36 : decode (am_b 256) 36 = .ok (.getfield 127, 3) := by decide +kernel
theorem d_256_39 : decode (am_b 256) 39 = .ok (.isub, 1) := by decide +kernel
theorem d_256_40 : decode (am_b 256) 40 = .ok (.invokevirtual 130, 3) := by decide +kernel
theorem d_256_43 : decode (am_b 256) 43 = .ok (.iastore, 1) := by decide +kernel
theorem d_256_44 : decode (am_b 256) 44 = .ok (.iinc 2 1, 3) := by decide +kernel
theorem d_256_47 : decode (am_b 256) 47 = .ok (.goto (-45), 3) := by decide +kernel
theorem d_256_50 : decode (am_b 256) 50 = .ok (.return_, 1) := by decide +kernel
theorem d_257_0 : decode (am_b 257) 0 = .ok (.iconst 1, 1) := by decide +kernel
theorem d_257_1 : decode (am_b 257) 1 = .ok (.aload_n 0, 1) := by decide +kernel
theorem d_257_2 : decode (am_b 257) 2 = .ok (.getfield 127, 3) := by decide +kernel
theorem d_257_5 : decode (am_b 257) 5 = .ok (.ishl, 1) := by decide +kernel
theorem d_257_6 : decode (am_b 257) 6 = .ok (.iconst 1, 1) := by decide +kernel
theorem d_257_7 : decode (am_b 257) 7 = .ok (.isub, 1) := by decide +kernel
theorem d_257_8 : decode (am_b 257) 8 = .ok (.istore_n 2, 1) := by decide +kernel
theorem d_257_9 : decode (am_b 257) 9 = .ok (.iconst 0, 1) := by decide +kernel
theorem d_257_10 : decode (am_b 257) 10 = .ok (.istore_n 3, 1) := by decide +kernel
theorem d_257_11 : decode (am_b 257) 11 = .ok (.iconst 0, 1) := by decide +kernel
theorem d_257_12 : decode (am_b 257) 12 = .ok (.istore 4, 2) := by decide +kernel
theorem d_257_14 : decode (am_b 257) 14 = .ok (.iload 4, 2) := by decide +kernel
theorem d_257_16 : decode (am_b 257) 16 = .ok (.aload_n 0, 1) := by decide +kernel
theorem d_257_17 : decode (am_b 257) 17 = .ok (.getfield 127, 3) := by decide +kernel
theorem d_257_20 : decode (am_b 257) 20 = .ok (.if_icmp .ge 53, 3) := by decide +kernel
theorem d_257_23 : decode (am_b 257) 23 = .ok (.iload_n 2, 1) := by decide +kernel
theorem d_257_24 : decode (am_b 257) 24 = .ok (.iconst 1, 1) := by decide +kernel
theorem d_257_25 : decode (am_b 257) 25 = .ok (.aload_n 1, 1) := by decide +kernel
theorem d_257_26 : decode (am_b 257) 26 = .ok (.iload 4, 2) := by decide +kernel
theorem d_257_28 : decode (am_b 257) 28 = .ok (.iaload, 1) := by decide +kernel
theorem d_257_29 : decode (am_b 257) 29 = .ok (.ishl, 1) := by decide +kernel
theorem d_257_30 : decode (am_b 257) 30 = .ok (.iconst 1, 1) := by decide +kernel
theorem d_257_31 : decode (am_b 257) 31 = .ok (.isub, 1) := by decide +kernel
theorem d_257_32 : decode (am_b 257) 32 = .ok (.iand, 1) := by decide +kernel
theorem d_257_33 : decode (am_b 257) 33 = .ok (.invokestatic 292, 3) := by decide +kernel
theorem d_257_36 : decode (am_b 257) 36 = .ok (.istore 5, 2) := by decide +kernel
theorem d_257_38 : decode (am_b 257) 38 = .ok (.iload_n 3, 1) := by decide +kernel
theorem d_257_39 : decode (am_b 257) 39 = .ok (.iload 5, 2) := by decide +kernel
theorem d_257_41 : decode (am_b 257) 41 = .ok (.aload_n 0, 1) := by decide +kernel
theorem d_257_42 : decode (am_b 257) 42 = .ok (.getfield 127, 3) := by decide +kernel
theorem d_257_45 : decode (am_b 257) 45 = .ok (.iconst 1, 1) := by decide +kernel
theorem d_257_46 : decode (am_b 257) 46 = .ok (.isub, 1) := by decide +kernel
theorem d_257_47 : decode (am_b 257) 47 = .ok (.iload 4, 2) := by decide +kernel
theorem d_257_49 : decode (am_b 257) 49 = .ok (.isub, 1) := by decide +kernel
theorem d_257_50 : decode (am_b 257) 50 = .ok (.invokestatic 270, 3) := by decide +kernel
theorem d_257_53 : decode (am_b 257) 53 = .ok (.imul, 1) := by decide +kernel
theorem d_257_54 : decode (am_b 257) 54 = .ok (.iadd, 1) := by decide +kernel
theorem d_257_55 : decode (am_b 257) 55 = .ok (.istore_n 3, 1) := by decide +kernel
theorem d_257_56 : decode (am_b 257) 56 = .ok (.iload_n 2, 1) := by decide +kernel
theorem d_257_57 : decode (am_b 257) 57 = .ok (.iconst 1, 1) := by decide +kernel
theorem d_257_58 : decode (am_b 257) 58 = .ok (.aload_n 1, 1) := by decide +kernel
theorem d_257_59 : decode (am_b 257) 59 = .ok (.iload 4, 2) := by decide +kernel
theorem d_257_61 : decode (am_b 257) 61 = .ok (.iaload, 1) := by decide +kernel
theorem d_257_62 : decode (am_b 257) 62 = .ok (.ishl, 1) := by decide +kernel
theorem d_257_63 : decode (am_b 257) 63 = .ok (.iconst (-1), 1) := by decide +kernel
theorem d_257_64 : decode (am_b 257) 64 = .ok (.ixor, 1) := by decide +kernel
theorem d_257_65 : decode (am_b 257) 65 = .ok (.iand, 1) := by decide +kernel
theorem d_257_66 : decode (am_b 257) 66 = .ok (.istore_n 2, 1) := by decide +kernel
theorem d_257_67 : decode (am_b 257) 67 = .ok (.iinc 4 1, 3) := by decide +kernel
theorem d_257_70 : decode (am_b 257) 70 = .ok (.goto (-56), 3) := by decide +kernel
theorem d_257_73 : decode (am_b 257) 73 = .ok (.iload_n 3, 1) := by decide +kernel
theorem d_257_74 : decode (am_b 257) 74 = .ok (.ireturn, 1) := by decide +kernel
theorem d_258_0 : decode (am_b 258) 0 = .ok (.aload_n 0, 1) := by decide +kernel
theorem d_258_1 : decode (am_b 258) 1 = .ok (.iload_n 1, 1) := by decide +kernel
theorem d_258_2 : decode (am_b 258) 2 = .ok (.invokevirtual 124, 3) := by decide +kernel
theorem d_258_5 : decode (am_b 258) 5 = .ok (.ifCond .eq 33, 3) := by decide +kernel
theorem d_258_8 : decode (am_b 258) 8 = .ok (.iload_n 2, 1) := by decide +kernel
theorem d_258_9 : decode (am_b 258) 9 = .ok (.iconst 0, 1) := by decide +kernel
theorem d_258_10 : decode (am_b 258) 10 = .ok (.iconst 2, 1) := by decide +kernel
theorem d_258_11 : decode (am_b 258) 11 = .ok (.invokestatic 106, 3) := by decide +kernel
theorem d_258_14 : decode (am_b 258) 14 = .ok (.ifCond .eq 24, 3) := by decide +kernel
theorem d_258_17 : decode (am_b 258) 17 = .ok (.iload_n 3, 1) := by decide +kernel
theorem d_258_18 : decode (am_b 258) 18 = .ok (.iconst 0, 1) := by decide +kernel
theorem d_258_19 : decode (am_b 258) 19 = .ok (.aload_n 0, 1) := by decide +kernel
theorem d_258_20 : decode (am_b 258) 20 = .ok (.iload_n 1, 1) := by decide +kernel
theorem d_258_21 : decode (am_b 258) 21 = .ok (.invokevirtual 121, 3) := by decide +kernel
theorem d_258_24 : decode (am_b 258) 24 = .ok (.aload_n 0, 1) := by decide +kernel
theorem d_258_25 : decode (am_b 258) 25 = .ok (.iload_n 1, 1) := by decide +kernel
theorem d_258_26 : decode (am_b 258) 26 = .ok (.invokevirtual 121, 3) := by decide +kernel
theorem d_258_29 : decode (am_b 258) 29 = .ok (.imul, 1) := by decide +kernel
theorem d_258_30 : decode (am_b 258) 30 = .ok (.iconst 1, 1) := by decide +kernel
theorem d_258_31 : decode (am_b 258) 31 = .ok (.isub, 1) := by decide +kernel
theorem d_258_32 : decode (am_b 258) 32 = .ok (.invokestatic 106, 3) := by decide +kernel
theorem d_258_35 : decode (am_b 258) 35 = .ok (.ifCond .ne 5, 3) := by decide +kernel
theorem d_258_38 : decode (am_b 258) 38 = .ok (.iconst (-1), 1) := by decide +kernel
theorem d_258_39 : decode (am_b 258) 39 = .ok (.ireturn, 1) := by decide +kernel
theorem d_258_40 : decode (am_b 258) 40 = .ok (.aload_n 0, 1) := by decide +kernel
theorem d_258_41 : decode (am_b 258) 41 = .ok (.iload_n 1, 1) := by decide +kernel
theorem d_258_42 : decode (am_b 258) 42 = .ok (.iload_n 2, 1) := by decide +kernel
theorem d_258_43 : decode (am_b 258) 43 = .ok (.invokevirtual 319, 3) := by decide +kernel
theorem d_258_46 : decode (am_b 258) 46 = .ok (.aload_n 0, 1) := by decide +kernel
theorem d_258_47 : decode (am_b 258) 47 = .ok (.getfield 73, 3) := by decide +kernel
theorem d_258_50 : decode (am_b 258) 50 = .ok (.iload_n 3, 1) := by decide +kernel
theorem d_258_51 : decode (am_b 258) 51 = .ok (.iaload, 1) := by decide +kernel
theorem d_258_52 : decode (am_b 258) 52 = .ok (.ireturn, 1) := by decide +kernel
theorem d_259_0 : decode (am_b 259) 0 = .ok (.aload_n 0, 1) := by decide +kernel
theorem d_259_1 : decode (am_b 259) 1 = .ok (.iconst 0, 1) := by decide +kernel
theorem d_259_2 : decode (am_b 259) 2 = .ok (.putfield 312, 3) := by decide +kernel
theorem d_259_5 : decode (am_b 259) 5 = .ok (.aload_n 0, 1) := by decide +kernel
theorem d_259_6 : decode (am_b 259) 6 = .ok (.iload_n 1, 1) := by decide +kernel
theorem d_259_7 : decode (am_b 259) 7 = .ok (.invokevirtual 248, 3) := by decide +kernel
theorem d_259_10 : decode (am_b 259) 10 = .ok (.iload_n 2, 1) := by decide +kernel
theorem d_259_11 : decode (am_b 259) 11 = .ok (.ifCond .ne 9, 3) := by decide +kernel
theorem d_259_14 : decode (am_b 259) 14 = .ok (.aload_n 0, 1) := by decide +kernel
theorem d_259_15 : decode (am_b 259) 15 = .ok (.iconst (-1), 1) := by decide +kernel
theorem d_259_16 : decode (am_b 259) 16 = .ok (.invokevirtual 316, 3) := by decide +kernel
theorem d_259_19 : decode (am_b 259) 19 = .ok (.return_, 1) := by decide +kernel
theorem d_259_20 : decode (am_b 259) 20 = .ok (.iconst 0, 1) := by decide +kernel
theorem d_259_21 : decode (am_b 259) 21 = .ok (.istore_n 3, 1) := by decide +kernel
theorem d_259_22 : decode (am_b 259) 22 = .ok (.iload_n 3, 1) := by decide +kernel
theorem d_259_23 : decode (am_b 259) 23 = .ok (.iload_n 2, 1) := by decide +kernel
theorem d_259_24 : decode (am_b 259) 24 = .ok (.iconst 2, 1) := by decide +kernel
theorem d_259_25 : decode (am_b 259) 25 = .ok (.if_icmp .ne 8, 3) := by decide +kernel
theorem d_259_28 : decode (am_b 259) 28 = .ok (.bipush 6, 2) := by decide +kernel
theorem d_259_30 : decode (am_b 259) 30 = .ok (.goto 4, 3) := by decide +kernel
theorem d_259_33 : decode (am_b 259) 33 = .ok (.iconst 1, 1) := by decide +kernel
theorem d_259_34 : decode (am_b 259) 34 = .ok (.if_icmp .ge 160, 3) := by decide +kernel
theorem d_259_37 : decode (am_b 259) 37 = .ok (.iconst 0, 1) := by decide +kernel
theorem d_259_38 : decode (am_b 259) 38 = .ok (.istore 4, 2) := by decide +kernel
theorem d_259_40 : decode (am_b 259) 40 = .ok (.iload 4, 2) := by decide +kernel
theorem d_259_42 : decode (am_b 259) 42 = .ok (.aload_n 0, 1) := by decide +kernel
theorem d_259_43 : decode (am_b 259) 43 = .ok (.getfield 127, 3) := by decide +kernel
theorem d_259_46 : decode (am_b 259) 46 = .ok (.aload_n 0, 1) := by decide +kernel
theorem d_259_47 : decode (am_b 259) 47 = .ok (.getfield 127, 3) := by decide +kernel
theorem d_259_50 : decode (am_b 259) 50 = .ok (.imul, 1) := by decide +kernel
theorem d_259_51 : decode (am_b 259) 51 = .ok (.if_icmp .ge 137, 3) := by decide +kernel
theorem d_259_54 : decode (am_b 259) 54 = .ok (.aload_n 0, 1) := by decide +kernel
theorem d_259_55 : decode (am_b 259) 55 = .ok (.iload_n 1, 1) := by decide +kernel
theorem d_259_56 : decode (am_b 259) 56 = .ok (.invokevirtual 248, 3) := by decide +kernel
theorem d_259_59 : decode (am_b 259) 59 = .ok (.aload_n 0, 1) := by decide +kernel
theorem d_259_60 : decode (am_b 259) 60 = .ok (.iload_n 3, 1) := by decide +kernel
theorem d_259_61 : decode (am_b 259) 61 = .ok (.invokevirtual 267, 3) := by decide +kernel
theorem d_259_64 : decode (am_b 259) 64 = .ok (.iconst 0, 1) := by decide +kernel
theorem d_259_65 : decode (am_b 259) 65 = .ok (.istore 5, 2) := by decide +kernel
theorem d_259_67 : decode (am_b 259) 67 = .ok (.iload 5, 2) := by decide +kernel
theorem d_259_69 : decode (am_b 259) 69 = .ok (.aload_n 0, 1) := by decide +kernel
theorem d_259_70 : decode (am_b 259) 70 = .ok (.getfield 127, 3) := by decide +kernel
theorem d_259_73 : decode (am_b 259) 73 = .ok (.aload_n 0, 1) := by decide +kernel
theorem d_259_74 : decode (am_b 259) 74 = .ok (.getfield 127, 3) := by decide +kernel
theorem d_259_77 : decode (am_b 259) 77 = .ok (.imul, 1) := by decide +kernel
theorem d_259_78 : decode (am_b 259) 78 = .ok (.if_icmp .ge 23, 3) := by decide +kernel
theorem d_259_81 : decode (am_b 259) 81 = .ok (.aload_n 0, 1) := by decide +kernel
theorem d_259_82 : decode (am_b 259) 82 = .ok (.getfield 23, 3) := by decide +kernel
theorem d_259_85 : decode (am_b 259) 85 = .ok (.iload 5, 2) := by decide +kernel
theorem d_259_87 : decode (am_b 259) 87 = .ok (.aload_n 0, 1) := by decide +kernel
theorem d_259_88 : decode (am_b 259) 88 = .ok (.getfield 26, 3) := by decide +kernel
theorem d_259_91 : decode (am_b 259) 91 = .ok (.iload 5, 2) := by decide +kernel
theorem d_259_93 : decode (am_b 259) 93 = .ok (.iaload, 1) := by decide +kernel
theorem d_259_94 : decode (am_b 259) 94 = .ok (.iastore, 1) := by decide +kernel
theorem d_259_95 : decode (am_b 259) 95 = .ok (.iinc 5 1, 3) := by decide +kernel
theorem d_259_98 : decode (am_b 259) 98 = .ok (.goto (-31), 3) := by decide +kernel
theorem d_259_101 : decode (am_b 259) 101 = .ok (.aload_n 0, 1) := by decide +kernel
theorem d_259_102 : decode (am_b 259) 102 = .ok (.iload 4, 2) := by decide +kernel
theorem d_259_104 : decode (am_b 259) 104 = .ok (.aload_n 0, 1) := by decide +kernel
theorem d_259_105 : decode (am_b 259) 105 = .ok (.getfield 127, 3) := by decide +kernel
theorem d_259_108 : decode (am_b 259) 108 = .ok (.idiv, 1) := by decide +kernel
theorem d_259_109 : decode (am_b 259) 109 = .ok (.iload 4, 2) := by decide +kernel
theorem d_259_111 : decode (am_b 259) 111 = .ok (.aload_n 0, 1) := by decide +kernel
theorem d_259_112 : decode (am_b 259) 112 = .ok (.getfield 127, 3) := by decide +kernel
theorem d_259_115 : decode (am_b 259) 115 = .ok (.irem, 1) := by decide +kernel
theorem d_259_116 : decode (am_b 259) 116 = .ok (.invokevirtual 130, 3) := by decide +kernel
theorem d_259_119 : decode (am_b 259) 119 = .ok (.istore 5, 2) := by decide +kernel
theorem d_259_121 : decode (am_b 259) 121 = .ok (.aload_n 0, 1) := by decide +kernel
theorem d_259_122 : decode (am_b 259) 122 = .ok (.iload 4, 2) := by decide +kernel
theorem d_259_124 : decode (am_b 259) 124 = .ok (.aload_n 0, 1) := by decide +kernel
theorem d_259_125 : decode (am_b 259) 125 = .ok (.getfield 127, 3) := by decide +kernel
theorem d_259_128 : decode (am_b 259) 128 = .ok (.idiv, 1) := by decide +kernel
theorem d_259_129 : decode (am_b 259) 129 = .ok (.iload 4, 2) := by decide +kernel
theorem d_259_131 : decode (am_b 259) 131 = .ok (.aload_n 0, 1) := by decide +kernel
theorem d_259_132 : decode (am_b 259) 132 = .ok (.getfield 127, 3) := by decide +kernel
theorem d_259_135 : decode (am_b 259) 135 = .ok (.irem, 1) := by decide +kernel
theorem d_259_136 : decode (am_b 259) 136 = .ok (.invokevirtual 263, 3) := by decide +kernel
theorem d_259_139 : decode (am_b 259) 139 = .ok (.iconst 0, 1) := by decide +kernel
theorem d_259_140 : decode (am_b 259) 140 = .ok (.istore 6, 2) := by decide +kernel
theorem d_259_142 : decode (am_b 259) 142 = .ok (.iload 6, 2) := by decide +kernel
theorem d_259_144 : decode (am_b 259) 144 = .ok (.aload_n 0, 1) := by decide +kernel
theorem d_259_145 : decode (am_b 259) 145 = .ok (.getfield 127, 3) := by decide +kernel
theorem d_259_148 : decode (am_b 259) 148 = .ok (.aload_n 0, 1) := by decide +kernel
theorem d_259_149 : decode (am_b 259) 149 = .ok (.getfield 127, 3) := by decide +kernel
theorem d_259_152 : decode (am_b 259) 152 = .ok (.imul, 1) := by decide +kernel
theorem d_259_153 : decode (am_b 259) 153 = .ok (.if_icmp .ge 23, 3) := by decide +kernel
theorem d_259_156 : decode (am_b 259) 156 = .ok (.aload_n 0, 1) := by decide +kernel
theorem d_259_157 : decode (am_b 259) 157 = .ok (.getfield 23, 3) := by decide +kernel
theorem d_259_160 : decode (am_b 259) 160 = .ok (.iload 6, 2) := by decide +kernel
theorem d_259_162 : decode (am_b 259) 162 = .ok (.aload_n 0, 1) := by decide +kernel
theorem d_259_163 : decode (am_b 259) 163 = .ok (.getfield 26, 3) := by decide +kernel
theorem d_259_166 : decode (am_b 259) 166 = .ok (.iload 6, 2) := by decide +kernel
theorem d_259_168 : decode (am_b 259) 168 = .ok (.iaload, 1) := by decide +kernel
theorem d_259_169 : decode (am_b 259) 169 = .ok (.iastore, 1) := by decide +kernel
theorem d_259_170 : decode (am_b 259) 170 = .ok (.iinc 6 1, 3) := by decide +kernel
theorem d_259_173 : decode (am_b 259) 173 = .ok (.goto (-31), 3) := by decide +kernel
theorem d_259_176 : decode (am_b 259) 176 = .ok (.aload_n 0, 1) := by decide +kernel
theorem d_259_177 : decode (am_b 259) 177 = .ok (.iload 5, 2) := by decide +kernel
theorem d_259_179 : decode (am_b 259) 179 = .ok (.invokevirtual 316, 3) := by decide +kernel
theorem d_259_182 : decode (am_b 259) 182 = .ok (.iinc 4 1, 3) := by decide +kernel
theorem d_259_185 : decode (am_b 259) 185 = .ok (.goto (-145), 3) := by decide +kernel
theorem d_259_188 : decode (am_b 259) 188 = .ok (.iinc 3 1, 3) := by decide +kernel
theorem d_259_191 : decode (am_b 259) 191 = .ok (.goto (-169), 3) := by decide +kernel
theorem d_259_194 : decode (am_b 259) 194 = .ok (.return_, 1) := by decide +kernel
