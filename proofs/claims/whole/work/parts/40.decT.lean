/-! decode rows, printed by wip/whole/gen_decparts.py -/
theorem d_89_0 : decode (am_b 89) 0 = .ok (.aload_n 0, 1) := by decide +kernel
theorem d_89_1 : decode (am_b 89) 1 = .ok (.invokespecial 3, 3) := by decide +kernel
theorem d_89_4 : decode (am_b 89) 4 = .ok (.aload_n 0, 1) := by decide +kernel
theorem d_89_5 : decode (am_b 89) 5 = .ok (.bipush 36, 2) := by decide +kernel
theorem d_89_7 : decode (am_b 89) 7 = .ok (.newarray .int, 2) := by decide +kernel
theorem d_89_9 : decode (am_b 89) 9 = .ok (.putfield 9, 3) := by decide +kernel
theorem d_89_12 : decode (am_b 89) 12 = .ok (.return_, 1) := by decide +kernel
theorem d_90_0 : decode (am_b 90) 0 = .ok (.iconst 1, 1) := by decide +kernel
theorem d_90_1 : decode (am_b 90) 1 = .ok (.aload_n 0, 1) := by decide +kernel
theorem d_90_2 : decode (am_b 90) 2 = .ok (.getfield 15, 3) := by decide +kernel
theorem d_90_5 : decode (am_b 90) 5 = .ok (.ishl, 1) := by decide +kernel
theorem d_90_6 : decode (am_b 90) 6 = .ok (.iconst 1, 1) := by decide +kernel
theorem d_90_7 : decode (am_b 90) 7 = .ok (.isub, 1) := by decide +kernel
theorem d_90_8 : decode (am_b 90) 8 = .ok (.istore_n 1, 1) := by decide +kernel
theorem d_90_9 : decode (am_b 90) 9 = .ok (.iconst 0, 1) := by decide +kernel
theorem d_90_10 : decode (am_b 90) 10 = .ok (.istore_n 2, 1) := by decide +kernel
theorem d_90_11 : decode (am_b 90) 11 = .ok (.iload_n 2, 1) := by decide +kernel
theorem d_90_12 : decode (am_b 90) 12 = .ok (.aload_n 0, 1) := by decide +kernel
theorem d_90_13 : decode (am_b 90) 13 = .ok (.getfield 15, 3) := by decide +kernel
theorem d_90_16 : decode (am_b 90) 16 = .ok (.if_icmp .ge 101, 3) := by decide +kernel
theorem d_90_19 : decode (am_b 90) 19 = .ok (.iconst 0, 1) := by decide +kernel
theorem d_90_20 : decode (am_b 90) 20 = .ok (.istore_n 3, 1) := by decide +kernel
theorem d_90_21 : decode (am_b 90) 21 = .ok (.iconst 0, 1) := by decide +kernel
theorem d_90_22 : decode (am_b 90) 22 = .ok (.istore 4, 2) := by decide +kernel
theorem d_90_24 : decode (am_b 90) 24 = .ok (.iconst 0, 1) := by decide +kernel
theorem d_90_25 : decode (am_b 90) 25 = .ok (.istore 5, 2) := by decide +kernel
theorem d_90_27 : decode (am_b 90) 27 = .ok (.iload 5, 2) := by decide +kernel
theorem d_90_29 : decode (am_b 90) 29 = .ok (.aload_n 0, 1) := by decide +kernel
theorem d_90_30 : decode (am_b 90) 30 = .ok (.getfield 15, 3) := by decide +kernel
theorem d_90_33 : decode (am_b 90) 33 = .ok (.if_icmp .ge 65, 3) := by decide +kernel
theorem d_90_36 : decode (am_b 90) 36 = .ok (.aload_n 0, 1) := by decide +kernel
theorem d_90_37 : decode (am_b 90) 37 = .ok (.aload_n 0, 1) := by decide +kernel
theorem d_90_38 : decode (am_b 90) 38 = .ok (.iload_n 2, 1) := by decide +kernel
theorem d_90_39 : decode (am_b 90) 39 = .ok (.iload 5, 2) := by decide +kernel
theorem d_90_41 : decode (am_b 90) 41 = .ok (.invokevirtual 23, 3) := by decide +kernel
theorem d_90_44 : decode (am_b 90) 44 = .ok (.invokevirtual 19, 3) := by decide +kernel
theorem d_90_47 : decode (am_b 90) 47 = .ok (.ifCond .eq 17, 3) := by decide +kernel
theorem d_90_50 : decode (am_b 90) 50 = .ok (.aload_n 0, 1) := by decide +kernel
theorem d_90_51 : decode (am_b 90) 51 = .ok (.aload_n 0, 1) := by decide +kernel
theorem d_90_52 : decode (am_b 90) 52 = .ok (.iload 5, 2) := by decide +kernel
theorem d_90_54 : decode (am_b 90) 54 = .ok (.iload_n 2, 1) := by decide +kernel
theorem d_90_55 : decode (am_b 90) 55 = .ok (.invokevirtual 23, 3) := by decide +kernel
theorem d_90_58 : decode (am_b 90) 58 = .ok (.invokevirtual 19, 3) := by decide +kernel
theorem d_90_61 : decode (am_b 90) 61 = .ok (.ifCond .ne 5, 3) := by decide +kernel
theorem d_90_64 : decode (am_b 90) 64 = .ok (.iconst 0, 1) := by decide +kernel
theorem d_90_65 : decode (am_b 90) 65 = .ok (.ireturn, 1) := by decide +kernel
theorem d_90_66 : decode (am_b 90) 66 = .ok (.iload_n 3, 1) := by decide +kernel
theorem d_90_67 : decode (am_b 90) 67 = .ok (.iconst 1, 1) := by decide +kernel
theorem d_90_68 : decode (am_b 90) 68 = .ok (.aload_n 0, 1) := by decide +kernel
theorem d_90_69 : decode (am_b 90) 69 = .ok (.iload_n 2, 1) := by decide +kernel
theorem d_90_70 : decode (am_b 90) 70 = .ok (.iload 5, 2) := by decide +kernel
theorem d_90_72 : decode (am_b 90) 72 = .ok (.invokevirtual 23, 3) := by decide +kernel
theorem d_90_75 : decode (am_b 90) 75 = .ok (.ishl, 1) := by decide +kernel
theorem d_90_76 : decode (am_b 90) 76 = .ok (.ior, 1) := by decide +kernel
theorem d_90_77 : decode (am_b 90) 77 = .ok (.istore_n 3, 1) := by decide +kernel
theorem d_90_78 : decode (am_b 90) 78 = .ok (.iload 4, 2) := by decide +kernel
theorem d_90_80 : decode (am_b 90) 80 = .ok (.iconst 1, 1) := by decide +kernel
theorem d_90_81 : decode (am_b 90) 81 = .ok (.aload_n 0, 1) := by decide +kernel
theorem d_90_82 : decode (am_b 90) 82 = .ok (.iload 5, 2) := by decide +kernel
theorem d_90_84 : decode (am_b 90) 84 = .ok (.iload_n 2, 1) := by decide +kernel
theorem d_90_85 : decode (am_b 90) 85 = .ok (.invokevirtual 23, 3) := by decide +kernel
theorem d_90_88 : decode (am_b 90) 88 = .ok (.ishl, 1) := by decide +kernel
theorem d_90_89 : decode (am_b 90) 89 = .ok (.ior, 1) := by decide +kernel
theorem d_90_90 : decode (am_b 90) 90 = .ok (.istore 4, 2) := by decide +kernel
theorem d_90_92 : decode (am_b 90) 92 = .ok (.iinc 5 1, 3) := by decide +kernel
theorem d_90_95 : decode (am_b 90) 95 = .ok (.goto (-68), 3) := by decide +kernel
theorem d_90_98 : decode (am_b 90) 98 = .ok (.iload_n 3, 1) := by decide +kernel
theorem d_90_99 : decode (am_b 90) 99 = .ok (.iload_n 1, 1) := by decide +kernel
theorem d_90_100 : decode (am_b 90) 100 = .ok (.if_icmp .ne 9, 3) := by decide +kernel
theorem d_90_103 : decode (am_b 90) 103 = .ok (.iload 4, 2) := by decide +kernel
theorem d_90_105 : decode (am_b 90) 105 = .ok (.iload_n 1, 1) := by decide +kernel
theorem d_90_106 : decode (am_b 90) 106 = .ok (.if_icmp .eq 5, 3) := by decide +kernel
theorem d_90_109 : decode (am_b 90) 109 = .ok (.iconst 0, 1) := by decide +kernel
theorem d_90_110 : decode (am_b 90) 110 = .ok (.ireturn, 1) := by decide +kernel
theorem d_90_111 : decode (am_b 90) 111 = .ok (.iinc 2 1, 3) := by decide +kernel
theorem d_90_114 : decode (am_b 90) 114 = .ok (.goto (-103), 3) := by decide +kernel
theorem d_90_117 : decode (am_b 90) 117 = .ok (.iconst 1, 1) := by decide +kernel
theorem d_90_118 : decode (am_b 90) 118 = .ok (.ireturn, 1) := by decide +kernel
theorem d_91_0 : decode (am_b 91) 0 = .ok (.aload_n 0, 1) := by decide +kernel
theorem d_91_1 : decode (am_b 91) 1 = .ok (.getfield 9, 3) := by decide +kernel
theorem d_91_4 : decode (am_b 91) 4 = .ok (.aload_n 0, 1) := by decide +kernel
theorem d_91_5 : decode (am_b 91) 5 = .ok (.getfield 15, 3) := by decide +kernel
theorem d_91_8 : decode (am_b 91) 8 = .ok (.iload_n 1, 1) := by decide +kernel
theorem d_91_9 : decode (am_b 91) 9 = .ok (.imul, 1) := by decide +kernel
theorem d_91_10 : decode (am_b 91) 10 = .ok (.iload_n 2, 1) := by decide +kernel
theorem d_91_11 : decode (am_b 91) 11 = .ok (.iadd, 1) := by decide +kernel
theorem d_91_12 : decode (am_b 91) 12 = .ok (.iaload, 1) := by decide +kernel
theorem d_91_13 : decode (am_b 91) 13 = .ok (.ireturn, 1) := by decide +kernel
theorem d_92_0 : decode (am_b 92) 0 = .ok (.iload_n 1, 1) := by decide +kernel
theorem d_92_1 : decode (am_b 92) 1 = .ok (.ifCond .lt 15, 3) := by decide +kernel
theorem d_92_4 : decode (am_b 92) 4 = .ok (.iload_n 1, 1) := by decide +kernel
theorem d_92_5 : decode (am_b 92) 5 = .ok (.aload_n 0, 1) := by decide +kernel
theorem d_92_6 : decode (am_b 92) 6 = .ok (.getfield 15, 3) := by decide +kernel
theorem d_92_9 : decode (am_b 92) 9 = .ok (.if_icmp .ge 7, 3) := by decide +kernel
theorem d_92_12 : decode (am_b 92) 12 = .ok (.iconst 1, 1) := by decide +kernel
theorem d_92_13 : decode (am_b 92) 13 = .ok (.goto 4, 3) := by decide +kernel
theorem d_92_16 : decode (am_b 92) 16 = .ok (.iconst 0, 1) := by decide +kernel
theorem d_92_17 : decode (am_b 92) 17 = .ok (.ireturn, 1) := by decide +kernel
theorem d_93_0 : decode (am_b 93) 0 = .ok (.aload_n 0, 1) := by decide +kernel
theorem d_93_1 : decode (am_b 93) 1 = .ok (.aload_n 1, 1) := by decide +kernel
theorem d_93_2 : decode (am_b 93) 2 = .ok (.getfield 15, 3) := by decide +kernel
theorem d_93_5 : decode (am_b 93) 5 = .ok (.putfield 15, 3) := by decide +kernel
theorem d_93_8 : decode (am_b 93) 8 = .ok (.aload_n 1, 1) := by decide +kernel
theorem d_93_9 : decode (am_b 93) 9 = .ok (.getfield 9, 3) := by decide +kernel
theorem d_93_12 : decode (am_b 93) 12 = .ok (.iconst 0, 1) := by decide +kernel
theorem d_93_13 : decode (am_b 93) 13 = .ok (.aload_n 0, 1) := by decide +kernel
theorem d_93_14 : decode (am_b 93) 14 = .ok (.getfield 9, 3) := by decide +kernel
theorem d_93_17 : decode (am_b 93) 17 = .ok (.iconst 0, 1) := by decide +kernel
theorem d_93_18 : decode (am_b 93) 18 = .ok (.bipush 36, 2) := by decide +kernel
theorem d_93_20 : decode (am_b 93) 20 = .ok (.invokestatic 27, 3) := by decide +kernel
theorem d_93_23 : decode (am_b 93) 23 = .ok (.return_, 1) := by decide +kernel
theorem d_94_0 : decode (am_b 94) 0 = .ok (.aload_n 0, 1) := by decide +kernel
theorem d_94_1 : decode (am_b 94) 1 = .ok (.iload_n 1, 1) := by decide +kernel
theorem d_94_2 : decode (am_b 94) 2 = .ok (.putfield 15, 3) := by decide +kernel
theorem d_94_5 : decode (am_b 94) 5 = .ok (.iconst 0, 1) := by decide +kernel
theorem d_94_6 : decode (am_b 94) 6 = .ok (.istore_n 2, 1) := by decide +kernel
theorem d_94_7 : decode (am_b 94) 7 = .ok (.iload_n 2, 1) := by decide +kernel
theorem d_94_8 : decode (am_b 94) 8 = .ok (.iload_n 1, 1) := by decide +kernel
theorem d_94_9 : decode (am_b 94) 9 = .ok (.if_icmp .ge 46, 3) := by decide +kernel
theorem d_94_12 : decode (am_b 94) 12 = .ok (.iconst 0, 1) := by decide +kernel
theorem d_94_13 : decode (am_b 94) 13 = .ok (.istore_n 3, 1) := by decide +kernel
theorem d_94_14 : decode (am_b 94) 14 = .ok (.iload_n 3, 1) := by decide +kernel
theorem d_94_15 : decode (am_b 94) 15 = .ok (.iload_n 1, 1) := by decide +kernel
theorem d_94_16 : decode (am_b 94) 16 = .ok (.if_icmp .ge 33, 3) := by decide +kernel
theorem d_94_19 : decode (am_b 94) 19 = .ok (.aload_n 0, 1) := by decide +kernel
theorem d_94_20 : decode (am_b 94) 20 = .ok (.iload_n 2, 1) := by decide +kernel
theorem d_94_21 : decode (am_b 94) 21 = .ok (.iload_n 3, 1) := by decide +kernel
theorem d_94_22 : decode (am_b 94) 22 = .ok (.iload_n 2, 1) := by decide +kernel
theorem d_94_23 : decode (am_b 94) 23 = .ok (.iload_n 3, 1) := by decide +kernel
theorem d_94_24 : decode (am_b 94) 24 = .ok (.iadd, 1) := by decide +kernel
theorem d_94_25 : decode (am_b 94) 25 = .ok (.iload_n 1, 1) := by decide +kernel
theorem d_94_26 : decode (am_b 94) 26 = .ok (.if_icmp .ge 9, 3) := by decide +kernel
theorem d_94_29 : decode (am_b 94) 29 = .ok (.iload_n 2, 1) := by decide +kernel
theorem d_94_30 : decode (am_b 94) 30 = .ok (.iload_n 3, 1) := by decide +kernel
theorem d_94_31 : decode (am_b 94) 31 = .ok (.iadd, 1) := by decide +kernel
theorem d_94_32 : decode (am_b 94) 32 = .ok (.goto 8, 3) := by decide +kernel
theorem d_94_35 : decode (am_b 94) 35 = .ok (.iload_n 2, 1) := by decide +kernel
theorem d_94_36 : decode (am_b 94) 36 = .ok (.iload_n 3, 1) := by decide +kernel
theorem d_94_37 : decode (am_b 94) 37 = .ok (.iadd, 1) := by decide +kernel
theorem d_94_38 : decode (am_b 94) 38 = .ok (.iload_n 1, 1) := by decide +kernel
theorem d_94_39 : decode (am_b 94) 39 = .ok (.isub, 1) := by decide +kernel
theorem d_94_40 : decode (am_b 94) 40 = .ok (.invokevirtual 33, 3) := by decide +kernel
theorem d_94_43 : decode (am_b 94) 43 = .ok (.iinc 3 1, 3) := by decide +kernel
theorem d_94_46 : decode (am_b 94) 46 = .ok (.goto (-32), 3) := by decide +kernel
theorem d_94_49 : decode (am_b 94) 49 = .ok (.iinc 2 1, 3) := by decide +kernel
theorem d_94_52 : decode (am_b 94) 52 = .ok (.goto (-45), 3) := by decide +kernel
theorem d_94_55 : decode (am_b 94) 55 = .ok (.return_, 1) := by decide +kernel
theorem d_95_0 : decode (am_b 95) 0 = .ok (.aload_n 0, 1) := by decide +kernel
theorem d_95_1 : decode (am_b 95) 1 = .ok (.getfield 9, 3) := by decide +kernel
theorem d_95_4 : decode (am_b 95) 4 = .ok (.aload_n 0, 1) := by decide +kernel
theorem d_95_5 : decode (am_b 95) 5 = .ok (.getfield 15, 3) := by decide +kernel
theorem d_95_8 : decode (am_b 95) 8 = .ok (.iload_n 1, 1) := by decide +kernel
theorem d_95_9 : decode (am_b 95) 9 = .ok (.imul, 1) := by decide +kernel
theorem d_95_10 : decode (am_b 95) 10 = .ok (.iload_n 2, 1) := by decide +kernel
theorem d_95_11 : decode (am_b 95) 11 = .ok (.iadd, 1) := by decide +kernel
theorem d_95_12 : decode (am_b 95) 12 = .ok (.iload_n 3, 1) := by decide +kernel
theorem d_95_13 : decode (am_b 95) 13 = .ok (.iastore, 1) := by decide +kernel
theorem d_95_14 : decode (am_b 95) 14 = .ok (.return_, 1) := by decide +kernel
theorem d_96_0 : decode (am_b 96) 0 = .ok (.aload_n 0, 1) := by decide +kernel
theorem d_96_1 : decode (am_b 96) 1 = .ok (.aload_n 1, 1) := by decide +kernel
theorem d_96_2 : decode (am_b 96) 2 = .ok (.getfield 15, 3) := by decide +kernel
theorem d_96_5 : decode (am_b 96) 5 = .ok (.putfield 15, 3) := by decide +kernel
theorem d_96_8 : decode (am_b 96) 8 = .ok (.iconst 0, 1) := by decide +kernel
theorem d_96_9 : decode (am_b 96) 9 = .ok (.istore 4, 2) := by decide +kernel
theorem d_96_11 : decode (am_b 96) 11 = .ok (.iload 4, 2) := by decide +kernel
theorem d_96_13 : decode (am_b 96) 13 = .ok (.aload_n 0, 1) := by decide +kernel
theorem d_96_14 : decode (am_b 96) 14 = .ok (.getfield 15, 3) := by decide +kernel
theorem d_96_17 : decode (am_b 96) 17 = .ok (.if_icmp .ge 57, 3) := by decide +kernel
theorem d_96_20 : decode (am_b 96) 20 = .ok (.aload_n 1, 1) := by decide +kernel
theorem d_96_21 : decode (am_b 96) 21 = .ok (.iload 4, 2) := by decide +kernel
theorem d_96_23 : decode (am_b 96) 23 = .ok (.iload_n 3, 1) := by decide +kernel
theorem d_96_24 : decode (am_b 96) 24 = .ok (.invokevirtual 42, 3) := by decide +kernel
theorem d_96_27 : decode (am_b 96) 27 = .ok (.istore 5, 2) := by decide +kernel
theorem d_96_29 : decode (am_b 96) 29 = .ok (.iconst 0, 1) := by decide +kernel
theorem d_96_30 : decode (am_b 96) 30 = .ok (.istore 6, 2) := by decide +kernel
theorem d_96_32 : decode (am_b 96) 32 = .ok (.iload 6, 2) := by decide +kernel
theorem d_96_34 : decode (am_b 96) 34 = .ok (.aload_n 0, 1) := by decide +kernel
theorem d_96_35 : decode (am_b 96) 35 = .ok (.getfield 15, 3) := by decide +kernel
theorem d_96_38 : decode (am_b 96) 38 = .ok (.if_icmp .ge 30, 3) := by decide +kernel
theorem d_96_41 : decode (am_b 96) 41 = .ok (.aload_n 0, 1) := by decide +kernel
theorem d_96_42 : decode (am_b 96) 42 = .ok (.iload 4, 2) := by decide +kernel
theorem d_96_44 : decode (am_b 96) 44 = .ok (.aload_n 1, 1) := by decide +kernel
theorem d_96_45 : decode (am_b 96) 45 = .ok (.iload_n 2, 1) := by decide +kernel
theorem d_96_46 : decode (am_b 96) 46 = .ok (.iload 6, 2) := by decide +kernel
theorem d_96_48 : decode (am_b 96) 48 = .ok (.invokevirtual 23, 3) := by decide +kernel
theorem d_96_51 : decode (am_b 96) 51 = .ok (.aload_n 1, 1) := by decide +kernel
theorem d_96_52 : decode (am_b 96) 52 = .ok (.iload 5, 2) := by decide +kernel
theorem d_96_54 : decode (am_b 96) 54 = .ok (.iload 6, 2) := by decide +kernel
theorem d_96_56 : decode (am_b 96) 56 = .ok (.invokevirtual 23, 3) := by decide +kernel
theorem d_96_59 : decode (am_b 96) 59 = .ok (.invokevirtual 33, 3) := by decide +kernel
theorem d_96_62 : decode (am_b 96) 62 = .ok (.iinc 6 1, 3) := by decide +kernel
theorem d_96_65 : decode (am_b 96) 65 = .ok (.goto (-33), 3) := by decide +kernel
theorem d_96_68 : decode (am_b 96) 68 = .ok (.iinc 4 1, 3) := by decide +kernel
theorem d_96_71 : decode (am_b 96) 71 = .ok (.goto (-60), 3) := by decide +kernel
theorem d_96_74 : decode (am_b 96) 74 = .ok (.return_, 1) := by decide +kernel
theorem d_97_0 : decode (am_b 97) 0 = .ok (.iconst 0, 1) := by decide +kernel
theorem d_97_1 : decode (am_b 97) 1 = .ok (.istore_n 3, 1) := by decide +kernel
theorem d_97_2 : decode (am_b 97) 2 = .ok (.iload_n 3, 1) := by decide +kernel
theorem d_97_3 : decode (am_b 97) 3 = .ok (.aload_n 0, 1) := by decide +kernel
theorem d_97_4 : decode (am_b 97) 4 = .ok (.getfield 15, 3) := by decide +kernel
theorem d_97_7 : decode (am_b 97) 7 = .ok (.if_icmp .ge 21, 3) := by decide +kernel
theorem d_97_10 : decode (am_b 97) 10 = .ok (.aload_n 0, 1) := by decide +kernel
theorem d_97_11 : decode (am_b 97) 11 = .ok (.iload_n 3, 1) := by decide +kernel
theorem d_97_12 : decode (am_b 97) 12 = .ok (.iload_n 2, 1) := by decide +kernel
theorem d_97_13 : decode (am_b 97) 13 = .ok (.invokevirtual 23, 3) := by decide +kernel
theorem d_97_16 : decode (am_b 97) 16 = .ok (.iload_n 1, 1) := by decide +kernel
theorem d_97_17 : decode (am_b 97) 17 = .ok (.if_icmp .ne 5, 3) := by decide +kernel
theorem d_97_20 : decode (am_b 97) 20 = .ok (.iload_n 3, 1) := by decide +kernel
theorem d_97_21 : decode (am_b 97) 21 = .ok (.ireturn, 1) := by decide +kernel
theorem d_97_22 : decode (am_b 97) 22 = .ok (.iinc 3 1, 3) := by decide +kernel
theorem d_97_25 : decode (am_b 97) 25 = .ok (.goto (-23), 3) := by decide +kernel
theorem d_97_28 : decode (am_b 97) 28 = .ok (.iconst (-1), 1) := by decide +kernel
theorem d_97_29 : decode (am_b 97) 29 = .ok (.ireturn, 1) := by decide +kernel
theorem d_98_0 : decode (am_b 98) 0 = .ok (.aload_n 0, 1) := by decide +kernel
theorem d_98_1 : decode (am_b 98) 1 = .ok (.aload_n 1, 1) := by decide +kernel
theorem d_98_2 : decode (am_b 98) 2 = .ok (.getfield 15, 3) := by decide +kernel
theorem d_98_5 : decode (am_b 98) 5 = .ok (.putfield 15, 3) := by decide +kernel
theorem d_98_8 : decode (am_b 98) 8 = .ok (.iconst 0, 1) := by decide +kernel
theorem d_98_9 : decode (am_b 98) 9 = .ok (.istore_n 3, 1) := by decide +kernel
theorem d_98_10 : decode (am_b 98) 10 = .ok (.iload_n 3, 1) := by decide +kernel
theorem d_98_11 : decode (am_b 98) 11 = .ok (.aload_n 0, 1) := by decide +kernel
theorem d_98_12 : decode (am_b 98) 12 = .ok (.getfield 15, 3) := by decide +kernel
theorem d_98_15 : decode (am_b 98) 15 = .ok (.if_icmp .ge 42, 3) := by decide +kernel
theorem d_98_18 : decode (am_b 98) 18 = .ok (.iconst 0, 1) := by decide +kernel
theorem d_98_19 : decode (am_b 98) 19 = .ok (.istore 4, 2) := by decide +kernel
theorem d_98_21 : decode (am_b 98) 21 = .ok (.iload 4, 2) := by decide +kernel
theorem d_98_23 : decode (am_b 98) 23 = .ok (.aload_n 0, 1) := by decide +kernel
theorem d_98_24 : decode (am_b 98) 24 = .ok (.getfield 15, 3) := by decide +kernel
theorem d_98_27 : decode (am_b 98) 27 = .ok (.if_icmp .ge 24, 3) := by decide +kernel
theorem d_98_30 : decode (am_b 98) 30 = .ok (.aload_n 0, 1) := by decide +kernel
theorem d_98_31 : decode (am_b 98) 31 = .ok (.iload_n 2, 1) := by decide +kernel
theorem d_98_32 : decode (am_b 98) 32 = .ok (.iload_n 3, 1) := by decide +kernel
theorem d_98_33 : decode (am_b 98) 33 = .ok (.iload 4, 2) := by decide +kernel
theorem d_98_35 : decode (am_b 98) 35 = .ok (.aload_n 1, 1) := by decide +kernel
theorem d_98_36 : decode (am_b 98) 36 = .ok (.iload_n 3, 1) := by decide +kernel
theorem d_98_37 : decode (am_b 98) 37 = .ok (.iload 4, 2) := by decide +kernel
theorem d_98_39 : decode (am_b 98) 39 = .ok (.invokevirtual 23, 3) := by decide +kernel
theorem d_98_42 : decode (am_b 98) 42 = .ok (.invokevirtual 45, 3) := by decide +kernel
theorem d_98_45 : decode (am_b 98) 45 = .ok (.iinc 4 1, 3) := by decide +kernel
theorem d_98_48 : decode (am_b 98) 48 = .ok (.goto (-27), 3) := by decide +kernel
theorem d_98_51 : decode (am_b 98) 51 = .ok (.iinc 3 1, 3) := by decide +kernel
theorem d_98_54 : decode (am_b 98) 54 = .ok (.goto (-44), 3) := by decide +kernel
theorem d_98_57 : decode (am_b 98) 57 = .ok (.return_, 1) := by decide +kernel
theorem d_99_0 : decode (am_b 99) 0 = .ok (.iload_n 1, 1) := by decide +kernel
theorem d_99_1 : decode (am_b 99) 1 = .ok (.tableswitch 90 1 5 #[35, 46, 57, 68, 79], 35) := by decide +kernel
theorem d_99_36 : decode (am_b 99) 36 = .ok (.aload_n 0, 1) := by decide +kernel
theorem d_99_37 : decode (am_b 99) 37 = .ok (.iload_n 3, 1) := by decide +kernel
theorem d_99_38 : decode (am_b 99) 38 = .ok (.iload_n 2, 1) := by decide +kernel
theorem d_99_39 : decode (am_b 99) 39 = .ok (.iload 4, 2) := by decide +kernel
theorem d_99_41 : decode (am_b 99) 41 = .ok (.invokevirtual 33, 3) := by decide +kernel
theorem d_99_44 : decode (am_b 99) 44 = .ok (.goto 55, 3) := by decide +kernel
theorem d_99_47 : decode (am_b 99) 47 = .ok (.aload_n 0, 1) := by decide +kernel
theorem d_99_48 : decode (am_b 99) 48 = .ok (.iload_n 2, 1) := by decide +kernel
theorem d_99_49 : decode (am_b 99) 49 = .ok (.iload 4, 2) := by decide +kernel
theorem d_99_51 : decode (am_b 99) 51 = .ok (.iload_n 3, 1) := by decide +kernel
theorem d_99_52 : decode (am_b 99) 52 = .ok (.invokevirtual 33, 3) := by decide +kernel
theorem d_99_55 : decode (am_b 99) 55 = .ok (.goto 44, 3) := by decide +kernel
theorem d_99_58 : decode (am_b 99) 58 = .ok (.aload_n 0, 1) := by decide +kernel
theorem d_99_59 : decode (am_b 99) 59 = .ok (.iload 4, 2) := by decide +kernel
theorem d_99_61 : decode (am_b 99) 61 = .ok (.iload_n 2, 1) := by decide +kernel
theorem d_99_62 : decode (am_b 99) 62 = .ok (.iload_n 3, 1) := by decide +kernel
theorem d_99_63 : decode (am_b 99) 63 = .ok (.invokevirtual 33, 3) := by decide +kernel
theorem d_99_66 : decode (am_b 99) 66 = .ok (.goto 33, 3) := by decide +kernel
theorem d_99_69 : decode (am_b 99) 69 = .ok (.aload_n 0, 1) := by decide +kernel
theorem d_99_70 : decode (am_b 99) 70 = .ok (.iload_n 3, 1) := by decide +kernel
theorem d_99_71 : decode (am_b 99) 71 = .ok (.iload 4, 2) := by decide +kernel
theorem d_99_73 : decode (am_b 99) 73 = .ok (.iload_n 2, 1) := by decide +kernel
theorem d_99_74 : decode (am_b 99) 74 = .ok (.invokevirtual 33, 3) := by decide +kernel
theorem d_99_77 : decode (am_b 99) 77 = .ok (.goto 22, 3) := by decide +kernel
theorem d_99_80 : decode (am_b 99) 80 = .ok (.aload_n 0, 1) := by decide +kernel
theorem d_99_81 : decode (am_b 99) 81 = .ok (.iload 4, 2) := by decide +kernel
theorem d_99_83 : decode (am_b 99) 83 = .ok (.iload_n 3, 1) := by decide +kernel
theorem d_99_84 : decode (am_b 99) 84 = .ok (.iload_n 2, 1) := by decide +kernel
theorem d_99_85 : decode (am_b 99) 85 = .ok (.invokevirtual 33, 3) := by decide +kernel
theorem d_99_88 : decode (am_b 99) 88 = .ok (.goto 11, 3) := by decide +kernel
theorem d_99_91 : decode (am_b 99) 91 = .ok (.aload_n 0, 1) := by decide +kernel
theorem d_99_92 : decode (am_b 99) 92 = .ok (.iload_n 2, 1) := by decide +kernel
theorem d_99_93 : decode (am_b 99) 93 = .ok (.iload_n 3, 1) := by decide +kernel
theorem d_99_94 : decode (am_b 99) 94 = .ok (.iload 4, 2) := by decide +kernel
theorem d_99_96 : decode (am_b 99) 96 = .ok (.invokevirtual 33, 3) := by decide +kernel
theorem d_99_99 : decode (am_b 99) 99 = .ok (.return_, 1) := by decide +kernel
theorem d_100_0 : decode (am_b 100) 0 = .ok (.iload_n 1, 1) := by decide +kernel
theorem d_100_1 : decode (am_b 100) 1 = .ok (.iload_n 2, 1) := by decide +kernel
theorem d_100_2 : decode (am_b 100) 2 = .ok (.if_icmp .eq 23, 3) := by decide +kernel
theorem d_100_5 : decode (am_b 100) 5 = .ok (.aload_n 0, 1) := by decide +kernel
theorem d_100_6 : decode (am_b 100) 6 = .ok (.iload_n 1, 1) := by decide +kernel
theorem d_100_7 : decode (am_b 100) 7 = .ok (.invokevirtual 19, 3) := by decide +kernel
theorem d_100_10 : decode (am_b 100) 10 = .ok (.ifCond .eq 15, 3) := by decide +kernel
theorem d_100_13 : decode (am_b 100) 13 = .ok (.aload_n 0, 1) := by decide +kernel
theorem d_100_14 : decode (am_b 100) 14 = .ok (.iload_n 2, 1) := by decide +kernel
theorem d_100_15 : decode (am_b 100) 15 = .ok (.invokevirtual 19, 3) := by decide +kernel
theorem d_100_18 : decode (am_b 100) 18 = .ok (.ifCond .eq 7, 3) := by decide +kernel
theorem d_100_21 : decode (am_b 100) 21 = .ok (.iconst 1, 1) := by decide +kernel
theorem d_100_22 : decode (am_b 100) 22 = .ok (.goto 4, 3) := by decide +kernel
theorem d_100_25 : decode (am_b 100) 25 = .ok (.iconst 0, 1) := by decide +kernel
theorem d_100_26 : decode (am_b 100) 26 = .ok (.ireturn, 1) := by decide +kernel
theorem d_101_0 : decode (am_b 101) 0 = .ok (.iconst 0, 1) := by decide +kernel
theorem d_101_1 : decode (am_b 101) 1 = .ok (.istore 4, 2) := by decide +kernel
theorem d_101_3 : decode (am_b 101) 3 = .ok (.iload_n 3, 1) := by decide +kernel
theorem d_101_4 : decode (am_b 101) 4 = .ok (.istore 5, 2) := by decide +kernel
theorem d_101_6 : decode (am_b 101) 6 = .ok (.iconst 0, 1) := by decide +kernel
theorem d_101_7 : decode (am_b 101) 7 = .ok (.istore 6, 2) := by decide +kernel
theorem d_101_9 : decode (am_b 101) 9 = .ok (.iload 6, 2) := by decide +kernel
theorem d_101_11 : decode (am_b 101) 11 = .ok (.aload_n 0, 1) := by decide +kernel
theorem d_101_12 : decode (am_b 101) 12 = .ok (.getfield 15, 3) := by decide +kernel
theorem d_101_15 : decode (am_b 101) 15 = .ok (.if_icmp .ge 50, 3) := by decide +kernel
theorem d_101_18 : decode (am_b 101) 18 = .ok (.aload_n 0, 1) := by decide +kernel
theorem d_101_19 : decode (am_b 101) 19 = .ok (.iload 5, 2) := by decide +kernel
theorem d_101_21 : decode (am_b 101) 21 = .ok (.invokevirtual 19, 3) := by decide +kernel
theorem d_101_24 : decode (am_b 101) 24 = .ok (.ifCond .eq 41, 3) := by decide +kernel
theorem d_101_27 : decode (am_b 101) 27 = .ok (.iload 4, 2) := by decide +kernel
theorem d_101_29 : decode (am_b 101) 29 = .ok (.iconst 1, 1) := by decide +kernel
theorem d_101_30 : decode (am_b 101) 30 = .ok (.iload 5, 2) := by decide +kernel
theorem d_101_32 : decode (am_b 101) 32 = .ok (.ishl, 1) := by decide +kernel
theorem d_101_33 : decode (am_b 101) 33 = .ok (.ior, 1) := by decide +kernel
theorem d_101_34 : decode (am_b 101) 34 = .ok (.istore 4, 2) := by decide +kernel
theorem d_101_36 : decode (am_b 101) 36 = .ok (.aload_n 0, 1) := by decide +kernel
theorem d_101_37 : decode (am_b 101) 37 = .ok (.iload_n 1, 1) := by decide +kernel
theorem d_101_38 : decode (am_b 101) 38 = .ok (.aload_n 0, 1) := by decide +kernel
theorem d_101_39 : decode (am_b 101) 39 = .ok (.iload_n 2, 1) := by decide +kernel
theorem d_101_40 : decode (am_b 101) 40 = .ok (.iload 5, 2) := by decide +kernel
theorem d_101_42 : decode (am_b 101) 42 = .ok (.invokevirtual 23, 3) := by decide +kernel
theorem d_101_45 : decode (am_b 101) 45 = .ok (.invokevirtual 53, 3) := by decide +kernel
theorem d_101_48 : decode (am_b 101) 48 = .ok (.istore 5, 2) := by decide +kernel
theorem d_101_50 : decode (am_b 101) 50 = .ok (.iload 5, 2) := by decide +kernel
theorem d_101_52 : decode (am_b 101) 52 = .ok (.iload_n 3, 1) := by decide +kernel
theorem d_101_53 : decode (am_b 101) 53 = .ok (.if_icmp .ne 6, 3) := by decide +kernel
theorem d_101_56 : decode (am_b 101) 56 = .ok (.goto 9, 3) := by decide +kernel
theorem d_101_59 : decode (am_b 101) 59 = .ok (.iinc 6 1, 3) := by decide +kernel
theorem d_101_62 : decode (am_b 101) 62 = .ok (.goto (-53), 3) := by decide +kernel
theorem d_101_65 : decode (am_b 101) 65 = .ok (.iload 4, 2) := by decide +kernel
theorem d_101_67 : decode (am_b 101) 67 = .ok (.ireturn, 1) := by decide +kernel
theorem d_102_0 : decode (am_b 102) 0 = .ok (.iconst 0, 1) := by decide +kernel
theorem d_102_1 : decode (am_b 102) 1 = .ok (.istore_n 3, 1) := by decide +kernel
theorem d_102_2 : decode (am_b 102) 2 = .ok (.iload_n 3, 1) := by decide +kernel
theorem d_102_3 : decode (am_b 102) 3 = .ok (.aload_n 0, 1) := by decide +kernel
theorem d_102_4 : decode (am_b 102) 4 = .ok (.getfield 15, 3) := by decide +kernel
theorem d_102_7 : decode (am_b 102) 7 = .ok (.if_icmp .ge 21, 3) := by decide +kernel
theorem d_102_10 : decode (am_b 102) 10 = .ok (.aload_n 0, 1) := by decide +kernel
theorem d_102_11 : decode (am_b 102) 11 = .ok (.iload_n 1, 1) := by decide +kernel
theorem d_102_12 : decode (am_b 102) 12 = .ok (.iload_n 3, 1) := by decide +kernel
theorem d_102_13 : decode (am_b 102) 13 = .ok (.invokevirtual 23, 3) := by decide +kernel
theorem d_102_16 : decode (am_b 102) 16 = .ok (.iload_n 2, 1) := by decide +kernel
theorem d_102_17 : decode (am_b 102) 17 = .ok (.if_icmp .ne 5, 3) := by decide +kernel
theorem d_102_20 : decode (am_b 102) 20 = .ok (.iload_n 3, 1) := by decide +kernel
theorem d_102_21 : decode (am_b 102) 21 = .ok (.ireturn, 1) := by decide +kernel
theorem d_102_22 : decode (am_b 102) 22 = .ok (.iinc 3 1, 3) := by decide +kernel
theorem d_102_25 : decode (am_b 102) 25 = .ok (.goto (-23), 3) := by decide +kernel
theorem d_102_28 : decode (am_b 102) 28 = .ok (.iconst (-1), 1) := by decide +kernel
theorem d_102_29 : decode (am_b 102) 29 = .ok (.ireturn, 1) := by decide +kernel
theorem d_103_0 : decode (am_b 103) 0 = .ok (.iconst 0, 1) := by decide +kernel
theorem d_103_1 : decode (am_b 103) 1 = .ok (.istore 4, 2) := by decide +kernel
theorem d_103_3 : decode (am_b 103) 3 = .ok (.iload 4, 2) := by decide +kernel
theorem d_103_5 : decode (am_b 103) 5 = .ok (.aload_n 0, 1) := by decide +kernel
theorem d_103_6 : decode (am_b 103) 6 = .ok (.getfield 15, 3) := by decide +kernel
theorem d_103_9 : decode (am_b 103) 9 = .ok (.if_icmp .ge 43, 3) := by decide +kernel
theorem d_103_12 : decode (am_b 103) 12 = .ok (.iload_n 3, 1) := by decide +kernel
theorem d_103_13 : decode (am_b 103) 13 = .ok (.iload 4, 2) := by decide +kernel
theorem d_103_15 : decode (am_b 103) 15 = .ok (.ishr, 1) := by decide +kernel
theorem d_103_16 : decode (am_b 103) 16 = .ok (.iconst 1, 1) := by decide +kernel
theorem d_103_17 : decode (am_b 103) 17 = .ok (.iand, 1) := by decide +kernel
theorem d_103_18 : decode (am_b 103) 18 = .ok (.ifCond .eq 28, 3) := by decide +kernel
theorem d_103_21 : decode (am_b 103) 21 = .ok (.aload_n 0, 1) := by decide +kernel
theorem d_103_22 : decode (am_b 103) 22 = .ok (.getfield 9, 3) := by decide +kernel
theorem d_103_25 : decode (am_b 103) 25 = .ok (.aload_n 0, 1) := by decide +kernel
theorem d_103_26 : decode (am_b 103) 26 = .ok (.getfield 15, 3) := by decide +kernel
theorem d_103_29 : decode (am_b 103) 29 = .ok (.iload_n 1, 1) := by decide +kernel
theorem d_103_30 : decode (am_b 103) 30 = .ok (.imul, 1) := by decide +kernel
theorem d_103_31 : decode (am_b 103) 31 = .ok (.iload 4, 2) := by decide +kernel
theorem d_103_33 : decode (am_b 103) 33 = .ok (.iadd, 1) := by decide +kernel
theorem d_103_34 : decode (am_b 103) 34 = .ok (.aload_n 0, 1) := by decide +kernel
theorem d_103_35 : decode (am_b 103) 35 = .ok (.getfield 15, 3) := by decide +kernel
theorem d_103_38 : decode (am_b 103) 38 = .ok (.iload_n 2, 1) := by decide +kernel
theorem d_103_39 : decode (am_b 103) 39 = .ok (.imul, 1) := by decide +kernel
theorem d_103_40 : decode (am_b 103) 40 = .ok (.iload 4, 2) := by decide +kernel
theorem d_103_42 : decode (am_b 103) 42 = .ok (.iadd, 1) := by decide +kernel
theorem d_103_43 : decode (am_b 103) 43 = .ok (.invokestatic 56, 3) := by decide +kernel
theorem d_103_46 : decode (am_b 103) 46 = .ok (.iinc 4 1, 3) := by decide +kernel
theorem d_103_49 : decode (am_b 103) 49 = .ok (.goto (-46), 3) := by decide +kernel
theorem d_103_52 : decode (am_b 103) 52 = .ok (.return_, 1) := by decide +kernel
theorem d_104_0 : decode (am_b 104) 0 = .ok (.aload_n 2, 1) := by decide +kernel
theorem d_104_1 : decode (am_b 104) 1 = .ok (.getfield 15, 3) := by decide +kernel
theorem d_104_4 : decode (am_b 104) 4 = .ok (.istore_n 3, 1) := by decide +kernel
theorem d_104_5 : decode (am_b 104) 5 = .ok (.aload_n 0, 1) := by decide +kernel
theorem d_104_6 : decode (am_b 104) 6 = .ok (.aload_n 1, 1) := by decide +kernel
theorem d_104_7 : decode (am_b 104) 7 = .ok (.getfield 15, 3) := by decide +kernel
theorem d_104_10 : decode (am_b 104) 10 = .ok (.iload_n 3, 1) := by decide +kernel
theorem d_104_11 : decode (am_b 104) 11 = .ok (.imul, 1) := by decide +kernel
theorem d_104_12 : decode (am_b 104) 12 = .ok (.putfield 15, 3) := by decide +kernel
theorem d_104_15 : decode (am_b 104) 15 = .ok (.iconst 0, 1) := by decide +kernel
theorem d_104_16 : decode (am_b 104) 16 = .ok (.istore 4, 2) := by decide +kernel
theorem d_104_18 : decode (am_b 104) 18 = .ok (.iload 4, 2) := by decide +kernel
theorem d_104_20 : decode (am_b 104) 20 = .ok (.aload_n 1, 1) := by decide +kernel
theorem d_104_21 : decode (am_b 104) 21 = .ok (.getfield 15, 3) := by decide +kernel
theorem d_104_24 : decode (am_b 104) 24 = .ok (.if_icmp .ge 94, 3) := by decide +kernel
theorem d_104_27 : decode (am_b 104) 27 = .ok (.iconst 0, 1) := by decide +kernel
theorem d_104_28 : decode (am_b 104) 28 = .ok (.istore 5, 2) := by decide +kernel
theorem d_104_30 : decode (am_b 104) 30 = .ok (.iload 5, 2) := by decide +kernel
theorem d_104_32 : decode (am_b 104) 32 = .ok (.aload_n 1, 1) := by decide +kernel
theorem d_104_33 : decode (am_b 104) 33 = .ok (.getfield 15, 3) := by decide +kernel
theorem d_104_36 : decode (am_b 104) 36 = .ok (.if_icmp .ge 76, 3) := by decide +kernel
theorem d_104_39 : decode (am_b 104) 39 = .ok (.iconst 0, 1) := by decide +kernel
theorem d_104_40 : decode (am_b 104) 40 = .ok (.istore 6, 2) := by decide +kernel
theorem d_104_42 : decode (am_b 104) 42 = .ok (.iload 6, 2) := by decide +kernel
theorem d_104_44 : decode (am_b 104) 44 = .ok (.iload_n 3, 1) := by decide +kernel
theorem d_104_45 : decode (am_b 104) 45 = .ok (.if_icmp .ge 61, 3) := by decide +kernel
theorem d_104_48 : decode (am_b 104) 48 = .ok (.iconst 0, 1) := by decide +kernel
theorem d_104_49 : decode (am_b 104) 49 = .ok (.istore 7, 2) := by decide +kernel
theorem d_104_51 : decode (am_b 104) 51 = .ok (.iload 7, 2) := by decide +kernel
theorem d_104_53 : decode (am_b 104) 53 = .ok (.iload_n 3, 1) := by decide +kernel
theorem d_104_54 : decode (am_b 104) 54 = .ok (.if_icmp .ge 46, 3) := by decide +kernel
theorem d_104_57 : decode (am_b 104) 57 = .ok (.aload_n 0, 1) := by decide +kernel
theorem d_104_58 : decode (am_b 104) 58 = .ok (.iload_n 3, 1) := by decide +kernel
theorem d_104_59 : decode (am_b 104) 59 = .ok (.iload 4, 2) := by decide +kernel
theorem d_104_61 : decode (am_b 104) 61 = .ok (.imul, 1) := by decide +kernel
theorem d_104_62 : decode (am_b 104) 62 = .ok (.iload 6, 2) := by decide +kernel
theorem d_104_64 : decode (am_b 104) 64 = .ok (.iadd, 1) := by decide +kernel
theorem d_104_65 : decode (am_b 104) 65 = .ok (.iload_n 3, 1) := by decide +kernel
theorem d_104_66 : decode (am_b 104) 66 = .ok (.iload 5, 2) := by decide +kernel
theorem d_104_68 : decode (am_b 104) 68 = .ok (.imul, 1) := by decide +kernel
theorem d_104_69 : decode (am_b 104) 69 = .ok (.iload 7, 2) := by decide +kernel
theorem d_104_71 : decode (am_b 104) 71 = .ok (.iadd, 1) := by decide +kernel
theorem d_104_72 : decode (am_b 104) 72 = .ok (.iload_n 3, 1) := by decide +kernel
theorem d_104_73 : decode (am_b 104) 73 = .ok (.aload_n 1, 1) := by decide +kernel
theorem d_104_74 : decode (am_b 104) 74 = .ok (.iload 4, 2) := by decide +kernel
theorem d_104_76 : decode (am_b 104) 76 = .ok (.iload 5, 2) := by decide +kernel
theorem d_104_78 : decode (am_b 104) 78 = .ok (.invokevirtual 23, 3) := by decide +kernel
theorem d_104_81 : decode (am_b 104) 81 = .ok (.imul, 1) := by decide +kernel
theorem d_104_82 : decode (am_b 104) 82 = .ok (.aload_n 2, 1) := by decide +kernel
theorem d_104_83 : decode (am_b 104) 83 = .ok (.iload 6, 2) := by decide +kernel
theorem d_104_85 : decode (am_b 104) 85 = .ok (.iload 7, 2) := by decide +kernel
theorem d_104_87 : decode (am_b 104) 87 = .ok (.invokevirtual 23, 3) := by decide +kernel
theorem d_104_90 : decode (am_b 104) 90 = .ok (.iadd, 1) := by decide +kernel
theorem d_104_91 : decode (am_b 104) 91 = .ok (.invokevirtual 33, 3) := by decide +kernel
theorem d_104_94 : decode (am_b 104) 94 = .ok (.iinc 7 1, 3) := by decide +kernel
theorem d_104_97 : decode (am_b 104) 97 = .ok (.goto (-46), 3) := by decide +kernel
theorem d_104_100 : decode (am_b 104) 100 = .ok (.iinc 6 1, 3) := by decide +kernel
theorem d_104_103 : decode (am_b 104) 103 = .ok (.goto (-61), 3) := by decide +kernel
theorem d_104_106 : decode (am_b 104) 106 = .ok (.iinc 5 1, 3) := by decide +kernel
theorem d_104_109 : decode (am_b 104) 109 = .ok (.goto (-79), 3) := by decide +kernel
theorem d_104_112 : decode (am_b 104) 112 = .ok (.iinc 4 1, 3) := by decide +kernel
theorem d_104_115 : decode (am_b 104) 115 = .ok (.goto (-97), 3) := by decide +kernel
theorem d_104_118 : decode (am_b 104) 118 = .ok (.return_, 1) := by decide +kernel
theorem d_105_0 : decode (am_b 105) 0 = .ok (.aload_n 1, 1) := by decide +kernel
theorem d_105_1 : decode (am_b 105) 1 = .ok (.getfield 15, 3) := by decide +kernel
theorem d_105_4 : decode (am_b 105) 4 = .ok (.istore_n 3, 1) := by decide +kernel
theorem d_105_5 : decode (am_b 105) 5 = .ok (.aload_n 0, 1) := by decide +kernel
theorem d_105_6 : decode (am_b 105) 6 = .ok (.iconst 2, 1) := by decide +kernel
theorem d_105_7 : decode (am_b 105) 7 = .ok (.iload_n 3, 1) := by decide +kernel
theorem d_105_8 : decode (am_b 105) 8 = .ok (.imul, 1) := by decide +kernel
theorem d_105_9 : decode (am_b 105) 9 = .ok (.putfield 15, 3) := by decide +kernel
theorem d_105_12 : decode (am_b 105) 12 = .ok (.iconst 0, 1) := by decide +kernel
theorem d_105_13 : decode (am_b 105) 13 = .ok (.istore 4, 2) := by decide +kernel
theorem d_105_15 : decode (am_b 105) 15 = .ok (.iload 4, 2) := by decide +kernel
theorem d_105_17 : decode (am_b 105) 17 = .ok (.iload_n 3, 1) := by decide +kernel
theorem d_105_18 : decode (am_b 105) 18 = .ok (.if_icmp .ge 129, 3) := by decide +kernel
theorem d_105_21 : decode (am_b 105) 21 = .ok (.iconst 0, 1) := by decide +kernel
theorem d_105_22 : decode (am_b 105) 22 = .ok (.istore 5, 2) := by decide +kernel
theorem d_105_24 : decode (am_b 105) 24 = .ok (.iload 5, 2) := by decide +kernel
theorem d_105_26 : decode (am_b 105) 26 = .ok (.iload_n 3, 1) := by decide +kernel
theorem d_105_27 : decode (am_b 105) 27 = .ok (.if_icmp .ge 114, 3) := by decide +kernel
theorem d_105_30 : decode (am_b 105) 30 = .ok (.iconst 2, 1) := by decide +kernel
theorem d_105_31 : decode (am_b 105) 31 = .ok (.aload_n 1, 1) := by decide +kernel
theorem d_105_32 : decode (am_b 105) 32 = .ok (.iload 4, 2) := by decide +kernel
theorem d_105_34 : decode (am_b 105) 34 = .ok (.iload 5, 2) := by decide +kernel
theorem d_105_36 : decode (am_b 105) 36 = .ok (.invokevirtual 23, 3) := by decide +kernel
theorem d_105_39 : decode (am_b 105) 39 = .ok (.imul, 1) := by decide +kernel
theorem d_105_40 : decode (am_b 105) 40 = .ok (.istore 6, 2) := by decide +kernel
theorem d_105_42 : decode (am_b 105) 42 = .ok (.iload_n 2, 1) := by decide +kernel
theorem d_105_43 : decode (am_b 105) 43 = .ok (.iload_n 3, 1) := by decide +kernel
theorem d_105_44 : decode (am_b 105) 44 = .ok (.iload 4, 2) := by decide +kernel
theorem d_105_46 : decode (am_b 105) 46 = .ok (.imul, 1) := by decide +kernel
theorem d_105_47 : decode (am_b 105) 47 = .ok (.iload 5, 2) := by decide +kernel
theorem d_105_49 : decode (am_b 105) 49 = .ok (.iadd, 1) := by decide +kernel
theorem d_105_50 : decode (am_b 105) 50 = .ok (.ishr, 1) := by decide +kernel
theorem d_105_51 : decode (am_b 105) 51 = .ok (.iconst 1, 1) := by decide +kernel
theorem d_105_52 : decode (am_b 105) 52 = .ok (.iand, 1) := by decide +kernel
theorem d_105_53 : decode (am_b 105) 53 = .ok (.istore 7, 2) := by decide +kernel
theorem d_105_55 : decode (am_b 105) 55 = .ok (.aload_n 0, 1) := by decide +kernel
theorem d_105_56 : decode (am_b 105) 56 = .ok (.iconst 2, 1) := by decide +kernel
theorem d_105_57 : decode (am_b 105) 57 = .ok (.iload 4, 2) := by decide +kernel
theorem d_105_59 : decode (am_b 105) 59 = .ok (.imul, 1) := by decide +kernel
theorem d_105_60 : decode (am_b 105) 60 = .ok (.iconst 2, 1) := by decide +kernel
theorem d_105_61 : decode (am_b 105) 61 = .ok (.iload 5, 2) := by decide +kernel
theorem d_105_63 : decode (am_b 105) 63 = .ok (.imul, 1) := by decide +kernel
theorem d_105_64 : decode (am_b 105) 64 = .ok (.iload 6, 2) := by decide +kernel
theorem d_105_66 : decode (am_b 105) 66 = .ok (.iload 7, 2) := by decide +kernel
theorem d_105_68 : decode (am_b 105) 68 = .ok (.iadd, 1) := by decide +kernel
theorem d_105_69 : decode (am_b 105) 69 = .ok (.invokevirtual 33, 3) := by decide +kernel
theorem d_105_72 : decode (am_b 105) 72 = .ok (.aload_n 0, 1) := by decide +kernel
theorem d_105_73 : decode (am_b 105) 73 = .ok (.iconst 2, 1) := by decide +kernel
theorem d_105_74 : decode (am_b 105) 74 = .ok (.iload 4, 2) := by decide +kernel
theorem d_105_76 : decode (am_b 105) 76 = .ok (.imul, 1) := by decide +kernel
theorem d_105_77 : decode (am_b 105) 77 = .ok (.iconst 1, 1) := by decide +kernel
theorem d_105_78 : decode (am_b 105) 78 = .ok (.iadd, 1) := by decide +kernel
theorem d_105_79 : decode (am_b 105) 79 = .ok (.iconst 2, 1) := by decide +kernel
theorem d_105_80 : decode (am_b 105) 80 = .ok (.iload 5, 2) := by decide +kernel
theorem d_105_82 : decode (am_b 105) 82 = .ok (.imul, 1) := by decide +kernel
theorem d_105_83 : decode (am_b 105) 83 = .ok (.iconst 1, 1) := by decide +kernel
theorem d_105_84 : decode (am_b 105) 84 = .ok (.iadd, 1) := by decide +kernel
theorem d_105_85 : decode (am_b 105) 85 = .ok (.iload 6, 2) := by decide +kernel
theorem d_105_87 : decode (am_b 105) 87 = .ok (.iload 7, 2) := by decide +kernel
theorem d_105_89 : decode (am_b 105) 89 = .ok (.iadd, 1) := by decide +kernel
theorem d_105_90 : decode (am_b 105) 90 = .ok (.invokevirtual 33, 3) := by decide +kernel
theorem d_105_93 : decode (am_b 105) 93 = .ok (.aload_n 0, 1) := by decide +kernel
theorem d_105_94 : decode (am_b 105) 94 = .ok (.iconst 2, 1) := by decide +kernel
theorem d_105_95 : decode (am_b 105) 95 = .ok (.iload 4, 2) := by decide +kernel
theorem d_105_97 : decode (am_b 105) 97 = .ok (.imul, 1) := by decide +kernel
theorem d_105_98 : decode (am_b 105) 98 = .ok (.iconst 2, 1) := by decide +kernel
theorem d_105_99 : decode (am_b 105) 99 = .ok (.iload 5, 2) := by decide +kernel
theorem d_105_101 : decode (am_b 105) 101 = .ok (.imul, 1) := by decide +kernel
theorem d_105_102 : decode (am_b 105) 102 = .ok (.iconst 1, 1) := by decide +kernel
theorem d_105_103 : decode (am_b 105) 103 = .ok (.iadd, 1) := by decide +kernel
theorem d_105_104 : decode (am_b 105) 104 = .ok (.iload 6, 2) := by decide +kernel
theorem d_105_106 : decode (am_b 105) 106 = .ok (.iconst 1, 1) := by decide +kernel
theorem d_105_107 : decode (am_b 105) 107 = .ok (.iadd, 1) := by decide +kernel
theorem d_105_108 : decode (am_b 105) 108 = .ok (.iload 7, 2) := by decide +kernel
theorem d_105_110 : decode (am_b 105) 110 = .ok (.isub, 1) := by decide +kernel
theorem d_105_111 : decode (am_b 105) 111 = .ok (.invokevirtual 33, 3) := by decide +kernel
theorem d_105_114 : decode (am_b 105) 114 = .ok (.aload_n 0, 1) := by decide +kernel
theorem d_105_115 : decode (am_b 105) 115 = .ok (.iconst 2, 1) := by decide +kernel
theorem d_105_116 : decode (am_b 105) 116 = .ok (.iload 4, 2) := by decide +kernel
theorem d_105_118 : decode (am_b 105) 118 = .ok (.imul, 1) := by decide +kernel
theorem d_105_119 : decode (am_b 105) 119 = .ok (.iconst 1, 1) := by decide +kernel
theorem d_105_120 : decode (am_b 105) 120 = .ok (.iadd, 1) := by decide +kernel
theorem d_105_121 : decode (am_b 105) 121 = .ok (.iconst 2, 1) := by decide +kernel
theorem d_105_122 : decode (am_b 105) 122 = .ok (.iload 5, 2) := by decide +kernel
theorem d_105_124 : decode (am_b 105) 124 = .ok (.imul, 1) := by decide +kernel
theorem d_105_125 : decode (am_b 105) 125 = .ok (.iload 6, 2) := by decide +kernel
theorem d_105_127 : decode (am_b 105) 127 = .ok (.iconst 1, 1) := by decide +kernel
theorem d_105_128 : decode (am_b 105) 128 = .ok (.iadd, 1) := by decide +kernel
theorem d_105_129 : decode (am_b 105) 129 = .ok (.iload 7, 2) := by decide +kernel
theorem d_105_131 : decode (am_b 105) 131 = .ok (.isub, 1) := by decide +kernel
theorem d_105_132 : decode (am_b 105) 132 = .ok (.invokevirtual 33, 3) := by decide +kernel
theorem d_105_135 : decode (am_b 105) 135 = .ok (.iinc 5 1, 3) := by decide +kernel
theorem d_105_138 : decode (am_b 105) 138 = .ok (.goto (-114), 3) := by decide +kernel
theorem d_105_141 : decode (am_b 105) 141 = .ok (.iinc 4 1, 3) := by decide +kernel
theorem d_105_144 : decode (am_b 105) 144 = .ok (.goto (-129), 3) := by decide +kernel
theorem d_105_147 : decode (am_b 105) 147 = .ok (.return_, 1) := by decide +kernel
theorem d_106_0 : decode (am_b 106) 0 = .ok (.aload_n 0, 1) := by decide +kernel
theorem d_106_1 : decode (am_b 106) 1 = .ok (.iconst 1, 1) := by decide +kernel
theorem d_106_2 : decode (am_b 106) 2 = .ok (.iconst 1, 1) := by decide +kernel
theorem d_106_3 : decode (am_b 106) 3 = .ok (.invokevirtual 49, 3) := by decide +kernel
theorem d_106_6 : decode (am_b 106) 6 = .ok (.ireturn, 1) := by decide +kernel
theorem d_107_0 : decode (am_b 107) 0 = .ok (.iconst 0, 1) := by decide +kernel
theorem d_107_1 : decode (am_b 107) 1 = .ok (.istore_n 3, 1) := by decide +kernel
theorem d_107_2 : decode (am_b 107) 2 = .ok (.iload_n 3, 1) := by decide +kernel
theorem d_107_3 : decode (am_b 107) 3 = .ok (.aload_n 0, 1) := by decide +kernel
theorem d_107_4 : decode (am_b 107) 4 = .ok (.getfield 15, 3) := by decide +kernel
theorem d_107_7 : decode (am_b 107) 7 = .ok (.if_icmp .ge 70, 3) := by decide +kernel
theorem d_107_10 : decode (am_b 107) 10 = .ok (.iconst 0, 1) := by decide +kernel
theorem d_107_11 : decode (am_b 107) 11 = .ok (.istore 4, 2) := by decide +kernel
theorem d_107_13 : decode (am_b 107) 13 = .ok (.iload 4, 2) := by decide +kernel
theorem d_107_15 : decode (am_b 107) 15 = .ok (.aload_n 0, 1) := by decide +kernel
theorem d_107_16 : decode (am_b 107) 16 = .ok (.getfield 15, 3) := by decide +kernel
theorem d_107_19 : decode (am_b 107) 19 = .ok (.if_icmp .ge 41, 3) := by decide +kernel
theorem d_107_22 : decode (am_b 107) 22 = .ok (.iload_n 1, 1) := by decide +kernel
theorem d_107_23 : decode (am_b 107) 23 = .ok (.ifCond .eq 15, 3) := by decide +kernel
theorem d_107_26 : decode (am_b 107) 26 = .ok (.aload_n 0, 1) := by decide +kernel
theorem d_107_27 : decode (am_b 107) 27 = .ok (.iload_n 3, 1) := by decide +kernel
theorem d_107_28 : decode (am_b 107) 28 = .ok (.iload 4, 2) := by decide +kernel
theorem d_107_30 : decode (am_b 107) 30 = .ok (.invokevirtual 23, 3) := by decide +kernel
theorem d_107_33 : decode (am_b 107) 33 = .ok (.iload 4, 2) := by decide +kernel
theorem d_107_35 : decode (am_b 107) 35 = .ok (.if_icmp .ne 25, 3) := by decide +kernel
theorem d_107_38 : decode (am_b 107) 38 = .ok (.iload_n 2, 1) := by decide +kernel
theorem d_107_39 : decode (am_b 107) 39 = .ok (.ifCond .eq 15, 3) := by decide +kernel
theorem d_107_42 : decode (am_b 107) 42 = .ok (.aload_n 0, 1) := by decide +kernel
theorem d_107_43 : decode (am_b 107) 43 = .ok (.iload 4, 2) := by decide +kernel
theorem d_107_45 : decode (am_b 107) 45 = .ok (.iload_n 3, 1) := by decide +kernel
theorem d_107_46 : decode (am_b 107) 46 = .ok (.invokevirtual 23, 3) := by decide +kernel
theorem d_107_49 : decode (am_b 107) 49 = .ok (.iload 4, 2) := by decide +kernel
theorem d_107_51 : decode (am_b 107) 51 = .ok (.if_icmp .ne 9, 3) := by decide +kernel
theorem d_107_54 : decode (am_b 107) 54 = .ok (.iinc 4 1, 3) := by decide +kernel
theorem d_107_57 : decode (am_b 107) 57 = .ok (.goto (-44), 3) := by decide +kernel
theorem d_107_60 : decode (am_b 107) 60 = .ok (.iload 4, 2) := by decide +kernel
theorem d_107_62 : decode (am_b 107) 62 = .ok (.aload_n 0, 1) := by decide +kernel
theorem d_107_63 : decode (am_b 107) 63 = .ok (.getfield 15, 3) := by decide +kernel
theorem d_107_66 : decode (am_b 107) 66 = .ok (.if_icmp .ne 5, 3) := by decide +kernel
theorem d_107_69 : decode (am_b 107) 69 = .ok (.iload_n 3, 1) := by decide +kernel
theorem d_107_70 : decode (am_b 107) 70 = .ok (.ireturn, 1) := by decide +kernel
theorem d_107_71 : decode (am_b 107) 71 = .ok (.iinc 3 1, 3) := by decide +kernel
theorem d_107_74 : decode (am_b 107) 74 = .ok (.goto (-72), 3) := by decide +kernel
theorem d_107_77 : decode (am_b 107) 77 = .ok (.iconst (-1), 1) := by decide +kernel
theorem d_107_78 : decode (am_b 107) 78 = .ok (.ireturn, 1) := by decide +kernel
theorem d_108_0 : decode (am_b 108) 0 = .ok (.iload_n 1, 1) := by decide +kernel
theorem d_108_1 : decode (am_b 108) 1 = .ok (.ifCond .le 17, 3) := by decide +kernel
theorem d_108_4 : decode (am_b 108) 4 = .ok (.iload_n 1, 1) := by decide +kernel
theorem d_108_5 : decode (am_b 108) 5 = .ok (.iconst 1, 1) := by decide +kernel
theorem d_108_6 : decode (am_b 108) 6 = .ok (.aload_n 0, 1) := by decide +kernel
theorem d_108_7 : decode (am_b 108) 7 = .ok (.getfield 15, 3) := by decide +kernel
theorem d_108_10 : decode (am_b 108) 10 = .ok (.ishl, 1) := by decide +kernel
theorem d_108_11 : decode (am_b 108) 11 = .ok (.if_icmp .ge 7, 3) := by decide +kernel
theorem d_108_14 : decode (am_b 108) 14 = .ok (.iconst 1, 1) := by decide +kernel
theorem d_108_15 : decode (am_b 108) 15 = .ok (.goto 4, 3) := by decide +kernel
theorem d_108_18 : decode (am_b 108) 18 = .ok (.iconst 0, 1) := by decide +kernel
theorem d_108_19 : decode (am_b 108) 19 = .ok (.ireturn, 1) := by decide +kernel
theorem d_109_0 : decode (am_b 109) 0 = .ok (.iconst 0, 1) := by decide +kernel
theorem d_109_1 : decode (am_b 109) 1 = .ok (.istore_n 2, 1) := by decide +kernel
theorem d_109_2 : decode (am_b 109) 2 = .ok (.iconst 0, 1) := by decide +kernel
theorem d_109_3 : decode (am_b 109) 3 = .ok (.istore_n 3, 1) := by decide +kernel
theorem d_109_4 : decode (am_b 109) 4 = .ok (.iload_n 3, 1) := by decide +kernel
theorem d_109_5 : decode (am_b 109) 5 = .ok (.aload_n 0, 1) := by decide +kernel
theorem d_109_6 : decode (am_b 109) 6 = .ok (.getfield 15, 3) := by decide +kernel
theorem d_109_9 : decode (am_b 109) 9 = .ok (.aload_n 0, 1) := by decide +kernel
theorem d_109_10 : decode (am_b 109) 10 = .ok (.getfield 15, 3) := by decide +kernel
theorem d_109_13 : decode (am_b 109) 13 = .ok (.imul, 1) := by decide +kernel
theorem d_109_14 : decode (am_b 109) 14 = .ok (.if_icmp .ge 27, 3) := by decide +kernel
theorem d_109_17 : decode (am_b 109) 17 = .ok (.aload_n 0, 1) := by decide +kernel
theorem d_109_18 : decode (am_b 109) 18 = .ok (.getfield 9, 3) := by decide +kernel
theorem d_109_21 : decode (am_b 109) 21 = .ok (.iload_n 3, 1) := by decide +kernel
theorem d_109_22 : decode (am_b 109) 22 = .ok (.iaload, 1) := by decide +kernel
theorem d_109_23 : decode (am_b 109) 23 = .ok (.aload_n 1, 1) := by decide +kernel
theorem d_109_24 : decode (am_b 109) 24 = .ok (.getfield 9, 3) := by decide +kernel
theorem d_109_27 : decode (am_b 109) 27 = .ok (.iload_n 3, 1) := by decide +kernel
theorem d_109_28 : decode (am_b 109) 28 = .ok (.iaload, 1) := by decide +kernel
theorem d_109_29 : decode (am_b 109) 29 = .ok (.if_icmp .eq 6, 3) := by decide +kernel
theorem d_109_32 : decode (am_b 109) 32 = .ok (.iinc 2 1, 3) := by decide +kernel
theorem d_109_35 : decode (am_b 109) 35 = .ok (.iinc 3 1, 3) := by decide +kernel
theorem d_109_38 : decode (am_b 109) 38 = .ok (.goto (-34), 3) := by decide +kernel
theorem d_109_41 : decode (am_b 109) 41 = .ok (.iload_n 2, 1) := by decide +kernel
theorem d_109_42 : decode (am_b 109) 42 = .ok (.ireturn, 1) := by decide +kernel
theorem d_110_0 : decode (am_b 110) 0 = .ok (.iconst 0, 1) := by decide +kernel
theorem d_110_1 : decode (am_b 110) 1 = .ok (.istore_n 3, 1) := by decide +kernel
theorem d_110_2 : decode (am_b 110) 2 = .ok (.iconst 0, 1) := by decide +kernel
theorem d_110_3 : decode (am_b 110) 3 = .ok (.istore 4, 2) := by decide +kernel
theorem d_110_5 : decode (am_b 110) 5 = .ok (.iconst 0, 1) := by decide +kernel
theorem d_110_6 : decode (am_b 110) 6 = .ok (.istore 5, 2) := by decide +kernel
theorem d_110_8 : decode (am_b 110) 8 = .ok (.iload 5, 2) := by decide +kernel
theorem d_110_10 : decode (am_b 110) 10 = .ok (.aload_n 0, 1) := by decide +kernel
theorem d_110_11 : decode (am_b 110) 11 = .ok (.getfield 15, 3) := by decide +kernel
theorem d_110_14 : decode (am_b 110) 14 = .ok (.if_icmp .ge 32, 3) := by decide +kernel
theorem d_110_17 : decode (am_b 110) 17 = .ok (.iload_n 3, 1) := by decide +kernel
theorem d_110_18 : decode (am_b 110) 18 = .ok (.iload 5, 2) := by decide +kernel
theorem d_110_20 : decode (am_b 110) 20 = .ok (.ishr, 1) := by decide +kernel
theorem d_110_21 : decode (am_b 110) 21 = .ok (.iconst 1, 1) := by decide +kernel
theorem d_110_22 : decode (am_b 110) 22 = .ok (.iand, 1) := by decide +kernel
theorem d_110_23 : decode (am_b 110) 23 = .ok (.ifCond .ne 17, 3) := by decide +kernel
theorem d_110_26 : decode (am_b 110) 26 = .ok (.iload_n 3, 1) := by decide +kernel
theorem d_110_27 : decode (am_b 110) 27 = .ok (.aload_n 0, 1) := by decide +kernel
theorem d_110_28 : decode (am_b 110) 28 = .ok (.iload_n 1, 1) := by decide +kernel
theorem d_110_29 : decode (am_b 110) 29 = .ok (.iload_n 2, 1) := by decide +kernel
theorem d_110_30 : decode (am_b 110) 30 = .ok (.iload 5, 2) := by decide +kernel
theorem d_110_32 : decode (am_b 110) 32 = .ok (.invokevirtual 60, 3) := by decide +kernel
theorem d_110_35 : decode (am_b 110) 35 = .ok (.ior, 1) := by decide +kernel
theorem d_110_36 : decode (am_b 110) 36 = .ok (.istore_n 3, 1) := by decide +kernel
theorem d_110_37 : decode (am_b 110) 37 = .ok (.iinc 4 1, 3) := by decide +kernel
theorem d_110_40 : decode (am_b 110) 40 = .ok (.iinc 5 1, 3) := by decide +kernel
theorem d_110_43 : decode (am_b 110) 43 = .ok (.goto (-35), 3) := by decide +kernel
theorem d_110_46 : decode (am_b 110) 46 = .ok (.iload 4, 2) := by decide +kernel
theorem d_110_48 : decode (am_b 110) 48 = .ok (.ireturn, 1) := by decide +kernel
theorem d_111_0 : decode (am_b 111) 0 = .ok (.iconst 0, 1) := by decide +kernel
theorem d_111_1 : decode (am_b 111) 1 = .ok (.istore_n 3, 1) := by decide +kernel
theorem d_111_2 : decode (am_b 111) 2 = .ok (.iconst 0, 1) := by decide +kernel
theorem d_111_3 : decode (am_b 111) 3 = .ok (.istore 4, 2) := by decide +kernel
theorem d_111_5 : decode (am_b 111) 5 = .ok (.iload 4, 2) := by decide +kernel
theorem d_111_7 : decode (am_b 111) 7 = .ok (.aload_n 0, 1) := by decide +kernel
theorem d_111_8 : decode (am_b 111) 8 = .ok (.getfield 15, 3) := by decide +kernel
theorem d_111_11 : decode (am_b 111) 11 = .ok (.if_icmp .ge 25, 3) := by decide +kernel
theorem d_111_14 : decode (am_b 111) 14 = .ok (.iload_n 3, 1) := by decide +kernel
theorem d_111_15 : decode (am_b 111) 15 = .ok (.aload_n 0, 1) := by decide +kernel
theorem d_111_16 : decode (am_b 111) 16 = .ok (.iload_n 1, 1) := by decide +kernel
theorem d_111_17 : decode (am_b 111) 17 = .ok (.iload_n 2, 1) := by decide +kernel
theorem d_111_18 : decode (am_b 111) 18 = .ok (.iload 4, 2) := by decide +kernel
theorem d_111_20 : decode (am_b 111) 20 = .ok (.invokevirtual 60, 3) := by decide +kernel
theorem d_111_23 : decode (am_b 111) 23 = .ok (.invokestatic 64, 3) := by decide +kernel
theorem d_111_26 : decode (am_b 111) 26 = .ok (.invokestatic 37, 3) := by decide +kernel
theorem d_111_29 : decode (am_b 111) 29 = .ok (.istore_n 3, 1) := by decide +kernel
theorem d_111_30 : decode (am_b 111) 30 = .ok (.iinc 4 1, 3) := by decide +kernel
theorem d_111_33 : decode (am_b 111) 33 = .ok (.goto (-28), 3) := by decide +kernel
theorem d_111_36 : decode (am_b 111) 36 = .ok (.iload_n 3, 1) := by decide +kernel
theorem d_111_37 : decode (am_b 111) 37 = .ok (.ireturn, 1) := by decide +kernel
theorem d_112_0 : decode (am_b 112) 0 = .ok (.iload_n 1, 1) := by decide +kernel
theorem d_112_1 : decode (am_b 112) 1 = .ok (.iconst 2, 1) := by decide +kernel
theorem d_112_2 : decode (am_b 112) 2 = .ok (.idiv, 1) := by decide +kernel
theorem d_112_3 : decode (am_b 112) 3 = .ok (.iconst 1, 1) := by decide +kernel
theorem d_112_4 : decode (am_b 112) 4 = .ok (.invokestatic 37, 3) := by decide +kernel
theorem d_112_7 : decode (am_b 112) 7 = .ok (.istore_n 2, 1) := by decide +kernel
theorem d_112_8 : decode (am_b 112) 8 = .ok (.aload_n 0, 1) := by decide +kernel
theorem d_112_9 : decode (am_b 112) 9 = .ok (.iload_n 1, 1) := by decide +kernel
theorem d_112_10 : decode (am_b 112) 10 = .ok (.putfield 15, 3) := by decide +kernel
theorem d_112_13 : decode (am_b 112) 13 = .ok (.iconst 0, 1) := by decide +kernel
theorem d_112_14 : decode (am_b 112) 14 = .ok (.istore_n 3, 1) := by decide +kernel
theorem d_112_15 : decode (am_b 112) 15 = .ok (.iload_n 3, 1) := by decide +kernel
theorem d_112_16 : decode (am_b 112) 16 = .ok (.iload_n 1, 1) := by decide +kernel
theorem d_112_17 : decode (am_b 112) 17 = .ok (.if_icmp .ge 100, 3) := by decide +kernel
theorem d_112_20 : decode (am_b 112) 20 = .ok (.iconst 0, 1) := by decide +kernel
theorem d_112_21 : decode (am_b 112) 21 = .ok (.istore 4, 2) := by decide +kernel
theorem d_112_23 : decode (am_b 112) 23 = .ok (.iload 4, 2) := by decide +kernel
theorem d_112_25 : decode (am_b 112) 25 = .ok (.iload_n 1, 1) := by decide +kernel
theorem d_112_26 : decode (am_b 112) 26 = .ok (.if_icmp .ge 85, 3) := by decide +kernel
theorem d_112_29 : decode (am_b 112) 29 = .ok (.iload_n 3, 1) := by decide +kernel
theorem d_112_30 : decode (am_b 112) 30 = .ok (.iload_n 2, 1) := by decide +kernel
theorem d_112_31 : decode (am_b 112) 31 = .ok (.if_icmp .ge 10, 3) := by decide +kernel
theorem d_112_34 : decode (am_b 112) 34 = .ok (.iload_n 3, 1) := by decide +kernel
theorem d_112_35 : decode (am_b 112) 35 = .ok (.iload 4, 2) := by decide +kernel
theorem d_112_37 : decode (am_b 112) 37 = .ok (.iadd, 1) := by decide +kernel
theorem d_112_38 : decode (am_b 112) 38 = .ok (.goto 9, 3) := by decide +kernel
theorem d_112_41 : decode (am_b 112) 41 = .ok (.iload_n 3, 1) := by decide +kernel
theorem d_112_42 : decode (am_b 112) 42 = .ok (.iload_n 1, 1) := by decide +kernel
theorem d_112_43 : decode (am_b 112) 43 = .ok (.iadd, 1) := by decide +kernel
theorem d_112_44 : decode (am_b 112) 44 = .ok (.iload 4, 2) := by decide +kernel
theorem d_112_46 : decode (am_b 112) 46 = .ok (.isub, 1) := by decide +kernel
theorem d_112_47 : decode (am_b 112) 47 = .ok (.istore 5, 2) := by decide +kernel
theorem d_112_49 : decode (am_b 112) 49 = .ok (.iload_n 3, 1) := by decide +kernel
theorem d_112_50 : decode (am_b 112) 50 = .ok (.iload_n 2, 1) := by decide +kernel
theorem d_112_51 : decode (am_b 112) 51 = .ok (.if_icmp .ge 7, 3) := by decide +kernel
theorem d_112_54 : decode (am_b 112) 54 = .ok (.iconst 1, 1) := by decide +kernel
theorem d_112_55 : decode (am_b 112) 55 = .ok (.goto 4, 3) := by decide +kernel
theorem d_112_58 : decode (am_b 112) 58 = .ok (.iconst 0, 1) := by decide +kernel
theorem d_112_59 : decode (am_b 112) 59 = .ok (.iload 4, 2) := by decide +kernel
theorem d_112_61 : decode (am_b 112) 61 = .ok (.iload_n 2, 1) := by decide +kernel
theorem d_112_62 : decode (am_b 112) 62 = .ok (.if_icmp .ge 7, 3) := by decide +kernel
theorem d_112_65 : decode (am_b 112) 65 = .ok (.iconst 1, 1) := by decide +kernel
theorem d_112_66 : decode (am_b 112) 66 = .ok (.goto 4, 3) := by decide +kernel
theorem d_112_69 : decode (am_b 112) 69 = .ok (.iconst 0, 1) := by decide +kernel
theorem d_112_70 : decode (am_b 112) 70 = .ok (.if_icmp .eq 7, 3) := by decide +kernel
theorem d_112_73 : decode (am_b 112) 73 = .ok (.iconst 1, 1) := by decide +kernel
theorem d_112_74 : decode (am_b 112) 74 = .ok (.goto 4, 3) := by decide +kernel
theorem d_112_77 : decode (am_b 112) 77 = .ok (.iconst 0, 1) := by decide +kernel
theorem d_112_78 : decode (am_b 112) 78 = .ok (.istore 6, 2) := by decide +kernel
theorem d_112_80 : decode (am_b 112) 80 = .ok (.aload_n 0, 1) := by decide +kernel
theorem d_112_81 : decode (am_b 112) 81 = .ok (.iload_n 3, 1) := by decide +kernel
theorem d_112_82 : decode (am_b 112) 82 = .ok (.iload 4, 2) := by decide +kernel
theorem d_112_84 : decode (am_b 112) 84 = .ok (.iload 6, 2) := by decide +kernel
theorem d_112_86 : decode (am_b 112) 86 = .ok (.ifCond .eq 12, 3) := by decide +kernel
theorem d_112_89 : decode (am_b 112) 89 = .ok (.iload_n 2, 1) := by decide +kernel
theorem d_112_90 : decode (am_b 112) 90 = .ok (.iload 5, 2) := by decide +kernel
theorem d_112_92 : decode (am_b 112) 92 = .ok (.iload_n 2, 1) := by decide +kernel
theorem d_112_93 : decode (am_b 112) 93 = .ok (.irem, 1) := by decide +kernel
theorem d_112_94 : decode (am_b 112) 94 = .ok (.iadd, 1) := by decide +kernel
theorem d_112_95 : decode (am_b 112) 95 = .ok (.goto 7, 3) := by decide +kernel
theorem d_112_98 : decode (am_b 112) 98 = .ok (.iload 5, 2) := by decide +kernel
theorem d_112_100 : decode (am_b 112) 100 = .ok (.iload_n 2, 1) := by decide +kernel
theorem d_112_101 : decode (am_b 112) 101 = .ok (.irem, 1) := by decide +kernel
theorem d_112_102 : decode (am_b 112) 102 = .ok (.invokevirtual 33, 3) := by decide +kernel
theorem d_112_105 : decode (am_b 112) 105 = .ok (.iinc 4 1, 3) := by decide +kernel
theorem d_112_108 : decode (am_b 112) 108 = .ok (.goto (-85), 3) := by decide +kernel
theorem d_112_111 : decode (am_b 112) 111 = .ok (.iinc 3 1, 3) := by decide +kernel
theorem d_112_114 : decode (am_b 112) 114 = .ok (.goto (-99), 3) := by decide +kernel
theorem d_112_117 : decode (am_b 112) 117 = .ok (.return_, 1) := by decide +kernel
