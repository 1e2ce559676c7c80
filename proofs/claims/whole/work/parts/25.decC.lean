/-! decode rows, printed by wip/whole/gen_decparts.py -/
theorem d_90_0 : decode (am_b 90) 0 = .ok (.iconst 1, 1) := by decide +kernel
theorem d_90_1 : decode (am_b 90) 1 = .ok (.aload_n 0, 1) := by decide +kernel
theorem d_90_2 : decode (am_b 90) 2 = .ok (.getfield 15, 3) := by decide +kernel
theorem d_90_5 : decode (am_b 90) 5 = .ok (.ishl, 1) := by decide +kernel
theorem d_90_6 : decode (am_b 90) 6 = .ok (.iconst 1, 1) := by decide +kernel
theorem d_90_7 : decode (am_b 90) 7 = .ok (.isub, 1) := by decide +kernel
theorem d_90_8 : decode (am_b 90) 8 = .ok (.istore_n 1, 1) := by decide +kernel
theorem d_90_9 : decode (am_b 90) 9 = .ok (.iconst 0, 1) := by decide +kernel
theorem d_90_10 : decode (am_b 90) 10 = .ok (.istore_n 2, 1) := by decide +kernel
theorem d_90_11 : decode (am_b 90) 11 = .ok (.iload_n 2, 1) := by decide +kernel
theorem d_90_12 : decode (am_b 90) 12 = .ok (.aload_n 0, 1) := by decide +kernel
theorem d_90_13 : decode (am_b 90) 13 = .ok (.getfield 15, 3) := by decide +kernel
theorem d_90_16 : decode (am_b 90) 16 = .ok (.if_icmp .ge 101, 3) := by decide +kernel
theorem d_90_19 : decode (am_b 90) 19 = .ok (.iconst 0, 1) := by decide +kernel
theorem d_90_20 : decode (am_b 90) 20 = .ok (.istore_n 3, 1) := by decide +kernel
theorem d_90_21 : decode (am_b 90) 21 = .ok (.iconst 0, 1) := by decide +kernel
theorem d_90_22 : decode (am_b 90) 22 = .ok (.istore 4, 2) := by decide +kernel
theorem d_90_24 : decode (am_b 90) 24 = .ok (.iconst 0, 1) := by decide +kernel
theorem d_90_25 : decode (am_b 90) 25 = .ok (.istore 5, 2) := by decide +kernel
theorem d_90_27 : decode (am_b 90) 27 = .ok (.iload 5, 2) := by decide +kernel
theorem d_90_29 : decode (am_b 90) 29 = .ok (.aload_n 0, 1) := by decide +kernel
theorem d_90_30 : decode (am_b 90) 30 = .ok (.getfield 15, 3) := by decide +kernel
theorem d_90_33 : decode (am_b 90) 33 = .ok (.if_icmp .ge 65, 3) := by decide +kernel
theorem d_90_36 : decode (am_b 90) 36 = .ok (.aload_n 0, 1) := by decide +kernel
theorem d_90_37 : decode (am_b 90) 37 = .ok (.aload_n 0, 1) := by decide +kernel
theorem d_90_38 : decode (am_b 90) 38 = .ok (.iload_n 2, 1) := by decide +kernel
theorem d_90_39 : decode (am_b 90) 39 = .ok (.iload 5, 2) := by decide +kernel
theorem d_90_41 : decode (am_b 90) 41 = .ok (.invokevirtual 23, 3) := by decide +kernel
theorem d_90_44 : decode (am_b 90) 44 = .ok (.invokevirtual 19, 3) := by decide +kernel
theorem d_90_47 : decode (am_b 90) 47 = .ok (.ifCond .eq 17, 3) := by decide +kernel
theorem d_90_50 : decode (am_b 90) 50 = .ok (.aload_n 0, 1) := by decide +kernel
theorem d_90_51 : decode (am_b 90) 51 = .ok (.aload_n 0, 1) := by decide +kernel
theorem d_90_52 : decode (am_b 90) 52 = .ok (.iload 5, 2) := by decide +kernel
theorem d_90_54 : decode (am_b 90) 54 = .ok (.iload_n 2, 1) := by decide +kernel
theorem d_90_55 : decode (am_b 90) 55 = .ok (.invokevirtual 23, 3) := by decide +kernel
theorem d_90_58 : decode (am_b 90) 58 = .ok (.invokevirtual 19, 3) := by decide +kernel
theorem d_90_61 : decode (am_b 90) 61 = .ok (.ifCond .ne 5, 3) := by decide +kernel
theorem d_90_64 : decode (am_b 90) 64 = .ok (.iconst 0, 1) := by decide +kernel
theorem d_90_65 : decode (am_b 90) 65 = .ok (.ireturn, 1) := by decide +kernel
theorem d_90_66 : decode (am_b 90) 66 = .ok (.iload_n 3, 1) := by decide +kernel
theorem d_90_67 : decode (am_b 90) 67 = .ok (.iconst 1, 1) := by decide +kernel
theorem d_90_68 : decode (am_b 90) 68 = .ok (.aload_n 0, 1) := by decide +kernel
theorem d_90_69 : decode (am_b 90) 69 = .ok (.iload_n 2, 1) := by decide +kernel
theorem d_90_70 : decode (am_b 90) 70 = .ok (.iload 5, 2) := by decide +kernel
theorem d_90_72 : decode (am_b 90) 72 = .ok (.invokevirtual 23, 3) := by decide +kernel
theorem d_90_75 : decode (am_b 90) 75 = .ok (.ishl, 1) := by decide +kernel
theorem d_90_76 : decode (am_b 90) 76 = .ok (.ior, 1) := by decide +kernel
theorem d_90_77 : decode (am_b 90) 77 = .ok (.istore_n 3, 1) := by decide +kernel
theorem d_90_78 : decode (am_b 90) 78 = .ok (.iload 4, 2) := by decide +kernel
theorem d_90_80 : decode (am_b 90) 80 = .ok (.iconst 1, 1) := by decide +kernel
theorem d_90_81 : decode (am_b 90) 81 = .ok (.aload_n 0, 1) := by decide +kernel
theorem d_90_82 : decode (am_b 90) 82 = .ok (.iload 5, 2) := by decide +kernel
theorem d_90_84 : decode (am_b 90) 84 = .ok (.iload_n 2, 1) := by decide +kernel
theorem d_90_85 : decode (am_b 90) 85 = .ok (.invokevirtual 23, 3) := by decide +kernel
theorem d_90_88 : decode (am_b 90) 88 = .ok (.ishl, 1) := by decide +kernel
theorem d_90_89 : decode (am_b 90) 89 = .ok (.ior, 1) := by decide +kernel
theorem d_90_90 : decode (am_b 90) 90 = .ok (.istore 4, 2) := by decide +kernel
theorem d_90_92 : decode (am_b 90) 92 = .ok (.iinc 5 1, 3) := by decide +kernel
theorem d_90_95 : decode (am_b 90) 95 = .ok (.goto (-68), 3) := by decide +kernel
theorem d_90_98 : decode (am_b 90) 98 = .ok (.iload_n 3, 1) := by decide +kernel
theorem d_90_99 : decode (am_b 90) 99 = .ok (.iload_n 1, 1) := by decide +kernel
theorem d_90_100 : decode (am_b 90) 100 = .ok (.if_icmp .ne 9, 3) := by decide +kernel
theorem d_90_103 : decode (am_b 90) 103 = .ok (.iload 4, 2) := by decide +kernel
theorem d_90_105 : decode (am_b 90) 105 = .ok (.iload_n 1, 1) := by decide +kernel
theorem d_90_106 : decode (am_b 90) 106 = .ok (.if_icmp .eq 5, 3) := by decide +kernel
theorem d_90_109 : decode (am_b 90) 109 = .ok (.iconst 0, 1) := by decide +kernel
theorem d_90_110 : decode (am_b 90) 110 = .ok (.ireturn, 1) := by decide +kernel
theorem d_90_111 : decode (am_b 90) 111 = .ok (.iinc 2 1, 3) := by decide +kernel
theorem d_90_114 : decode (am_b 90) 114 = .ok (.goto (-103), 3) := by decide +kernel
theorem d_90_117 : decode (am_b 90) 117 = .ok (.iconst 1, 1) := by decide +kernel
theorem d_90_118 : decode (am_b 90) 118 = .ok (.ireturn, 1) := by decide +kernel
theorem d_91_0 : decode (am_b 91) 0 = .ok (.aload_n 0, 1) := by decide +kernel
theorem d_91_1 : decode (am_b 91) 1 = .ok (.getfield 9, 3) := by decide +kernel
theorem d_91_4 : decode (am_b 91) 4 = .ok (.aload_n 0, 1) := by decide +kernel
theorem d_91_5 : decode (am_b 91) 5 = .ok (.getfield 15, 3) := by decide +kernel
theorem d_91_8 : decode (am_b 91) 8 = .ok (.iload_n 1, 1) := by decide +kernel
theorem d_91_9 : decode (am_b 91) 9 = .ok (.imul, 1) := by decide +kernel
theorem d_91_10 : decode (am_b 91) 10 = .ok (.iload_n 2, 1) := by decide +kernel
theorem d_91_11 : decode (am_b 91) 11 = .ok (.iadd, 1) := by decide +kernel
theorem d_91_12 : decode (am_b 91) 12 = .ok (.iaload, 1) := by decide +kernel
theorem d_91_13 : decode (am_b 91) 13 = .ok (.ireturn, 1) := by decide +kernel
theorem d_92_0 : decode (am_b 92) 0 = .ok (.iload_n 1, 1) := by decide +kernel
theorem d_92_1 : decode (am_b 92) 1 = .ok (.ifCond .lt 15, 3) := by decide +kernel
theorem d_92_4 : decode (am_b 92) 4 = .ok (.iload_n 1, 1) := by decide +kernel
theorem d_92_5 : decode (am_b 92) 5 = .ok (.aload_n 0, 1) := by decide +kernel
theorem d_92_6 : decode (am_b 92) 6 = .ok (.getfield 15, 3) := by decide +kernel
theorem d_92_9 : decode (am_b 92) 9 = .ok (.if_icmp .ge 7, 3) := by decide +kernel
theorem d_92_12 : decode (am_b 92) 12 = .ok (.iconst 1, 1) := by decide +kernel
theorem d_92_13 : decode (am_b 92) 13 = .ok (.goto 4, 3) := by decide +kernel
theorem d_92_16 : decode (am_b 92) 16 = .ok (.iconst 0, 1) := by decide +kernel
theorem d_92_17 : decode (am_b 92) 17 = .ok (.ireturn, 1) := by decide +kernel
theorem d_93_0 : decode (am_b 93) 0 = .ok (.aload_n 0, 1) := by decide +kernel
theorem d_93_1 : decode (am_b 93) 1 = .ok (.aload_n 1, 1) := by decide +kernel
theorem d_93_2 : decode (am_b 93) 2 = .ok (.getfield 15, 3) := by decide +kernel
theorem d_93_5 : decode (am_b 93) 5 = .ok (.putfield 15, 3) := by decide +kernel
theorem d_93_8 : decode (am_b 93) 8 = .ok (.aload_n 1, 1) := by decide +kernel
theorem d_93_9 : decode (am_b 93) 9 = .ok (.getfield 9, 3) := by decide +kernel
theorem d_93_12 : decode (am_b 93) 12 = .ok (.iconst 0, 1) := by decide +kernel
theorem d_93_13 : decode (am_b 93) 13 = .ok (.aload_n 0, 1) := by decide +kernel
theorem d_93_14 : decode (am_b 93) 14 = .ok (.getfield 9, 3) := by decide +kernel
theorem d_93_17 : decode (am_b 93) 17 = .ok (.iconst 0, 1) := by decide +kernel
theorem d_93_18 : decode (am_b 93) 18 = .ok (.bipush 36, 2) := by decide +kernel
theorem d_93_20 : decode (am_b 93) 20 = .ok (.invokestatic 27, 3) := by decide +kernel
theorem d_93_23 : decode (am_b 93) 23 = .ok (.return_, 1) := by decide +kernel
theorem d_94_0 : decode (am_b 94) 0 = .ok (.aload_n 0, 1) := by decide +kernel
theorem d_94_1 : decode (am_b 94) 1 = .ok (.iload_n 1, 1) := by decide +kernel
theorem d_94_2 : decode (am_b 94) 2 = .ok (.putfield 15, 3) := by decide +kernel
theorem d_94_5 : decode (am_b 94) 5 = .ok (.iconst 0, 1) := by decide +kernel
theorem d_94_6 : decode (am_b 94) 6 = .ok (.istore_n 2, 1) := by decide +kernel
theorem d_94_7 : decode (am_b 94) 7 = .ok (.iload_n 2, 1) := by decide +kernel
theorem d_94_8 : decode (am_b 94) 8 = .ok (.iload_n 1, 1) := by decide +kernel
theorem d_94_9 : decode (am_b 94) 9 = .ok (.if_icmp .ge 46, 3) := by decide +kernel
theorem d_94_12 : decode (am_b 94) 12 = .ok (.iconst 0, 1) := by decide +kernel
theorem d_94_13 : decode (am_b 94) 13 = .ok (.istore_n 3, 1) := by decide +kernel
theorem d_94_14 : decode (am_b 94) 14 = .ok (.iload_n 3, 1) := by decide +kernel
theorem d_94_15 : decode (am_b 94) 15 = .ok (.iload_n 1, 1) := by decide +kernel
theorem d_94_16 : decode (am_b 94) 16 = .ok (.if_icmp .ge 33, 3) := by decide +kernel
theorem d_94_19 : decode (am_b 94) 19 = .ok (.aload_n 0, 1) := by decide +kernel
theorem d_94_20 : decode (am_b 94) 20 = .ok (.iload_n 2, 1) := by decide +kernel
theorem d_94_21 : decode (am_b 94) 21 = .ok (.iload_n 3, 1) := by decide +kernel
theorem d_94_22 : decode (am_b 94) 22 = .ok (.iload_n 2, 1) := by decide +kernel
theorem d_94_23 : decode (am_b 94) 23 = .ok (.iload_n 3, 1) := by decide +kernel
theorem d_94_24 : decode (am_b 94) 24 = .ok (.iadd, 1) := by decide +kernel
theorem d_94_25 : decode (am_b 94) 25 = .ok (.iload_n 1, 1) := by decide +kernel
theorem d_94_26 : decode (am_b 94) 26 = .ok (.if_icmp .ge 9, 3) := by decide +kernel
theorem d_94_29 : decode (am_b 94) 29 = .ok (.iload_n 2, 1) := by decide +kernel
theorem d_94_30 : decode (am_b 94) 30 = .ok (.iload_n 3, 1) := by decide +kernel
theorem d_94_31 : decode (am_b 94) 31 = .ok (.iadd, 1) := by decide +kernel
theorem d_94_32 : decode (am_b 94) 32 = .ok (.goto 8, 3) := by decide +kernel
theorem d_94_35 : decode (am_b 94) 35 = .ok (.iload_n 2, 1) := by decide +kernel
theorem d_94_36 : decode (am_b 94) 36 = .ok (.iload_n 3, 1) := by decide +kernel
theorem d_94_37 : decode (am_b 94) 37 = .ok (.iadd, 1) := by decide +kernel
theorem d_94_38 : decode (am_b 94) 38 = .ok (.iload_n 1, 1) := by decide +kernel
theorem d_94_39 : decode (am_b 94) 39 = .ok (.isub, 1) := by decide +kernel
theorem d_94_40 : decode (am_b 94) 40 = .ok (.invokevirtual 33, 3) := by decide +kernel
theorem d_94_43 : decode (am_b 94) 43 = .ok (.iinc 3 1, 3) := by decide +kernel
theorem d_94_46 : decode (am_b 94) 46 = .ok (.goto (-32), 3) := by decide +kernel
theorem d_94_49 : decode (am_b 94) 49 = .ok (.iinc 2 1, 3) := by decide +kernel
theorem d_94_52 : decode (am_b 94) 52 = .ok (.goto (-45), 3) := by decide +kernel
theorem d_94_55 : decode (am_b 94) 55 = .ok (.return_, 1) := by decide +kernel
theorem d_95_0 : decode (am_b 95) 0 = .ok (.aload_n 0, 1) := by decide +kernel
theorem d_95_1 : decode (am_b 95) 1 = .ok (.getfield 9, 3) := by decide +kernel
theorem d_95_4 : decode (am_b 95) 4 = .ok (.aload_n 0, 1) := by decide +kernel
theorem d_95_5 : decode (am_b 95) 5 = .ok (.getfield 15, 3) := by decide +kernel
theorem d_95_8 : decode (am_b 95) 8 = .ok (.iload_n 1, 1) := by decide +kernel
theorem d_95_9 : decode (am_b 95) 9 = .ok (.imul, 1) := by decide +kernel
theorem d_95_10 : decode (am_b 95) 10 = .ok (.iload_n 2, 1) := by decide +kernel
theorem d_95_11 : decode (am_b 95) 11 = .ok (.iadd, 1) := by decide +kernel
theorem d_95_12 : decode (am_b 95) 12 = .ok (.iload_n 3, 1) := by decide +kernel
theorem d_95_13 : decode (am_b 95) 13 = .ok (.iastore, 1) := by decide +kernel
theorem d_95_14 : decode (am_b 95) 14 = .ok (.return_, 1) := by decide +kernel
theorem d_96_0 : decode (am_b 96) 0 = .ok (.aload_n 0, 1) := by decide +kernel
theorem d_96_1 : decode (am_b 96) 1 = .ok (.aload_n 1, 1) := by decide +kernel
theorem d_96_2 : decode (am_b 96) 2 = .ok (.getfield 15, 3) := by decide +kernel
theorem d_96_5 : decode (am_b 96) 5 = .ok (.putfield 15, 3) := by decide +kernel
theorem d_96_8 : decode (am_b 96) 8 = .ok (.iconst 0, 1) := by decide +kernel
theorem d_96_9 : decode (am_b 96) 9 = .ok (.istore 4, 2) := by decide +kernel
theorem d_96_11 : decode (am_b 96) 11 = .ok (.iload 4, 2) := by decide +kernel
theorem d_96_13 : decode (am_b 96) 13 = .ok (.aload_n 0, 1) := by decide +kernel
theorem d_96_14 : decode (am_b 96) 14 = .ok (.getfield 15, 3) := by decide +kernel
theorem d_96_17 : decode (am_b 96) 17 = .ok (.if_icmp .ge 57, 3) := by decide +kernel
theorem d_96_20 : decode (am_b 96) 20 = .ok (.aload_n 1, 1) := by decide +kernel
theorem d_96_21 : decode (am_b 96) 21 = .ok (.iload 4, 2) := by decide +kernel
theorem d_96_23 : decode (am_b 96) 23 = .ok (.iload_n 3, 1) := by decide +kernel
theorem d_96_24 : decode (am_b 96) 24 = .ok (.invokevirtual 42, 3) := by decide +kernel
theorem d_96_27 : decode (am_b 96) 27 = .ok (.istore 5, 2) := by decide +kernel
theorem d_96_29 : decode (am_b 96) 29 = .ok (.iconst 0, 1) := by decide +kernel
theorem d_96_30 : decode (am_b 96) 30 = .ok (.istore 6, 2) := by decide +kernel
theorem d_96_32 : decode (am_b 96) 32 = .ok (.iload 6, 2) := by decide +kernel
theorem d_96_34 : decode (am_b 96) 34 = .ok (.aload_n 0, 1) := by decide +kernel
theorem d_96_35 : decode (am_b 96) 35 = .ok (.getfield 15, 3) := by decide +kernel
theorem d_96_38 : decode (am_b 96) 38 = .ok (.if_icmp .ge 30, 3) := by decide +kernel
theorem d_96_41 : decode (am_b 96) 41 = .ok (.aload_n 0, 1) := by decide +kernel
theorem d_96_42 : decode (am_b 96) 42 = .ok (.iload 4, 2) := by decide +kernel
theorem d_96_44 : decode (am_b 96) 44 = .ok (.aload_n 1, 1) := by decide +kernel
theorem d_96_45 : decode (am_b 96) 45 = .ok (.iload_n 2, 1) := by decide +kernel
theorem d_96_46 : decode (am_b 96) 46 = .ok (.iload 6, 2) := by decide +kernel
theorem d_96_48 : decode (am_b 96) 48 = .ok (.invokevirtual 23, 3) := by decide +kernel
theorem d_96_51 : decode (am_b 96) 51 = .ok (.aload_n 1, 1) := by decide +kernel
theorem d_96_52 : decode (am_b 96) 52 = .ok (.iload 5, 2) := by decide +kernel
theorem d_96_54 : decode (am_b 96) 54 = .ok (.iload 6, 2) := by decide +kernel
theorem d_96_56 : decode (am_b 96) 56 = .ok (.invokevirtual 23, 3) := by decide +kernel
theorem d_96_59 : decode (am_b 96) 59 = .ok (.invokevirtual 33, 3) := by decide +kernel
theorem d_96_62 : decode (am_b 96) 62 = .ok (.iinc 6 1, 3) := by decide +kernel
theorem d_96_65 : decode (am_b 96) 65 = .ok (.goto (-33), 3) := by decide +kernel
theorem d_96_68 : decode (am_b 96) 68 = .ok (.iinc 4 1, 3) := by decide +kernel
theorem d_96_71 : decode (am_b 96) 71 = .ok (.goto (-60), 3) := by decide +kernel
theorem d_96_74 : decode (am_b 96) 74 = .ok (.return_, 1) := by decide +kernel
theorem d_97_0 : decode (am_b 97) 0 = .ok (.iconst 0, 1) := by decide +kernel
theorem d_97_1 : decode (am_b 97) 1 = .ok (.istore_n 3, 1) := by decide +kernel
theorem d_97_2 : decode (am_b 97) 2 = .ok (.iload_n 3, 1) := by decide +kernel
theorem d_97_3 : decode (am_b 97) 3 = .ok (.aload_n 0, 1) := by decide +kernel
theorem d_97_4 : decode (am_b 97) 4 = .ok (.getfield 15, 3) := by decide +kernel
theorem d_97_7 : decode (am_b 97) 7 = .ok (.if_icmp .ge 21, 3) := by decide +kernel
theorem d_97_10 : decode (am_b 97) 10 = .ok (.aload_n 0, 1) := by decide +kernel
theorem d_97_11 : decode (am_b 97) 11 = .ok (.iload_n 3, 1) := by decide +kernel
theorem d_97_12 : decode (am_b 97) 12 = .ok (.iload_n 2, 1) := by decide +kernel
theorem d_97_13 : decode (am_b 97) 13 = .ok (.invokevirtual 23, 3) := by decide +kernel
theorem d_97_16 : decode (am_b 97) 16 = .ok (.iload_n 1, 1) := by decide +kernel
theorem d_97_17 : decode (am_b 97) 17 = .ok (.if_icmp .ne 5, 3) := by decide +kernel
theorem d_97_20 : decode (am_b 97) 20 = .ok (.iload_n 3, 1) := by decide +kernel
theorem d_97_21 : decode (am_b 97) 21 = .ok (.ireturn, 1) := by decide +kernel
theorem d_97_22 : decode (am_b 97) 22 = .ok (.iinc 3 1, 3) := by decide +kernel
theorem d_97_25 : decode (am_b 97) 25 = .ok (.goto (-23), 3) := by decide +kernel
theorem d_97_28 : decode (am_b 97) 28 = .ok (.iconst (-1), 1) := by decide +kernel
theorem d_97_29 : decode (am_b 97) 29 = .ok (.ireturn, 1) := by decide +kernel
theorem d_98_0 : decode (am_b 98) 0 = .ok (.aload_n 0, 1) := by decide +kernel
theorem d_98_1 : decode (am_b 98) 1 = .ok (.aload_n 1, 1) := by decide +kernel
theorem d_98_2 : decode (am_b 98) 2 = .ok (.getfield 15, 3) := by decide +kernel
theorem d_98_5 : decode (am_b 98) 5 = .ok (.putfield 15, 3) := by decide +kernel
theorem d_98_8 : decode (am_b 98) 8 = .ok (.iconst 0, 1) := by decide +kernel
theorem d_98_9 : decode (am_b 98) 9 = .ok (.istore_n 3, 1) := by decide +kernel
theorem d_98_10 : decode (am_b 98) 10 = .ok (.iload_n 3, 1) := by decide +kernel
theorem d_98_11 : decode (am_b 98) 11 = .ok (.aload_n 0, 1) := by decide +kernel
theorem d_98_12 : decode (am_b 98) 12 = .ok (.getfield 15, 3) := by decide +kernel
theorem d_98_15 : decode (am_b 98) 15 = .ok (.if_icmp .ge 42, 3) := by decide +kernel
theorem d_98_18 : decode (am_b 98) 18 = .ok (.iconst 0, 1) := by decide +kernel
theorem d_98_19 : decode (am_b 98) 19 = .ok (.istore 4, 2) := by decide +kernel
theorem d_98_21 : decode (am_b 98) 21 = .ok (.iload 4, 2) := by decide +kernel
theorem d_98_23 : decode (am_b 98) 23 = .ok (.aload_n 0, 1) := by decide +kernel
theorem d_98_24 : decode (am_b 98) 24 = .ok (.getfield 15, 3) := by decide +kernel
theorem d_98_27 : decode (am_b 98) 27 = .ok (.if_icmp .ge 24, 3) := by decide +kernel
theorem d_98_30 : decode (am_b 98) 30 = .ok (.aload_n 0, 1) := by decide +kernel
theorem d_98_31 : decode (am_b 98) 31 = .ok (.iload_n 2, 1) := by decide +kernel
theorem d_98_32 : decode (am_b 98) 32 = .ok (.iload_n 3, 1) := by decide +kernel
theorem d_98_33 : decode (am_b 98) 33 = .ok (.iload 4, 2) := by decide +kernel
theorem d_98_35 : decode (am_b 98) 35 = .ok (.aload_n 1, 1) := by decide +kernel
theorem d_98_36 : decode (am_b 98) 36 = .ok (.iload_n 3, 1) := by decide +kernel
theorem d_98_37 : decode (am_b 98) 37 = .ok (.iload 4, 2) := by decide +kernel
theorem d_98_39 : decode (am_b 98) 39 = .ok (.invokevirtual 23, 3) := by decide +kernel
theorem d_98_42 : decode (am_b 98) 42 = .ok (.invokevirtual 45, 3) := by decide +kernel
theorem d_98_45 : decode (am_b 98) 45 = .ok (.iinc 4 1, 3) := by decide +kernel
theorem d_98_48 : decode (am_b 98) 48 = .ok (.goto (-27), 3) := by decide +kernel
theorem d_98_51 : decode (am_b 98) 51 = .ok (.iinc 3 1, 3) := by decide +kernel
theorem d_98_54 : decode (am_b 98) 54 = .ok (.goto (-44), 3) := by decide +kernel
theorem d_98_57 : decode (am_b 98) 57 = .ok (.return_, 1) := by decide +kernel
theorem d_99_0 : decode (am_b 99) 0 = .ok (.iload_n 1, 1) := by decide +kernel
theorem d_99_1 : decode (am_b 99) 1 = .ok (.tableswitch 90 1 5 #[35, 46, 57, 68, 79], 35) := by decide +kernel
theorem d_99_36 : decode (am_b 99) 36 = .ok (.aload_n 0, 1) := by decide +kernel
theorem d_99_37 : decode (am_b 99) 37 = .ok (.iload_n 3, 1) := by decide +kernel
theorem d_99_38 : decode (am_b 99) 38 = .ok (.iload_n 2, 1) := by decide +kernel
theorem d_99_39 : decode (am_b 99) 39 = .ok (.iload 4, 2) := by decide +kernel
theorem d_99_41 : decode (am_b 99) 41 = .ok (.invokevirtual 33, 3) := by decide +kernel
theorem d_99_44 : decode (am_b 99) 44 = .ok (.goto 55, 3) := by decide +kernel
theorem d_99_47 : decode (am_b 99) 47 = .ok (.aload_n 0, 1) := by decide +kernel
theorem d_99_48 : decode (am_b 99) 48 = .ok (.iload_n 2, 1) := by decide +kernel
theorem d_99_49 : decode (am_b 99) 49 = .ok (.iload 4, 2) := by decide +kernel
theorem d_99_51 : decode (am_b 99) 51 = .ok (.iload_n 3, 1) := by decide +kernel
theorem d_99_52 : decode (am_b 99) 52 = .ok (.invokevirtual 33, 3) := by decide +kernel
theorem d_99_55 : decode (am_b 99) 55 = .ok (.goto 44, 3) := by decide +kernel
theorem d_99_58 : decode (am_b 99) 58 = .ok (.aload_n 0, 1) := by decide +kernel
theorem d_99_59 : decode (am_b 99) 59 = .ok (.iload 4, 2) := by decide +kernel
theorem d_99_61 : decode (am_b 99) 61 = .ok (.iload_n 2, 1) := by decide +kernel
theorem d_99_62 : decode (am_b 99) 62 = .ok (.iload_n 3, 1) := by decide +kernel
theorem d_99_63 : decode (am_b 99) 63 = .ok (.invokevirtual 33, 3) := by decide +kernel
theorem d_99_66 : decode (am_b 99) 66 = .ok (.goto 33, 3) := by decide +kernel
theorem d_99_69 : decode (am_b 99) 69 = .ok (.aload_n 0, 1) := by decide +kernel
theorem d_99_70 : decode (am_b 99) 70 = .ok (.iload_n 3, 1) := by decide +kernel
theorem d_99_71 : decode (am_b 99) 71 = .ok (.iload 4, 2) := by decide +kernel
theorem d_99_73 : decode (am_b 99) 73 = .ok (.iload_n 2, 1) := by decide +kernel
theorem d_99_74 : decode (am_b 99) 74 = .ok (.invokevirtual 33, 3) := by decide +kernel
theorem d_99_77 : decode (am_b 99) 77 = .ok (.goto 22, 3) := by decide +kernel
theorem d_99_80 : decode (am_b 99) 80 = .ok (.aload_n 0, 1) := by decide +kernel
theorem d_99_81 : decode (am_b 99) 81 = .ok (.iload 4, 2) := by decide +kernel
theorem d_99_83 : decode (am_b 99) 83 = .ok (.iload_n 3, 1) := by decide +kernel
theorem d_99_84 : decode (am_b 99) 84 = .ok (.iload_n 2, 1) := by decide +kernel
theorem d_99_85 : decode (am_b 99) 85 = .ok (.invokevirtual 33, 3) := by decide +kernel
theorem d_99_88 : decode (am_b 99) 88 = .ok (.goto 11, 3) := by decide +kernel
theorem d_99_91 : decode (am_b 99) 91 = .ok (.aload_n 0, 1) := by decide +kernel
theorem d_99_92 : decode (am_b 99) 92 = .ok (.iload_n 2, 1) := by decide +kernel
theorem d_99_93 : decode (am_b 99) 93 = .ok (.iload_n 3, 1) := by decide +kernel
theorem d_99_94 : decode (am_b 99) 94 = .ok (.iload 4, 2) := by decide +kernel
theorem d_99_96 : decode (am_b 99) 96 = .ok (.invokevirtual 33, 3) := by decide +kernel
theorem d_99_99 : decode (am_b 99) 99 = .ok (.return_, 1) := by decide +kernel
theorem d_100_0 : decode (am_b 100) 0 = .ok (.iload_n 1, 1) := by decide +kernel
theorem d_100_1 : decode (am_b 100) 1 = .ok (.iload_n 2, 1) := by decide +kernel
theorem d_100_2 : decode (am_b 100) 2 = .ok (.if_icmp .eq 23, 3) := by decide +kernel
theorem d_100_5 : decode (am_b 100) 5 = .ok (.aload_n 0, 1) := by decide +kernel
theorem d_100_6 : decode (am_b 100) 6 = .ok (.iload_n 1, 1) := by decide +kernel
theorem d_100_7 : decode (am_b 100) 7 = .ok (.invokevirtual 19, 3) := by decide +kernel
theorem d_100_10 : decode (am_b 100) 10 = .ok (.ifCond .eq 15, 3) := by decide +kernel
theorem d_100_13 : decode (am_b 100) 13 = .ok (.aload_n 0, 1) := by decide +kernel
theorem d_100_14 : decode (am_b 100) 14 = .ok (.iload_n 2, 1) := by decide +kernel
theorem d_100_15 : decode (am_b 100) 15 = .ok (.invokevirtual 19, 3) := by decide +kernel
theorem d_100_18 : decode (am_b 100) 18 = .ok (.ifCond .eq 7, 3) := by decide +kernel
theorem d_100_21 : decode (am_b 100) 21 = .ok (.iconst 1, 1) := by decide +kernel
theorem d_100_22 : decode (am_b 100) 22 = .ok (.goto 4, 3) := by decide +kernel
theorem d_100_25 : decode (am_b 100) 25 = .ok (.iconst 0, 1) := by decide +kernel
theorem d_100_26 : decode (am_b 100) 26 = .ok (.ireturn, 1) := by decide +kernel
theorem d_101_0 : decode (am_b 101) 0 = .ok (.iconst 0, 1) := by decide +kernel
theorem d_101_1 : decode (am_b 101) 1 = .ok (.istore 4, 2) := by decide +kernel
theorem d_101_3 : decode (am_b 101) 3 = .ok (.iload_n 3, 1) := by decide +kernel
theorem d_101_4 : decode (am_b 101) 4 = .ok (.istore 5, 2) := by decide +kernel
theorem d_101_6 : decode (am_b 101) 6 = .ok (.iconst 0, 1) := by decide +kernel
theorem d_101_7 : decode (am_b 101) 7 = .ok (.istore 6, 2) := by decide +kernel
theorem d_101_9 : decode (am_b 101) 9 = .ok (.iload 6, 2) := by decide +kernel
theorem d_101_11 : decode (am_b 101) 11 = .ok (.aload_n 0, 1) := by decide +kernel
theorem d_101_12 : decode (am_b 101) 12 = .ok (.getfield 15, 3) := by decide +kernel
theorem d_101_15 : decode (am_b 101) 15 = .ok (.if_icmp .ge 50, 3) := by decide +kernel
theorem d_101_18 : decode (am_b 101) 18 = .ok (.aload_n 0, 1) := by decide +kernel
theorem d_101_19 : decode (am_b 101) 19 = .ok (.iload 5, 2) := by decide +kernel
theorem d_101_21 : decode (am_b 101) 21 = .ok (.invokevirtual 19, 3) := by decide +kernel
theorem d_101_24 : decode (am_b 101) 24 = .ok (.ifCond .eq 41, 3) := by decide +kernel
theorem d_101_27 : decode (am_b 101) 27 = .ok (.iload 4, 2) := by decide +kernel
theorem d_101_29 : decode (am_b 101) 29 = .ok (.iconst 1, 1) := by decide +kernel
theorem d_101_30 : decode (am_b 101) 30 = .ok (.iload 5, 2) := by decide +kernel
theorem d_101_32 : decode (am_b 101) 32 = .ok (.ishl, 1) := by decide +kernel
theorem d_101_33 : decode (am_b 101) 33 = .ok (.ior, 1) := by decide +kernel
theorem d_101_34 : decode (am_b 101) 34 = .ok (.istore 4, 2) := by decide +kernel
theorem d_101_36 : decode (am_b 101) 36 = .ok (.aload_n 0, 1) := by decide +kernel
theorem d_101_37 : decode (am_b 101) 37 = .ok (.iload_n 1, 1) := by decide +kernel
theorem d_101_38 : decode (am_b 101) 38 = .ok (.aload_n 0, 1) := by decide +kernel
theorem d_101_39 : decode (am_b 101) 39 = .ok (.iload_n 2, 1) := by decide +kernel
theorem d_101_40 : decode (am_b 101) 40 = .ok (.iload 5, 2) := by decide +kernel
theorem d_101_42 : decode (am_b 101) 42 = .ok (.invokevirtual 23, 3) := by decide +kernel
theorem d_101_45 : decode (am_b 101) 45 = .ok (.invokevirtual 53, 3) := by decide +kernel
theorem d_101_48 : decode (am_b 101) 48 = .ok (.istore 5, 2) := by decide +kernel
theorem d_101_50 : decode (am_b 101) 50 = .ok (.iload 5, 2) := by decide +kernel
theorem d_101_52 : decode (am_b 101) 52 = .ok (.iload_n 3, 1) := by decide +kernel
theorem d_101_53 : decode (am_b 101) 53 = .ok (.if_icmp .ne 6, 3) := by decide +kernel
theorem d_101_56 : decode (am_b 101) 56 = .ok (.goto 9, 3) := by decide +kernel
theorem d_101_59 : decode (am_b 101) 59 = .ok (.iinc 6 1, 3) := by decide +kernel
theorem d_101_62 : decode (am_b 101) 62 = .ok (.goto (-53), 3) := by decide +kernel
theorem d_101_65 : decode (am_b 101) 65 = .ok (.iload 4, 2) := by decide +kernel
theorem d_101_67 : decode (am_b 101) 67 = .ok (.ireturn, 1) := by decide +kernel
theorem d_102_0 : decode (am_b 102) 0 = .ok (.iconst 0, 1) := by decide +kernel
theorem d_102_1 : decode (am_b 102) 1 = .ok (.istore_n 3, 1) := by decide +kernel
theorem d_102_2 : decode (am_b 102) 2 = .ok (.iload_n 3, 1) := by decide +kernel
theorem d_102_3 : decode (am_b 102) 3 = .ok (.aload_n 0, 1) := by decide +kernel
theorem d_102_4 : decode (am_b 102) 4 = .ok (.getfield 15, 3) := by decide +kernel
theorem d_102_7 : decode (am_b 102) 7 = .ok (.if_icmp .ge 21, 3) := by decide +kernel
theorem d_102_10 : decode (am_b 102) 10 = .ok (.aload_n 0, 1) := by decide +kernel
theorem d_102_11 : decode (am_b 102) 11 = .ok (.iload_n 1, 1) := by decide +kernel
theorem d_102_12 : decode (am_b 102) 12 = .ok (.iload_n 3, 1) := by decide +kernel
theorem d_102_13 : decode (am_b 102) 13 = .ok (.invokevirtual 23, 3) := by decide +kernel
theorem d_102_16 : decode (am_b 102) 16 = .ok (.iload_n 2, 1) := by decide +kernel
theorem d_102_17 : decode (am_b 102) 17 = .ok (.if_icmp .ne 5, 3) := by decide +kernel
theorem d_102_20 : decode (am_b 102) 20 = .ok (.iload_n 3, 1) := by decide +kernel
theorem d_102_21 : decode (am_b 102) 21 = .ok (.ireturn, 1) := by decide +kernel
theorem d_102_22 : decode (am_b 102) 22 = .ok (.iinc 3 1, 3) := by decide +kernel
theorem d_102_25 : decode (am_b 102) 25 = .ok (.goto (-23), 3) := by decide +kernel
theorem d_102_28 : decode (am_b 102) 28 = .ok (.iconst (-1), 1) := by decide +kernel
theorem d_102_29 : decode (am_b 102) 29 = .ok (.ireturn, 1) := by decide +kernel
theorem d_103_0 : decode (am_b 103) 0 = .ok (.iconst 0, 1) := by decide +kernel
theorem d_103_1 : decode (am_b 103) 1 = .ok (.istore 4, 2) := by decide +kernel
theorem d_103_3 : decode (am_b 103) 3 = .ok (.iload 4, 2) := by decide +kernel
theorem d_103_5 : decode (am_b 103) 5 = .ok (.aload_n 0, 1) := by decide +kernel
theorem d_103_6 : decode (am_b 103) 6 = .ok (.getfield 15, 3) := by decide +kernel
theorem d_103_9 : decode (am_b 103) 9 = .ok (.if_icmp .ge 43, 3) := by decide +kernel
theorem d_103_12 : decode (am_b 103) 12 = .ok (.iload_n 3, 1) := by decide +kernel
theorem d_103_13 : decode (am_b 103) 13 = .ok (.iload 4, 2) := by decide +kernel
theorem d_103_15 : decode (am_b 103) 15 = .ok (.ishr, 1) := by decide +kernel
theorem d_103_16 : decode (am_b 103) 16 = .ok (.iconst 1, 1) := by decide +kernel
theorem d_103_17 : decode (am_b 103) 17 = .ok (.iand, 1) := by decide +kernel
theorem d_103_18 : decode (am_b 103) 18 = .ok (.ifCond .eq 28, 3) := by decide +kernel
theorem d_103_21 : decode (am_b 103) 21 = .ok (.aload_n 0, 1) := by decide +kernel
theorem d_103_22 : decode (am_b 103) 22 = .ok (.getfield 9, 3) := by decide +kernel
theorem d_103_25 : decode (am_b 103) 25 = .ok (.aload_n 0, 1) := by decide +kernel
theorem d_103_26 : decode (am_b 103) 26 = .ok (.getfield 15, 3) := by decide +kernel
theorem d_103_29 : decode (am_b 103) 29 = .ok (.iload_n 1, 1) := by decide +kernel
theorem d_103_30 : decode (am_b 103) 30 = .ok (.imul, 1) := by decide +kernel
theorem d_103_31 : decode (am_b 103) 31 = .ok (.iload 4, 2) := by decide +kernel
theorem d_103_33 : decode (am_b 103) 33 = .ok (.iadd, 1) := by decide +kernel
theorem d_103_34 : decode (am_b 103) 34 = .ok (.aload_n 0, 1) := by decide +kernel
theorem d_103_35 : decode (am_b 103) 35 = .ok (.getfield 15, 3) := by decide +kernel
theorem d_103_38 : decode (am_b 103) 38 = .ok (.iload_n 2, 1) := by decide +kernel
theorem d_103_39 : decode (am_b 103) 39 = .ok (.imul, 1) := by decide +kernel
theorem d_103_40 : decode (am_b 103) 40 = .ok (.iload 4, 2) := by decide +kernel
theorem d_103_42 : decode (am_b 103) 42 = .ok (.iadd, 1) := by decide +kernel
theorem d_103_43 : decode (am_b 103) 43 = .ok (.invokestatic 56, 3) := by decide +kernel
theorem d_103_46 : decode (am_b 103) 46 = .ok (.iinc 4 1, 3) := by decide +kernel
theorem d_103_49 : decode (am_b 103) 49 = .ok (.goto (-46), 3) := by decide +kernel
theorem d_103_52 : decode (am_b 103) 52 = .ok (.return_, 1) := by decide +kernel
theorem d_104_0 : decode (am_b 104) 0 = .ok (.aload_n 2, 1) := by decide +kernel
theorem d_104_1 : decode (am_b 104) 1 = .ok (.getfield 15, 3) := by decide +kernel
theorem d_104_4 : decode (am_b 104) 4 = .ok (.istore_n 3, 1) := by decide +kernel
theorem d_104_5 : decode (am_b 104) 5 = .ok (.aload_n 0, 1) := by decide +kernel
theorem d_104_6 : decode (am_b 104) 6 = .ok (.aload_n 1, 1) := by decide +kernel
theorem d_104_7 : decode (am_b 104) 7 = .ok (.getfield 15, 3) := by decide +kernel
theorem d_104_10 : decode (am_b 104) 10 = .ok (.iload_n 3, 1) := by decide +kernel
theorem d_104_11 : decode (am_b 104) 11 = .ok (.imul, 1) := by decide +kernel
theorem d_104_12 : decode (am_b 104) 12 = .ok (.putfield 15, 3) := by decide +kernel
theorem d_104_15 : decode (am_b 104) 15 = .ok (.iconst 0, 1) := by decide +kernel
theorem d_104_16 : decode (am_b 104) 16 = .ok (.istore 4, 2) := by decide +kernel
theorem d_104_18 : decode (am_b 104) 18 = .ok (.iload 4, 2) := by decide +kernel
theorem d_104_20 : decode (am_b 104) 20 = .ok (.aload_n 1, 1) := by decide +kernel
theorem d_104_21 : decode (am_b 104) 21 = .ok (.getfield 15, 3) := by decide +kernel
theorem d_104_24 : decode (am_b 104) 24 = .ok (.if_icmp .ge 94, 3) := by decide +kernel
theorem d_104_27 : decode (am_b 104) 27 = .ok (.iconst 0, 1) := by decide +kernel
theorem d_104_28 : decode (am_b 104) 28 = .ok (.istore 5, 2) := by decide +kernel
theorem d_104_30 : decode (am_b 104) 30 = .ok (.iload 5, 2) := by decide +kernel
theorem d_104_32 : decode (am_b 104) 32 = .ok (.aload_n 1, 1) := by decide +kernel
theorem d_104_33 : decode (am_b 104) 33 = .ok (.getfield 15, 3) := by decide +kernel
theorem d_104_36 : decode (am_b 104) 36 = .ok (.if_icmp .ge 76, 3) := by decide +kernel
theorem d_104_39 : decode (am_b 104) 39 = .ok (.iconst 0, 1) := by decide +kernel
theorem d_104_40 : decode (am_b 104) 40 = .ok (.istore 6, 2) := by decide +kernel
theorem d_104_42 : decode (am_b 104) 42 = .ok (.iload 6, 2) := by decide +kernel
theorem d_104_44 : decode (am_b 104) 44 = .ok (.iload_n 3, 1) := by decide +kernel
theorem d_104_45 : decode (am_b 104) 45 = .ok (.if_icmp .ge 61, 3) := by decide +kernel
theorem d_104_48 : decode (am_b 104) 48 = .ok (.iconst 0, 1) := by decide +kernel
theorem d_104_49 : decode (am_b 104) 49 = .ok (.istore 7, 2) := by decide +kernel
theorem d_104_51 : decode (am_b 104) 51 = .ok (.iload 7, 2) := by decide +kernel
theorem d_104_53 : decode (am_b 104) 53 = .ok (.iload_n 3, 1) := by decide +kernel
theorem d_104_54 : decode (am_b 104) 54 = .ok (.if_icmp .ge 46, 3) := by decide +kernel
theorem d_104_57 : decode (am_b 104) 57 = .ok (.aload_n 0, 1) := by decide +kernel
theorem d_104_58 : decode (am_b 104) 58 = .ok (.iload_n 3, 1) := by decide +kernel
theorem d_104_59 : decode (am_b 104) 59 = .ok (.iload 4, 2) := by decide +kernel
theorem d_104_61 : decode (am_b 104) 61 = .ok (.imul, 1) := by decide +kernel
theorem d_104_62 : decode (am_b 104) 62 = .ok (.iload 6, 2) := by decide +kernel
theorem d_104_64 : decode (am_b 104) 64 = .ok (.iadd, 1) := by decide +kernel
theorem d_104_65 : decode (am_b 104) 65 = .ok (.iload_n 3, 1) := by decide +kernel
theorem d_104_66 : decode (am_b 104) 66 = .ok (.iload 5, 2) := by decide +kernel
theorem d_104_68 : decode (am_b 104) 68 = .ok (.imul, 1) := by decide +kernel
theorem d_104_69 : decode (am_b 104) 69 = .ok (.iload 7, 2) := by decide +kernel
theorem d_104_71 : decode (am_b 104) 71 = .ok (.iadd, 1) := by decide +kernel
theorem d_104_72 : decode (am_b 104) 72 = .ok (.iload_n 3, 1) := by decide +kernel
theorem d_104_73 : decode (am_b 104) 73 = .ok (.aload_n 1, 1) := by decide +kernel
theorem d_104_74 : decode (am_b 104) 74 = .ok (.iload 4, 2) := by decide +kernel
theorem d_104_76 : decode (am_b 104) 76 = .ok (.iload 5, 2) := by decide +kernel
theorem d_104_78 : decode (am_b 104) 78 = .ok (.invokevirtual 23, 3) := by decide +kernel
theorem d_104_81 : decode (am_b 104) 81 = .ok (.imul, 1) := by decide +kernel
theorem d_104_82 : decode (am_b 104) 82 = .ok (.aload_n 2, 1) := by decide +kernel
theorem d_104_83 : decode (am_b 104) 83 = .ok (.iload 6, 2) := by decide +kernel
theorem d_104_85 : decode (am_b 104) 85 = .ok (.iload 7, 2) := by decide +kernel
theorem d_104_87 : decode (am_b 104) 87 = .ok (.invokevirtual 23, 3) := by decide +kernel
theorem d_104_90 : decode (am_b 104) 90 = .ok (.iadd, 1) := by decide +kernel
theorem d_104_91 : decode (am_b 104) 91 = .ok (.invokevirtual 33, 3) := by decide +kernel
theorem d_104_94 : decode (am_b 104) 94 = .ok (.iinc 7 1, 3) := by decide +kernel
theorem d_104_97 : decode (am_b 104) 97 = .ok (.goto (-46), 3) := by decide +kernel
theorem d_104_100 : decode (am_b 104) 100 = .ok (.iinc 6 1, 3) := by decide +kernel
theorem d_104_103 : decode (am_b 104) 103 = .ok (.goto (-61), 3) := by decide +kernel
theorem d_104_106 : decode (am_b 104) 106 = .ok (.iinc 5 1, 3) := by decide +kernel
theorem d_104_109 : decode (am_b 104) 109 = .ok (.goto (-79), 3) := by decide +kernel
theorem d_104_112 : decode (am_b 104) 112 = .ok (.iinc 4 1, 3) := by decide +kernel
theorem d_104_115 : decode (am_b 104) 115 = .ok (.goto (-97), 3) := by decide +kernel
theorem d_104_118 : decode (am_b 104) 118 = .ok (.return_, 1) := by decide +kernel
theorem d_105_0 : decode (am_b 105) 0 = .ok (.aload_n 1, 1) := by decide +kernel
theorem d_105_1 : decode (am_b 105) 1 = .ok (.getfield 15, 3) := by decide +kernel
theorem d_105_4 : decode (am_b 105) 4 = .ok (.istore_n 3, 1) := by decide +kernel
theorem d_105_5 : decode (am_b 105) 5 = .ok (.aload_n 0, 1) := by decide +kernel
theorem d_105_6 : decode (am_b 105) 6 = .ok (.iconst 2, 1) := by decide +kernel
theorem d_105_7 : decode (am_b 105) 7 = .ok (.iload_n 3, 1) := by decide +kernel
theorem d_105_8 : decode (am_b 105) 8 = .ok (.imul, 1) := by decide +kernel
theorem d_105_9 : decode (am_b 105) 9 = .ok (.putfield 15, 3) := by decide +kernel
theorem d_105_12 : decode (am_b 105) 12 = .ok (.iconst 0, 1) := by decide +kernel
theorem d_105_13 : decode (am_b 105) 13 = .ok (.istore 4, 2) := by decide +kernel
theorem d_105_15 : decode (am_b 105) 15 = .ok (.iload 4, 2) := by decide +kernel
theorem d_105_17 : decode (am_b 105) 17 = .ok (.iload_n 3, 1) := by decide +kernel
theorem d_105_18 : decode (am_b 105) 18 = .ok (.if_icmp .ge 129, 3) := by decide +kernel
theorem d_105_21 : decode (am_b 105) 21 = .ok (.iconst 0, 1) := by decide +kernel
theorem d_105_22 : decode (am_b 105) 22 = .ok (.istore 5, 2) := by decide +kernel
theorem d_105_24 : decode (am_b 105) 24 = .ok (.iload 5, 2) := by decide +kernel
theorem d_105_26 : decode (am_b 105) 26 = .ok (.iload_n 3, 1) := by decide +kernel
theorem d_105_27 : decode (am_b 105) 27 = .ok (.if_icmp .ge 114, 3) := by decide +kernel
theorem d_105_30 : decode (am_b 105) 30 = .ok (.iconst 2, 1) := by decide +kernel
theorem d_105_31 : decode (am_b 105) 31 = .ok (.aload_n 1, 1) := by decide +kernel
theorem d_105_32 : decode (am_b 105) 32 = .ok (.iload 4, 2) := by decide +kernel
theorem d_105_34 : decode (am_b 105) 34 = .ok (.iload 5, 2) := by decide +kernel
theorem d_105_36 : decode (am_b 105) 36 = .ok (.invokevirtual 23, 3) := by decide +kernel
theorem d_105_39 : decode (am_b 105) 39 = .ok (.imul, 1) := by decide +kernel
theorem d_105_40 : decode (am_b 105) 40 = .ok (.istore 6, 2) := by decide +kernel
theorem d_105_42 : decode (am_b 105) 42 = .ok (.iload_n 2, 1) := by decide +kernel
theorem d_105_43 : decode (am_b 105) 43 = .ok (.iload_n 3, 1) := by decide +kernel
theorem d_105_44 : decode (am_b 105) 44 = .ok (.iload 4, 2) := by decide +kernel
theorem d_105_46 : decode (am_b 105) 46 = .ok (.imul, 1) := by decide +kernel
theorem d_105_47 : decode (am_b 105) 47 = .ok (.iload 5, 2) := by decide +kernel
theorem d_105_49 : decode (am_b 105) 49 = .ok (.iadd, 1) := by decide +kernel
theorem d_105_50 : decode (am_b 105) 50 = .ok (.ishr, 1) := by decide +kernel
theorem d_105_51 : decode (am_b 105) 51 = .ok (.iconst 1, 1) := by decide +kernel
theorem d_105_52 : decode (am_b 105) 52 = .ok (.iand, 1) := by decide +kernel
theorem d_105_53 : decode (am_b 105) 53 = .ok (.istore 7, 2) := by decide +kernel
theorem d_105_55 : decode (am_b 105) 55 = .ok (.aload_n 0, 1) := by decide +kernel
theorem d_105_56 : decode (am_b 105) 56 = .ok (.iconst 2, 1) := by decide +kernel
theorem d_105_57 : decode (am_b 105) 57 = .ok (.iload 4, 2) := by decide +kernel
theorem d_105_59 : decode (am_b 105) 59 = .ok (.imul, 1) := by decide +kernel
theorem d_105_60 : decode (am_b 105) 60 = .ok (.iconst 2, 1) := by decide +kernel
theorem d_105_61 : decode (am_b 105) 61 = .ok (.iload 5, 2) := by decide +kernel
theorem d_105_63 : decode (am_b 105) 63 = .ok (.imul, 1) := by decide +kernel
theorem d_105_64 : decode (am_b 105) 64 = .ok (.iload 6, 2) := by decide +kernel
theorem d_105_66 : decode (am_b 105) 66 = .ok (.iload 7, 2) := by decide +kernel
theorem d_105_68 : decode (am_b 105) 68 = .ok (.iadd, 1) := by decide +kernel
theorem d_105_69 : decode (am_b 105) 69 = .ok (.invokevirtual 33, 3) := by decide +kernel
theorem d_105_72 : decode (am_b 105) 72 = .ok (.aload_n 0, 1) := by decide +kernel
theorem d_105_73 : decode (am_b 105) 73 = .ok (.iconst 2, 1) := by decide +kernel
theorem d_105_74 : decode (am_b 105) 74 = .ok (.iload 4, 2) := by decide +kernel
theorem d_105_76 : decode (am_b 105) 76 = .ok (.imul, 1) := by decide +kernel
theorem d_105_77 : decode (am_b 105) 77 = .ok (.iconst 1, 1) := by decide +kernel
theorem d_105_78 : decode (am_b 105) 78 = .ok (.iadd, 1) := by decide +kernel
theorem d_105_79 : decode (am_b 105) 79 = .ok (.iconst 2, 1) := by decide +kernel
theorem d_105_80 : decode (am_b 105) 80 = .ok (.iload 5, 2) := by decide +kernel
theorem d_105_82 : decode (am_b 105) 82 = .ok (.imul, 1) := by decide +kernel
theorem d_105_83 : decode (am_b 105) 83 = .ok (.iconst 1, 1) := by decide +kernel
theorem d_105_84 : decode (am_b 105) 84 = .ok (.iadd, 1) := by decide +kernel
theorem d_105_85 : decode (am_b 105) 85 = .ok (.iload 6, 2) := by decide +kernel
theorem d_105_87 : decode (am_b 105) 87 = .ok (.iload 7, 2) := by decide +kernel
theorem d_105_89 : decode (am_b 105) 89 = .ok (.iadd, 1) := by decide +kernel
theorem d_105_90 : decode (am_b 105) 90 = .ok (.invokevirtual 33, 3) := by decide +kernel
theorem d_105_93 : decode (am_b 105) 93 = .ok (.aload_n 0, 1) := by decide +kernel
theorem d_105_94 : decode (am_b 105) 94 = .ok (.iconst 2, 1) := by decide +kernel
theorem d_105_95 : decode (am_b 105) 95 = .ok (.iload 4, 2) := by decide +kernel
theorem d_105_97 : decode (am_b 105) 97 = .ok (.imul, 1) := by decide +kernel
theorem d_105_98 : decode (am_b 105) 98 = .ok (.iconst 2, 1) := by decide +kernel
theorem d_105_99 : decode (am_b 105) 99 = .ok (.iload 5, 2) := by decide +kernel
theorem d_105_101 : decode (am_b 105) 101 = .ok (.imul, 1) := by decide +kernel
theorem d_105_102 : decode (am_b 105) 102 = .ok (.iconst 1, 1) := by decide +kernel
theorem d_105_103 : decode (am_b 105) 103 = .ok (.iadd, 1) := by decide +kernel
theorem d_105_104 : decode (am_b 105) 104 = .ok (.iload 6, 2) := by decide +kernel
theorem d_105_106 : decode (am_b 105) 106 = .ok (.iconst 1, 1) := by decide +kernel
theorem d_105_107 : decode (am_b 105) 107 = .ok (.iadd, 1) := by decide +kernel
theorem d_105_108 : decode (am_b 105) 108 = .ok (.iload 7, 2) := by decide +kernel
theorem d_105_110 : decode (am_b 105) 110 = .ok (.isub, 1) := by decide +kernel
theorem d_105_111 : decode (am_b 105) 111 = .ok (.invokevirtual 33, 3) := by decide +kernel
theorem d_105_114 : decode (am_b 105) 114 = .ok (.aload_n 0, 1) := by decide +kernel
theorem d_105_115 : decode (am_b 105) 115 = .ok (.iconst 2, 1) := by decide +kernel
theorem d_105_116 : decode (am_b 105) 116 = .ok (.iload 4, 2) := by decide +kernel
theorem d_105_118 : decode (am_b 105) 118 = .ok (.imul, 1) := by decide +kernel
theorem d_105_119 : decode (am_b 105) 119 = .ok (.iconst 1, 1) := by decide +kernel
theorem d_105_120 : decode (am_b 105) 120 = .ok (.iadd, 1) := by decide +kernel
theorem d_105_121 : decode (am_b 105) 121 = .ok (.iconst 2, 1) := by decide +kernel
theorem d_105_122 : decode (am_b 105) 122 = .ok (.iload 5, 2) := by decide +kernel
theorem d_105_124 : decode (am_b 105) 124 = .ok (.imul, 1) := by decide +kernel
theorem d_105_125 : decode (am_b 105) 125 = .ok (.iload 6, 2) := by decide +kernel
theorem d_105_127 : decode (am_b 105) 127 = .ok (.iconst 1, 1) := by decide +kernel
theorem d_105_128 : decode (am_b 105) 128 = .ok (.iadd, 1) := by decide +kernel
theorem d_105_129 : decode (am_b 105) 129 = .ok (.iload 7, 2) := by decide +kernel
theorem d_105_131 : decode (am_b 105) 131 = .ok (.isub, 1) := by decide +kernel
theorem d_105_132 : decode (am_b 105) 132 = .ok (.invokevirtual 33, 3) := by decide +kernel
theorem d_105_135 : decode (am_b 105) 135 = .ok (.iinc 5 1, 3) := by decide +kernel
theorem d_105_138 : decode (am_b 105) 138 = .ok (.goto (-114), 3) := by decide +kernel
theorem d_105_141 : decode (am_b 105) 141 = .ok (.iinc 4 1, 3) := by decide +kernel
theorem d_105_144 : decode (am_b 105) 144 = .ok (.goto (-129), 3) := by decide +kernel
theorem d_105_147 : decode (am_b 105) 147 = .ok (.return_, 1) := by decide +kernel
theorem d_106_0 : decode (am_b 106) 0 = .ok (.aload_n 0, 1) := by decide +kernel
theorem d_106_1 : decode (am_b 106) 1 = .ok (.iconst 1, 1) := by decide +kernel
theorem d_106_2 : decode (am_b 106) 2 = .ok (.iconst 1, 1) := by decide +kernel
theorem d_106_3 : decode (am_b 106) 3 = .ok (.invokevirtual 49, 3) := by decide +kernel
theorem d_106_6 : decode (am_b 106) 6 = .ok (.ireturn, 1) := by decide +kernel
theorem d_107_0 : decode (am_b 107) 0 = .ok (.iconst 0, 1) := by decide +kernel
theorem d_107_1 : decode (am_b 107) 1 = .ok (.istore_n 3, 1) := by decide +kernel
theorem d_107_2 : decode (am_b 107) 2 = .ok (.iload_n 3, 1) := by decide +kernel
theorem d_107_3 : decode (am_b 107) 3 = .ok (.aload_n 0, 1) := by decide +kernel
theorem d_107_4 : decode (am_b 107) 4 = .ok (.getfield 15, 3) := by decide +kernel
theorem d_107_7 : decode (am_b 107) 7 = .ok (.if_icmp .ge 70, 3) := by decide +kernel
theorem d_107_10 : decode (am_b 107) 10 = .ok (.iconst 0, 1) := by decide +kernel
theorem d_107_11 : decode (am_b 107) 11 = .ok (.istore 4, 2) := by decide +kernel
theorem d_107_13 : decode (am_b 107) 13 = .ok (.iload 4, 2) := by decide +kernel
theorem d_107_15 : decode (am_b 107) 15 = .ok (.aload_n 0, 1) := by decide +kernel
theorem d_107_16 : decode (am_b 107) 16 = .ok (.getfield 15, 3) := by decide +kernel
theorem d_107_19 : decode (am_b 107) 19 = .ok (.if_icmp .ge 41, 3) := by decide +kernel
theorem d_107_22 : decode (am_b 107) 22 = .ok (.iload_n 1, 1) := by decide +kernel
theorem d_107_23 : decode (am_b 107) 23 = .ok (.ifCond .eq 15, 3) := by decide +kernel
theorem d_107_26 : decode (am_b 107) 26 = .ok (.aload_n 0, 1) := by decide +kernel
theorem d_107_27 : decode (am_b 107) 27 = .ok (.iload_n 3, 1) := by decide +kernel
theorem d_107_28 : decode (am_b 107) 28 = .ok (.iload 4, 2) := by decide +kernel
theorem d_107_30 : decode (am_b 107) 30 = .ok (.invokevirtual 23, 3) := by decide +kernel
theorem d_107_33 : decode (am_b 107) 33 = .ok (.iload 4, 2) := by decide +kernel
theorem d_107_35 : decode (am_b 107) 35 = .ok (.if_icmp .ne 25, 3) := by decide +kernel
theorem d_107_38 : decode (am_b 107) 38 = .ok (.iload_n 2, 1) := by decide +kernel
theorem d_107_39 : decode (am_b 107) 39 = .ok (.ifCond .eq 15, 3) := by decide +kernel
theorem d_107_42 : decode (am_b 107) 42 = .ok (.aload_n 0, 1) := by decide +kernel
theorem d_107_43 : decode (am_b 107) 43 = .ok (.iload 4, 2) := by decide +kernel
theorem d_107_45 : decode (am_b 107) 45 = .ok (.iload_n 3, 1) := by decide +kernel
theorem d_107_46 : decode (am_b 107) 46 = .ok (.invokevirtual 23, 3) := by decide +kernel
theorem d_107_49 : decode (am_b 107) 49 = .ok (.iload 4, 2) := by decide +kernel
theorem d_107_51 : decode (am_b 107) 51 = .ok (.if_icmp .ne 9, 3) := by decide +kernel
theorem d_107_54 : decode (am_b 107) 54 = .ok (.iinc 4 1, 3) := by decide +kernel
theorem d_107_57 : decode (am_b 107) 57 = .ok (.goto (-44), 3) := by decide +kernel
theorem d_107_60 : decode (am_b 107) 60 = .ok (.iload 4, 2) := by decide +kernel
theorem d_107_62 : decode (am_b 107) 62 = .ok (.aload_n 0, 1) := by decide +kernel
theorem d_107_63 : decode (am_b 107) 63 = .ok (.getfield 15, 3) := by decide +kernel
theorem d_107_66 : decode (am_b 107) 66 = .ok (.if_icmp .ne 5, 3) := by decide +kernel
theorem d_107_69 : decode (am_b 107) 69 = .ok (.iload_n 3, 1) := by decide +kernel
theorem d_107_70 : decode (am_b 107) 70 = .ok (.ireturn, 1) := by decide +kernel
theorem d_107_71 : decode (am_b 107) 71 = .ok (.iinc 3 1, 3) := by decide +kernel
theorem d_107_74 : decode (am_b 107) 74 = .ok (.goto (-72), 3) := by decide +kernel
theorem d_107_77 : decode (am_b 107) 77 = .ok (.iconst (-1), 1) := by decide +kernel
theorem d_107_78 : decode (am_b 107) 78 = .ok (.ireturn, 1) := by decide +kernel
theorem d_108_0 : decode (am_b 108) 0 = .ok (.iload_n 1, 1) := by decide +kernel
theorem d_108_1 : decode (am_b 108) 1 = .ok (.ifCond .le 17, 3) := by decide +kernel
theorem d_108_4 : decode (am_b 108) 4 = .ok (.iload_n 1, 1) := by decide +kernel
theorem d_108_5 : decode (am_b 108) 5 = .ok (.iconst 1, 1) := by decide +kernel
theorem d_108_6 : decode (am_b 108) 6 = .ok (.aload_n 0, 1) := by decide +kernel
theorem d_108_7 : decode (am_b 108) 7 = .ok (.getfield 15, 3) := by decide +kernel
theorem d_108_10 : decode (am_b 108) 10 = .ok (.ishl, 1) := by decide +kernel
theorem d_108_11 : decode (am_b 108) 11 = .ok (.if_icmp .ge 7, 3) := by decide +kernel
theorem d_108_14 : decode (am_b 108) 14 = .ok (.iconst 1, 1) := by decide +kernel
theorem d_108_15 : decode (am_b 108) 15 = .ok (.goto 4, 3) := by decide +kernel
theorem d_108_18 : decode (am_b 108) 18 = .ok (.iconst 0, 1) := by decide +kernel
theorem d_108_19 : decode (am_b 108) 19 = .ok (.ireturn, 1) := by decide +kernel
theorem d_109_0 : decode (am_b 109) 0 = .ok (.iconst 0, 1) := by decide +kernel
theorem d_109_1 : decode (am_b 109) 1 = .ok (.istore_n 2, 1) := by decide +kernel
theorem d_109_2 : decode (am_b 109) 2 = .ok (.iconst 0, 1) := by decide +kernel
theorem d_109_3 : decode (am_b 109) 3 = .ok (.istore_n 3, 1) := by decide +kernel
theorem d_109_4 : decode (am_b 109) 4 = .ok (.iload_n 3, 1) := by decide +kernel
theorem d_109_5 : decode (am_b 109) 5 = .ok (.aload_n 0, 1) := by decide +kernel
theorem d_109_6 : decode (am_b 109) 6 = .ok (.getfield 15, 3) := by decide +kernel
theorem d_109_9 : decode (am_b 109) 9 = .ok (.aload_n 0, 1) := by decide +kernel
theorem d_109_10 : decode (am_b 109) 10 = .ok (.getfield 15, 3) := by decide +kernel
theorem d_109_13 : decode (am_b 109) 13 = .ok (.imul, 1) := by decide +kernel
theorem d_109_14 : decode (am_b 109) 14 = .ok (.if_icmp .ge 27, 3) := by decide +kernel
theorem d_109_17 : decode (am_b 109) 17 = .ok (.aload_n 0, 1) := by decide +kernel
theorem d_109_18 : decode (am_b 109) 18 = .ok (.getfield 9, 3) := by decide +kernel
theorem d_109_21 : decode (am_b 109) 21 = .ok (.iload_n 3, 1) := by decide +kernel
theorem d_109_22 : decode (am_b 109) 22 = .ok (.iaload, 1) := by decide +kernel
theorem d_109_23 : decode (am_b 109) 23 = .ok (.aload_n 1, 1) := by decide +kernel
theorem d_109_24 : decode (am_b 109) 24 = .ok (.getfield 9, 3) := by decide +kernel
theorem d_109_27 : decode (am_b 109) 27 = .ok (.iload_n 3, 1) := by decide +kernel
theorem d_109_28 : decode (am_b 109) 28 = .ok (.iaload, 1) := by decide +kernel
theorem d_109_29 : decode (am_b 109) 29 = .ok (.if_icmp .eq 6, 3) := by decide +kernel
theorem d_109_32 : decode (am_b 109) 32 = .ok (.iinc 2 1, 3) := by decide +kernel
theorem d_109_35 : decode (am_b 109) 35 = .ok (.iinc 3 1, 3) := by decide +kernel
theorem d_109_38 : decode (am_b 109) 38 = .ok (.goto (-34), 3) := by decide +kernel
theorem d_109_41 : decode (am_b 109) 41 = .ok (.iload_n 2, 1) := by decide +kernel
theorem d_109_42 : decode (am_b 109) 42 = .ok (.ireturn, 1) := by decide +kernel
theorem d_110_0 : decode (am_b 110) 0 = .ok (.iconst 0, 1) := by decide +kernel
theorem d_110_1 : decode (am_b 110) 1 = .ok (.istore_n 3, 1) := by decide +kernel
theorem d_110_2 : decode (am_b 110) 2 = .ok (.iconst 0, 1) := by decide +kernel
theorem d_110_3 : decode (am_b 110) 3 = .ok (.istore 4, 2) := by decide +kernel
theorem d_110_5 : decode (am_b 110) 5 = .ok (.iconst 0, 1) := by decide +kernel
theorem d_110_6 : decode (am_b 110) 6 = .ok (.istore 5, 2) := by decide +kernel
theorem d_110_8 : decode (am_b 110) 8 = .ok (.iload 5, 2) := by decide +kernel
theorem d_110_10 : decode (am_b 110) 10 = .ok (.aload_n 0, 1) := by decide +kernel
theorem d_110_11 : decode (am_b 110) 11 = .ok (.getfield 15, 3) := by decide +kernel
theorem d_110_14 : decode (am_b 110) 14 = .ok (.if_icmp .ge 32, 3) := by decide +kernel
theorem d_110_17 : decode (am_b 110) 17 = .ok (.iload_n 3, 1) := by decide +kernel
theorem d_110_18 : decode (am_b 110) 18 = .ok (.iload 5, 2) := by decide +kernel
theorem d_110_20 : decode (am_b 110) 20 = .ok (.ishr, 1) := by decide +kernel
theorem d_110_21 : decode (am_b 110) 21 = .ok (.iconst 1, 1) := by decide +kernel
theorem d_110_22 : decode (am_b 110) 22 = .ok (.iand, 1) := by decide +kernel
theorem d_110_23 : decode (am_b 110) 23 = .ok (.ifCond .ne 17, 3) := by decide +kernel
theorem d_110_26 : decode (am_b 110) 26 = .ok (.iload_n 3, 1) := by decide +kernel
theorem d_110_27 : decode (am_b 110) 27 = .ok (.aload_n 0, 1) := by decide +kernel
theorem d_110_28 : decode (am_b 110) 28 = .ok (.iload_n 1, 1) := by decide +kernel
theorem d_110_29 : decode (am_b 110) 29 = .ok (.iload_n 2, 1) := by decide +kernel
theorem d_110_30 : decode (am_b 110) 30 = .ok (.iload 5, 2) := by decide +kernel
theorem d_110_32 : decode (am_b 110) 32 = .ok (.invokevirtual 60, 3) := by decide +kernel
theorem d_110_35 : decode (am_b 110) 35 = .ok (.ior, 1) := by decide +kernel
theorem d_110_36 : decode (am_b 110) 36 = .ok (.istore_n 3, 1) := by decide +kernel
theorem d_110_37 : decode (am_b 110) 37 = .ok (.iinc 4 1, 3) := by decide +kernel
theorem d_110_40 : decode (am_b 110) 40 = .ok (.iinc 5 1, 3) := by decide +kernel
theorem d_110_43 : decode (am_b 110) 43 = .ok (.goto (-35), 3) := by decide +kernel
theorem d_110_46 : decode (am_b 110) 46 = .ok (.iload 4, 2) := by decide +kernel
theorem d_110_48 : decode (am_b 110) 48 = .ok (.ireturn, 1) := by decide +kernel
theorem d_111_0 : decode (am_b 111) 0 = .ok (.iconst 0, 1) := by decide +kernel
theorem d_111_1 : decode (am_b 111) 1 = .ok (.istore_n 3, 1) := by decide +kernel
theorem d_111_2 : decode (am_b 111) 2 = .ok (.iconst 0, 1) := by decide +kernel
theorem d_111_3 : decode (am_b 111) 3 = .ok (.istore 4, 2) := by decide +kernel
theorem d_111_5 : decode (am_b 111) 5 = .ok (.iload 4, 2) := by decide +kernel
theorem d_111_7 : decode (am_b 111) 7 = .ok (.aload_n 0, 1) := by decide +kernel
theorem d_111_8 : decode (am_b 111) 8 = .ok (.getfield 15, 3) := by decide +kernel
theorem d_111_11 : decode (am_b 111) 11 = .ok (.if_icmp .ge 25, 3) := by decide +kernel
theorem d_111_14 : decode (am_b 111) 14 = .ok (.iload_n 3, 1) := by decide +kernel
theorem d_111_15 : decode (am_b 111) 15 = .ok (.aload_n 0, 1) := by decide +kernel
theorem d_111_16 : decode (am_b 111) 16 = .ok (.iload_n 1, 1) := by decide +kernel
theorem d_111_17 : decode (am_b 111) 17 = .ok (.iload_n 2, 1) := by decide +kernel
theorem d_111_18 : decode (am_b 111) 18 = .ok (.iload 4, 2) := by decide +kernel
theorem d_111_20 : decode (am_b 111) 20 = .ok (.invokevirtual 60, 3) := by decide +kernel
theorem d_111_23 : decode (am_b 111) 23 = .ok (.invokestatic 64, 3) := by decide +kernel
theorem d_111_26 : decode (am_b 111) 26 = .ok (.invokestatic 37, 3) := by decide +kernel
theorem d_111_29 : decode (am_b 111) 29 = .ok (.istore_n 3, 1) := by decide +kernel
theorem d_111_30 : decode (am_b 111) 30 = .ok (.iinc 4 1, 3) := by decide +kernel
theorem d_111_33 : decode (am_b 111) 33 = .ok (.goto (-28), 3) := by decide +kernel
theorem d_111_36 : decode (am_b 111) 36 = .ok (.iload_n 3, 1) := by decide +kernel
theorem d_111_37 : decode (am_b 111) 37 = .ok (.ireturn, 1) := by decide +kernel
theorem d_112_0 : decode (am_b 112) 0 = .ok (.iload_n 1, 1) := by decide +kernel
theorem d_112_1 : decode (am_b 112) 1 = .ok (.iconst 2, 1) := by decide +kernel
theorem d_112_2 : decode (am_b 112) 2 = .ok (.idiv, 1) := by decide +kernel
theorem d_112_3 : decode (am_b 112) 3 = .ok (.iconst 1, 1) := by decide +kernel
theorem d_112_4 : decode (am_b 112) 4 = .ok (.invokestatic 37, 3) := by decide +kernel
theorem d_112_7 : decode (am_b 112) 7 = .ok (.istore_n 2, 1) := by decide +kernel
theorem d_112_8 : decode (am_b 112) 8 = .ok (.aload_n 0, 1) := by decide +kernel
theorem d_112_9 : decode (am_b 112) 9 = .ok (.iload_n 1, 1) := by decide +kernel
theorem d_112_10 : decode (am_b 112) 10 = .ok (.putfield 15, 3) := by decide +kernel
theorem d_112_13 : decode (am_b 112) 13 = .ok (.iconst 0, 1) := by decide +kernel
theorem d_112_14 : decode (am_b 112) 14 = .ok (.istore_n 3, 1) := by decide +kernel
theorem d_112_15 : decode (am_b 112) 15 = .ok (.iload_n 3, 1) := by decide +kernel
theorem d_112_16 : decode (am_b 112) 16 = .ok (.iload_n 1, 1) := by decide +kernel
theorem d_112_17 : decode (am_b 112) 17 = .ok (.if_icmp .ge 100, 3) := by decide +kernel
theorem d_112_20 : decode (am_b 112) 20 = .ok (.iconst 0, 1) := by decide +kernel
theorem d_112_21 : decode (am_b 112) 21 = .ok (.istore 4, 2) := by decide +kernel
theorem d_112_23 : decode (am_b 112) 23 = .ok (.iload 4, 2) := by decide +kernel
theorem d_112_25 : decode (am_b 112) 25 = .ok (.iload_n 1, 1) := by decide +kernel
theorem d_112_26 : decode (am_b 112) 26 = .ok (.if_icmp .ge 85, 3) := by decide +kernel
theorem d_112_29 : decode (am_b 112) 29 = .ok (.iload_n 3, 1) := by decide +kernel
theorem d_112_30 : decode (am_b 112) 30 = .ok (.iload_n 2, 1) := by decide +kernel
theorem d_112_31 : decode (am_b 112) 31 = .ok (.if_icmp .ge 10, 3) := by decide +kernel
theorem d_112_34 : decode (am_b 112) 34 = .ok (.iload_n 3, 1) := by decide +kernel
theorem d_112_35 : decode (am_b 112) 35 = .ok (.iload 4, 2) := by decide +kernel
theorem d_112_37 : decode (am_b 112) 37 = .ok (.iadd, 1) := by decide +kernel
theorem d_112_38 : decode (am_b 112) 38 = .ok (.goto 9, 3) := by decide +kernel
theorem d_112_41 : decode (am_b 112) 41 = .ok (.iload_n 3, 1) := by decide +kernel
theorem d_112_42 : decode (am_b 112) 42 = .ok (.iload_n 1, 1) := by decide +kernel
theorem d_112_43 : decode (am_b 112) 43 = .ok (.iadd, 1) := by decide +kernel
theorem d_112_44 : decode (am_b 112) 44 = .ok (.iload 4, 2) := by decide +kernel
theorem d_112_46 : decode (am_b 112) 46 = .ok (.isub, 1) := by decide +kernel
theorem d_112_47 : decode (am_b 112) 47 = .ok (.istore 5, 2) := by decide +kernel
theorem d_112_49 : decode (am_b 112) 49 = .ok (.iload_n 3, 1) := by decide +kernel
theorem d_112_50 : decode (am_b 112) 50 = .ok (.iload_n 2, 1) := by decide +kernel
theorem d_112_51 : decode (am_b 112) 51 = .ok (.if_icmp .ge 7, 3) := by decide +kernel
theorem d_112_54 : decode (am_b 112) 54 = .ok (.iconst 1, 1) := by decide +kernel
theorem d_112_55 : decode (am_b 112) 55 = .ok (.goto 4, 3) := by decide +kernel
theorem d_112_58 : decode (am_b 112) 58 = .ok (.iconst 0, 1) := by decide +kernel
theorem d_112_59 : decode (am_b 112) 59 = .ok (.iload 4, 2) := by decide +kernel
theorem d_112_61 : decode (am_b 112) 61 = .ok (.iload_n 2, 1) := by decide +kernel
theorem d_112_62 : decode (am_b 112) 62 = .ok (.if_icmp .ge 7, 3) := by decide +kernel
theorem d_112_65 : decode (am_b 112) 65 = .ok (.iconst 1, 1) := by decide +kernel
theorem d_112_66 : decode (am_b 112) 66 = .ok (.goto 4, 3) := by decide +kernel
theorem d_112_69 : decode (am_b 112) 69 = .ok (.iconst 0, 1) := by decide +kernel
theorem d_112_70 : decode (am_b 112) 70 = .ok (.if_icmp .eq 7, 3) := by decide +kernel
theorem d_112_73 : decode (am_b 112) 73 = .ok (.iconst 1, 1) := by decide +kernel
theorem d_112_74 : decode (am_b 112) 74 = .ok (.goto 4, 3) := by decide +kernel
theorem d_112_77 : decode (am_b 112) 77 = .ok (.iconst 0, 1) := by decide +kernel
theorem d_112_78 : decode (am_b 112) 78 = .ok (.istore 6, 2) := by decide +kernel
theorem d_112_80 : decode (am_b 112) 80 = .ok (.aload_n 0, 1) := by decide +kernel
theorem d_112_81 : decode (am_b 112) 81 = .ok (.iload_n 3, 1) := by decide +kernel
theorem d_112_82 : decode (am_b 112) 82 = .ok (.iload 4, 2) := by decide +kernel
theorem d_112_84 : decode (am_b 112) 84 = .ok (.iload 6, 2) := by decide +kernel
theorem d_112_86 : decode (am_b 112) 86 = .ok (.ifCond .eq 12, 3) := by decide +kernel
theorem d_112_89 : decode (am_b 112) 89 = .ok (.iload_n 2, 1) := by decide +kernel
theorem d_112_90 : decode (am_b 112) 90 = .ok (.iload 5, 2) := by decide +kernel
theorem d_112_92 : decode (am_b 112) 92 = .ok (.iload_n 2, 1) := by decide +kernel
theorem d_112_93 : decode (am_b 112) 93 = .ok (.irem, 1) := by decide +kernel
theorem d_112_94 : decode (am_b 112) 94 = .ok (.iadd, 1) := by decide +kernel
theorem d_112_95 : decode (am_b 112) 95 = .ok (.goto 7, 3) := by decide +kernel
theorem d_112_98 : decode (am_b 112) 98 = .ok (.iload 5, 2) := by decide +kernel
theorem d_112_100 : decode (am_b 112) 100 = .ok (.iload_n 2, 1) := by decide +kernel
theorem d_112_101 : decode (am_b 112) 101 = .ok (.irem, 1) := by decide +kernel
theorem d_112_102 : decode (am_b 112) 102 = .ok (.invokevirtual 33, 3) := by decide +kernel
theorem d_112_105 : decode (am_b 112) 105 = .ok (.iinc 4 1, 3) := by decide +kernel
theorem d_112_108 : decode (am_b 112) 108 = .ok (.goto (-85), 3) := by decide +kernel
theorem d_112_111 : decode (am_b 112) 111 = .ok (.iinc 3 1, 3) := by decide +kernel
theorem d_112_114 : decode (am_b 112) 114 = .ok (.goto (-99), 3) := by decide +kernel
theorem d_112_117 : decode (am_b 112) 117 = .ok (.return_, 1) := by decide +kernel
theorem d_113_0 : decode (am_b 113) 0 = .ok (.aload_n 0, 1) := by decide +kernel
theorem d_113_1 : decode (am_b 113) 1 = .ok (.invokespecial 1, 3) := by decide +kernel
theorem d_113_4 : decode (am_b 113) 4 = .ok (.aload_n 0, 1) := by decide +kernel
theorem d_113_5 : decode (am_b 113) 5 = .ok (.new 7, 3) := by decide +kernel
theorem d_113_8 : decode (am_b 113) 8 = .ok (.dup, 1) := by decide +kernel
theorem d_113_9 : decode (am_b 113) 9 = .ok (.invokespecial 9, 3) := by decide +kernel
theorem d_113_12 : decode (am_b 113) 12 = .ok (.putfield 10, 3) := by decide +kernel
theorem d_113_15 : decode (am_b 113) 15 = .ok (.aload_n 0, 1) := by decide +kernel
theorem d_113_16 : decode (am_b 113) 16 = .ok (.iconst 2, 1) := by decide +kernel
theorem d_113_17 : decode (am_b 113) 17 = .ok (.anewarray 7, 3) := by decide +kernel
theorem d_113_20 : decode (am_b 113) 20 = .ok (.putfield 16, 3) := by decide +kernel
theorem d_113_23 : decode (am_b 113) 23 = .ok (.aload_n 0, 1) := by decide +kernel
theorem d_113_24 : decode (am_b 113) 24 = .ok (.sipush 400, 3) := by decide +kernel
theorem d_113_27 : decode (am_b 113) 27 = .ok (.newarray .int, 2) := by decide +kernel
theorem d_113_29 : decode (am_b 113) 29 = .ok (.putfield 20, 3) := by decide +kernel
theorem d_113_32 : decode (am_b 113) 32 = .ok (.aload_n 0, 1) := by decide +kernel
theorem d_113_33 : decode (am_b 113) 33 = .ok (.new 24, 3) := by decide +kernel
theorem d_113_36 : decode (am_b 113) 36 = .ok (.dup, 1) := by decide +kernel
theorem d_113_37 : decode (am_b 113) 37 = .ok (.invokespecial 26, 3) := by decide +kernel
theorem d_113_40 : decode (am_b 113) 40 = .ok (.putfield 27, 3) := by decide +kernel
theorem d_113_43 : decode (am_b 113) 43 = .ok (.aload_n 0, 1) := by decide +kernel
theorem d_113_44 : decode (am_b 113) 44 = .ok (.iconst (-1), 1) := by decide +kernel
theorem d_113_45 : decode (am_b 113) 45 = .ok (.putfield 31, 3) := by decide +kernel
theorem d_113_48 : decode (am_b 113) 48 = .ok (.aload_n 0, 1) := by decide +kernel
theorem d_113_49 : decode (am_b 113) 49 = .ok (.new 35, 3) := by decide +kernel
theorem d_113_52 : decode (am_b 113) 52 = .ok (.dup, 1) := by decide +kernel
theorem d_113_53 : decode (am_b 113) 53 = .ok (.invokespecial 37, 3) := by decide +kernel
theorem d_113_56 : decode (am_b 113) 56 = .ok (.putfield 38, 3) := by decide +kernel
theorem d_113_59 : decode (am_b 113) 59 = .ok (.aload_n 0, 1) := by decide +kernel
theorem d_113_60 : decode (am_b 113) 60 = .ok (.new 35, 3) := by decide +kernel
theorem d_113_63 : decode (am_b 113) 63 = .ok (.dup, 1) := by decide +kernel
theorem d_113_64 : decode (am_b 113) 64 = .ok (.invokespecial 37, 3) := by decide +kernel
theorem d_113_67 : decode (am_b 113) 67 = .ok (.putfield 42, 3) := by decide +kernel
theorem d_113_70 : decode (am_b 113) 70 = .ok (.aload_n 0, 1) := by decide +kernel
theorem d_113_71 : decode (am_b 113) 71 = .ok (.new 45, 3) := by decide +kernel
theorem d_113_74 : decode (am_b 113) 74 = .ok (.dup, 1) := by decide +kernel
theorem d_113_75 : decode (am_b 113) 75 = .ok (.invokespecial 47, 3) := by decide +kernel
theorem d_113_78 : decode (am_b 113) 78 = .ok (.putfield 48, 3) := by decide +kernel
theorem d_113_81 : decode (am_b 113) 81 = .ok (.aload_n 0, 1) := by decide +kernel
theorem d_113_82 : decode (am_b 113) 82 = .ok (.new 52, 3) := by decide +kernel
theorem d_113_85 : decode (am_b 113) 85 = .ok (.dup, 1) := by decide +kernel
theorem d_113_86 : decode (am_b 113) 86 = .ok (.invokespecial 54, 3) := by decide +kernel
theorem d_113_89 : decode (am_b 113) 89 = .ok (.putfield 55, 3) := by decide +kernel
theorem d_113_92 : decode (am_b 113) 92 = .ok (.aload_n 0, 1) := by decide +kernel
theorem d_113_93 : decode (am_b 113) 93 = .ok (.new 59, 3) := by decide +kernel
theorem d_113_96 : decode (am_b 113) 96 = .ok (.dup, 1) := by decide +kernel
theorem d_113_97 : decode (am_b 113) 97 = .ok (.invokespecial 61, 3) := by decide +kernel
theorem d_113_100 : decode (am_b 113) 100 = .ok (.putfield 62, 3) := by decide +kernel
theorem d_113_103 : decode (am_b 113) 103 = .ok (.aload_n 0, 1) := by decide +kernel
theorem d_113_104 : decode (am_b 113) 104 = .ok (.new 66, 3) := by decide +kernel
theorem d_113_107 : decode (am_b 113) 107 = .ok (.dup, 1) := by decide +kernel
theorem d_113_108 : decode (am_b 113) 108 = .ok (.invokespecial 68, 3) := by decide +kernel
theorem d_113_111 : decode (am_b 113) 111 = .ok (.putfield 69, 3) := by decide +kernel
theorem d_113_114 : decode (am_b 113) 114 = .ok (.aload_n 0, 1) := by decide +kernel
theorem d_113_115 : decode (am_b 113) 115 = .ok (.new 66, 3) := by decide +kernel
theorem d_113_118 : decode (am_b 113) 118 = .ok (.dup, 1) := by decide +kernel
theorem d_113_119 : decode (am_b 113) 119 = .ok (.invokespecial 68, 3) := by decide +kernel
theorem d_113_122 : decode (am_b 113) 122 = .ok (.putfield 73, 3) := by decide +kernel
theorem d_113_125 : decode (am_b 113) 125 = .ok (.aload_n 0, 1) := by decide +kernel
theorem d_113_126 : decode (am_b 113) 126 = .ok (.new 76, 3) := by decide +kernel
theorem d_113_129 : decode (am_b 113) 129 = .ok (.dup, 1) := by decide +kernel
theorem d_113_130 : decode (am_b 113) 130 = .ok (.invokespecial 78, 3) := by decide +kernel
theorem d_113_133 : decode (am_b 113) 133 = .ok (.putfield 79, 3) := by decide +kernel
theorem d_113_136 : decode (am_b 113) 136 = .ok (.aload_n 0, 1) := by decide +kernel
theorem d_113_137 : decode (am_b 113) 137 = .ok (.new 83, 3) := by decide +kernel
theorem d_113_140 : decode (am_b 113) 140 = .ok (.dup, 1) := by decide +kernel
theorem d_113_141 : decode (am_b 113) 141 = .ok (.invokespecial 85, 3) := by decide +kernel
theorem d_113_144 : decode (am_b 113) 144 = .ok (.putfield 86, 3) := by decide +kernel
theorem d_113_147 : decode (am_b 113) 147 = .ok (.aload_n 0, 1) := by decide +kernel
theorem d_113_148 : decode (am_b 113) 148 = .ok (.bipush 7, 2) := by decide +kernel
theorem d_113_150 : decode (am_b 113) 150 = .ok (.newarray .int, 2) := by decide +kernel
theorem d_113_152 : decode (am_b 113) 152 = .ok (.putfield 90, 3) := by decide +kernel
theorem d_113_155 : decode (am_b 113) 155 = .ok (.return_, 1) := by decide +kernel
theorem d_114_0 : decode (am_b 114) 0 = .ok (.aload_n 0, 1) := by decide +kernel
theorem d_114_1 : decode (am_b 114) 1 = .ok (.getfield 93, 3) := by decide +kernel
theorem d_114_4 : decode (am_b 114) 4 = .ok (.bipush 20, 2) := by decide +kernel
theorem d_114_6 : decode (am_b 114) 6 = .ok (.iadd, 1) := by decide +kernel
theorem d_114_7 : decode (am_b 114) 7 = .ok (.sipush 400, 3) := by decide +kernel
theorem d_114_10 : decode (am_b 114) 10 = .ok (.if_icmp .le 5, 3) := by decide +kernel
theorem d_114_13 : decode (am_b 114) 13 = .ok (.iconst (-1), 1) := by decide +kernel
theorem d_114_14 : decode (am_b 114) 14 = .ok (.ireturn, 1) := by decide +kernel
theorem d_114_15 : decode (am_b 114) 15 = .ok (.aload_n 0, 1) := by decide +kernel
theorem d_114_16 : decode (am_b 114) 16 = .ok (.iload_n 1, 1) := by decide +kernel
theorem d_114_17 : decode (am_b 114) 17 = .ok (.invokevirtual 96, 3) := by decide +kernel
theorem d_114_20 : decode (am_b 114) 20 = .ok (.aload_n 0, 1) := by decide +kernel
theorem d_114_21 : decode (am_b 114) 21 = .ok (.iload_n 2, 1) := by decide +kernel
theorem d_114_22 : decode (am_b 114) 22 = .ok (.invokevirtual 96, 3) := by decide +kernel
theorem d_114_25 : decode (am_b 114) 25 = .ok (.aload_n 0, 1) := by decide +kernel
theorem d_114_26 : decode (am_b 114) 26 = .ok (.iload_n 3, 1) := by decide +kernel
theorem d_114_27 : decode (am_b 114) 27 = .ok (.invokevirtual 96, 3) := by decide +kernel
theorem d_114_30 : decode (am_b 114) 30 = .ok (.aload_n 0, 1) := by decide +kernel
theorem d_114_31 : decode (am_b 114) 31 = .ok (.iload 4, 2) := by decide +kernel
theorem d_114_33 : decode (am_b 114) 33 = .ok (.invokevirtual 96, 3) := by decide +kernel
theorem d_114_36 : decode (am_b 114) 36 = .ok (.aload_n 0, 1) := by decide +kernel
theorem d_114_37 : decode (am_b 114) 37 = .ok (.iload 5, 2) := by decide +kernel
theorem d_114_39 : decode (am_b 114) 39 = .ok (.invokevirtual 96, 3) := by decide +kernel
theorem d_114_42 : decode (am_b 114) 42 = .ok (.aload_n 0, 1) := by decide +kernel
theorem d_114_43 : decode (am_b 114) 43 = .ok (.getfield 93, 3) := by decide +kernel
theorem d_114_46 : decode (am_b 114) 46 = .ok (.ireturn, 1) := by decide +kernel
theorem d_115_0 : decode (am_b 115) 0 = .ok (.bipush 24, 2) := by decide +kernel
theorem d_115_2 : decode (am_b 115) 2 = .ok (.istore_n 2, 1) := by decide +kernel
theorem d_115_3 : decode (am_b 115) 3 = .ok (.iload_n 2, 1) := by decide +kernel
theorem d_115_4 : decode (am_b 115) 4 = .ok (.ifCond .lt 45, 3) := by decide +kernel
theorem d_115_7 : decode (am_b 115) 7 = .ok (.aload_n 0, 1) := by decide +kernel
theorem d_115_8 : decode (am_b 115) 8 = .ok (.getfield 93, 3) := by decide +kernel
theorem d_115_11 : decode (am_b 115) 11 = .ok (.sipush 400, 3) := by decide +kernel
theorem d_115_14 : decode (am_b 115) 14 = .ok (.if_icmp .ge 29, 3) := by decide +kernel
theorem d_115_17 : decode (am_b 115) 17 = .ok (.aload_n 0, 1) := by decide +kernel
theorem d_115_18 : decode (am_b 115) 18 = .ok (.getfield 20, 3) := by decide +kernel
theorem d_115_21 : decode (am_b 115) 21 = .ok (.aload_n 0, 1) := by decide +kernel
theorem d_115_22 : decode (am_b 115) 22 = .ok (.getfield 93, 3) := by decide +kernel
theorem d_115_25 : decode (am_b 115) 25 = .ok (.iload_n 1, 1) := by decide +kernel
theorem d_115_26 : decode (am_b 115) 26 = .ok (.iload_n 2, 1) := by decide +kernel
theorem d_115_27 : decode (am_b 115) 27 = .ok (.ishr, 1) := by decide +kernel
theorem d_115_28 : decode (am_b 115) 28 = .ok (.sipush 255, 3) := by decide +kernel
theorem d_115_31 : decode (am_b 115) 31 = .ok (.iand, 1) := by decide +kernel
theorem d_115_32 : decode (am_b 115) 32 = .ok (.iastore, 1) := by decide +kernel
theorem d_115_33 : decode (am_b 115) 33 = .ok (.aload_n 0, 1) := by decide +kernel
theorem d_115_34 : decode (am_b 115) 34 = .ok (.dup, 1) := by decide +kernel
theorem d_115_35 : decode (am_b 115) 35 = .ok (.getfield 93, 3) := by decide +kernel
theorem d_115_38 : decode (am_b 115) 38 = .ok (.iconst 1, 1) := by decide +kernel
theorem d_115_39 : decode (am_b 115) 39 = .ok (.iadd, 1) := by decide +kernel
theorem d_115_40 : decode (am_b 115) 40 = .ok (.putfield 93, 3) := by decide +kernel
theorem d_115_43 : decode (am_b 115) 43 = .ok (.iinc 2 (-8), 3) := by decide +kernel
theorem d_115_46 : decode (am_b 115) 46 = .ok (.goto (-43), 3) := by decide +kernel
theorem d_115_49 : decode (am_b 115) 49 = .ok (.return_, 1) := by decide +kernel
theorem d_116_0 : decode (am_b 116) 0 = .ok (.iload_n 1, 1) := by decide +kernel
theorem d_116_1 : decode (am_b 116) 1 = .ok (.ifCond .lt 11, 3) := by decide +kernel
theorem d_116_4 : decode (am_b 116) 4 = .ok (.iload_n 1, 1) := by decide +kernel
theorem d_116_5 : decode (am_b 116) 5 = .ok (.aload_n 0, 1) := by decide +kernel
theorem d_116_6 : decode (am_b 116) 6 = .ok (.getfield 93, 3) := by decide +kernel
theorem d_116_9 : decode (am_b 116) 9 = .ok (.if_icmp .le 5, 3) := by decide +kernel
theorem d_116_12 : decode (am_b 116) 12 = .ok (.iconst (-1), 1) := by decide +kernel
theorem d_116_13 : decode (am_b 116) 13 = .ok (.ireturn, 1) := by decide +kernel
theorem d_116_14 : decode (am_b 116) 14 = .ok (.aload_n 0, 1) := by decide +kernel
theorem d_116_15 : decode (am_b 116) 15 = .ok (.iload_n 1, 1) := by decide +kernel
theorem d_116_16 : decode (am_b 116) 16 = .ok (.putfield 93, 3) := by decide +kernel
theorem d_116_19 : decode (am_b 116) 19 = .ok (.iload_n 1, 1) := by decide +kernel
theorem d_116_20 : decode (am_b 116) 20 = .ok (.ireturn, 1) := by decide +kernel
theorem d_117_0 : decode (am_b 117) 0 = .ok (.iload_n 1, 1) := by decide +kernel
theorem d_117_1 : decode (am_b 117) 1 = .ok (.invokestatic 100, 3) := by decide +kernel
theorem d_117_4 : decode (am_b 117) 4 = .ok (.ifCond .ne 9, 3) := by decide +kernel
theorem d_117_7 : decode (am_b 117) 7 = .ok (.aload_n 0, 1) := by decide +kernel
theorem d_117_8 : decode (am_b 117) 8 = .ok (.iconst (-1), 1) := by decide +kernel
theorem d_117_9 : decode (am_b 117) 9 = .ok (.invokevirtual 104, 3) := by decide +kernel
theorem d_117_12 : decode (am_b 117) 12 = .ok (.ireturn, 1) := by decide +kernel
theorem d_117_13 : decode (am_b 117) 13 = .ok (.aload_n 0, 1) := by decide +kernel
theorem d_117_14 : decode (am_b 117) 14 = .ok (.invokevirtual 108, 3) := by decide +kernel
theorem d_117_17 : decode (am_b 117) 17 = .ok (.istore_n 2, 1) := by decide +kernel
theorem d_117_18 : decode (am_b 117) 18 = .ok (.aload_n 0, 1) := by decide +kernel
theorem d_117_19 : decode (am_b 117) 19 = .ok (.iconst 0, 1) := by decide +kernel
theorem d_117_20 : decode (am_b 117) 20 = .ok (.putfield 93, 3) := by decide +kernel
theorem d_117_23 : decode (am_b 117) 23 = .ok (.iload_n 2, 1) := by decide +kernel
theorem d_117_24 : decode (am_b 117) 24 = .ok (.ifCond .eq 18, 3) := by decide +kernel
theorem d_117_27 : decode (am_b 117) 27 = .ok (.aload_n 0, 1) := by decide +kernel
theorem d_117_28 : decode (am_b 117) 28 = .ok (.iload_n 1, 1) := by decide +kernel
theorem d_117_29 : decode (am_b 117) 29 = .ok (.aload_n 0, 1) := by decide +kernel
theorem d_117_30 : decode (am_b 117) 30 = .ok (.getfield 38, 3) := by decide +kernel
theorem d_117_33 : decode (am_b 117) 33 = .ok (.getfield 112, 3) := by decide +kernel
theorem d_117_36 : decode (am_b 117) 36 = .ok (.invokevirtual 115, 3) := by decide +kernel
theorem d_117_39 : decode (am_b 117) 39 = .ok (.goto 9, 3) := by decide +kernel
theorem d_117_42 : decode (am_b 117) 42 = .ok (.aload_n 0, 1) := by decide +kernel
theorem d_117_43 : decode (am_b 117) 43 = .ok (.bipush (-6), 2) := by decide +kernel
theorem d_117_45 : decode (am_b 117) 45 = .ok (.invokevirtual 104, 3) := by decide +kernel
theorem d_117_48 : decode (am_b 117) 48 = .ok (.ireturn, 1) := by decide +kernel
theorem d_118_0 : decode (am_b 118) 0 = .ok (.iload_n 0, 1) := by decide +kernel
theorem d_118_1 : decode (am_b 118) 1 = .ok (.ifCond .lt 13, 3) := by decide +kernel
theorem d_118_4 : decode (am_b 118) 4 = .ok (.iload_n 0, 1) := by decide +kernel
theorem d_118_5 : decode (am_b 118) 5 = .ok (.bipush 6, 2) := by decide +kernel
theorem d_118_7 : decode (am_b 118) 7 = .ok (.if_icmp .ge 7, 3) := by decide +kernel
theorem d_118_10 : decode (am_b 118) 10 = .ok (.iconst 1, 1) := by decide +kernel
theorem d_118_11 : decode (am_b 118) 11 = .ok (.goto 4, 3) := by decide +kernel
theorem d_118_14 : decode (am_b 118) 14 = .ok (.iconst 0, 1) := by decide +kernel
theorem d_118_15 : decode (am_b 118) 15 = .ok (.ireturn, 1) := by decide +kernel
theorem d_119_0 : decode (am_b 119) 0 = .ok (.aload_n 0, 1) := by decide +kernel
theorem d_119_1 : decode (am_b 119) 1 = .ok (.iload_n 1, 1) := by decide +kernel
theorem d_119_2 : decode (am_b 119) 2 = .ok (.putfield 379, 3) := by decide +kernel
theorem d_119_5 : decode (am_b 119) 5 = .ok (.aload_n 0, 1) := by decide +kernel
theorem d_119_6 : decode (am_b 119) 6 = .ok (.getfield 90, 3) := by decide +kernel
theorem d_119_9 : decode (am_b 119) 9 = .ok (.iload_n 1, 1) := by decide +kernel
theorem d_119_10 : decode (am_b 119) 10 = .ok (.ineg, 1) := by decide +kernel
theorem d_119_11 : decode (am_b 119) 11 = .ok (.dup2, 1) := by decide +kernel
theorem d_119_12 : decode (am_b 119) 12 = .ok (.iaload, 1) := by decide +kernel
theorem d_119_13 : decode (am_b 119) 13 = .ok (.iconst 1, 1) := by decide +kernel
theorem d_119_14 : decode (am_b 119) 14 = .ok (.iadd, 1) := by decide +kernel
theorem d_119_15 : decode (am_b 119) 15 = .ok (.iastore, 1) := by decide +kernel
theorem d_119_16 : decode (am_b 119) 16 = .ok (.iload_n 1, 1) := by decide +kernel
theorem d_119_17 : decode (am_b 119) 17 = .ok (.ireturn, 1) := by decide +kernel
theorem d_120_0 : decode (am_b 120) 0 = .ok (.aload_n 0, 1) := by decide +kernel
theorem d_120_1 : decode (am_b 120) 1 = .ok (.getfield 93, 3) := by decide +kernel
theorem d_120_4 : decode (am_b 120) 4 = .ok (.ifCond .le 12, 3) := by decide +kernel
theorem d_120_7 : decode (am_b 120) 7 = .ok (.aload_n 0, 1) := by decide +kernel
theorem d_120_8 : decode (am_b 120) 8 = .ok (.getfield 20, 3) := by decide +kernel
theorem d_120_11 : decode (am_b 120) 11 = .ok (.iconst 0, 1) := by decide +kernel
theorem d_120_12 : decode (am_b 120) 12 = .ok (.iaload, 1) := by decide +kernel
theorem d_120_13 : decode (am_b 120) 13 = .ok (.goto 4, 3) := by decide +kernel
theorem d_120_16 : decode (am_b 120) 16 = .ok (.iconst 0, 1) := by decide +kernel
theorem d_120_17 : decode (am_b 120) 17 = .ok (.istore_n 1, 1) := by decide +kernel
theorem d_120_18 : decode (am_b 120) 18 = .ok (.iload_n 1, 1) := by decide +kernel
theorem d_120_19 : decode (am_b 120) 19 = .ok (.invokestatic 119, 3) := by decide +kernel
theorem d_120_22 : decode (am_b 120) 22 = .ok (.ifCond .eq 15, 3) := by decide +kernel
theorem d_120_25 : decode (am_b 120) 25 = .ok (.aload_n 0, 1) := by decide +kernel
theorem d_120_26 : decode (am_b 120) 26 = .ok (.getfield 93, 3) := by decide +kernel
theorem d_120_29 : decode (am_b 120) 29 = .ok (.iconst 1, 1) := by decide +kernel
theorem d_120_30 : decode (am_b 120) 30 = .ok (.iload_n 1, 1) := by decide +kernel
theorem d_120_31 : decode (am_b 120) 31 = .ok (.iload_n 1, 1) := by decide +kernel
theorem d_120_32 : decode (am_b 120) 32 = .ok (.imul, 1) := by decide +kernel
theorem d_120_33 : decode (am_b 120) 33 = .ok (.iadd, 1) := by decide +kernel
theorem d_120_34 : decode (am_b 120) 34 = .ok (.if_icmp .eq 5, 3) := by decide +kernel
theorem d_120_37 : decode (am_b 120) 37 = .ok (.iconst 0, 1) := by decide +kernel
theorem d_120_38 : decode (am_b 120) 38 = .ok (.ireturn, 1) := by decide +kernel
theorem d_120_39 : decode (am_b 120) 39 = .ok (.aload_n 0, 1) := by decide +kernel
theorem d_120_40 : decode (am_b 120) 40 = .ok (.getfield 38, 3) := by decide +kernel
theorem d_120_43 : decode (am_b 120) 43 = .ok (.iload_n 1, 1) := by decide +kernel
theorem d_120_44 : decode (am_b 120) 44 = .ok (.putfield 112, 3) := by decide +kernel
theorem d_120_47 : decode (am_b 120) 47 = .ok (.aload_n 0, 1) := by decide +kernel
theorem d_120_48 : decode (am_b 120) 48 = .ok (.getfield 20, 3) := by decide +kernel
theorem d_120_51 : decode (am_b 120) 51 = .ok (.iconst 1, 1) := by decide +kernel
theorem d_120_52 : decode (am_b 120) 52 = .ok (.aload_n 0, 1) := by decide +kernel
theorem d_120_53 : decode (am_b 120) 53 = .ok (.getfield 38, 3) := by decide +kernel
theorem d_120_56 : decode (am_b 120) 56 = .ok (.getfield 122, 3) := by decide +kernel
theorem d_120_59 : decode (am_b 120) 59 = .ok (.iconst 0, 1) := by decide +kernel
theorem d_120_60 : decode (am_b 120) 60 = .ok (.iload_n 1, 1) := by decide +kernel
theorem d_120_61 : decode (am_b 120) 61 = .ok (.iload_n 1, 1) := by decide +kernel
theorem d_120_62 : decode (am_b 120) 62 = .ok (.imul, 1) := by decide +kernel
theorem d_120_63 : decode (am_b 120) 63 = .ok (.invokestatic 125, 3) := by decide +kernel
theorem d_120_66 : decode (am_b 120) 66 = .ok (.aload_n 0, 1) := by decide +kernel
theorem d_120_67 : decode (am_b 120) 67 = .ok (.getfield 38, 3) := by decide +kernel
theorem d_120_70 : decode (am_b 120) 70 = .ok (.invokevirtual 131, 3) := by decide +kernel
theorem d_120_73 : decode (am_b 120) 73 = .ok (.ireturn, 1) := by decide +kernel
theorem d_121_0 : decode (am_b 121) 0 = .ok (.iload_n 0, 1) := by decide +kernel
theorem d_121_1 : decode (am_b 121) 1 = .ok (.iconst 1, 1) := by decide +kernel
theorem d_121_2 : decode (am_b 121) 2 = .ok (.if_icmp .lt 13, 3) := by decide +kernel
theorem d_121_5 : decode (am_b 121) 5 = .ok (.iload_n 0, 1) := by decide +kernel
theorem d_121_6 : decode (am_b 121) 6 = .ok (.bipush 6, 2) := by decide +kernel
theorem d_121_8 : decode (am_b 121) 8 = .ok (.if_icmp .gt 7, 3) := by decide +kernel
theorem d_121_11 : decode (am_b 121) 11 = .ok (.iconst 1, 1) := by decide +kernel
theorem d_121_12 : decode (am_b 121) 12 = .ok (.goto 4, 3) := by decide +kernel
theorem d_121_15 : decode (am_b 121) 15 = .ok (.iconst 0, 1) := by decide +kernel
theorem d_121_16 : decode (am_b 121) 16 = .ok (.ireturn, 1) := by decide +kernel
theorem d_122_0 : decode (am_b 122) 0 = .ok (.aload_n 0, 1) := by decide +kernel
theorem d_122_1 : decode (am_b 122) 1 = .ok (.getfield 10, 3) := by decide +kernel
theorem d_122_4 : decode (am_b 122) 4 = .ok (.iload_n 1, 1) := by decide +kernel
theorem d_122_5 : decode (am_b 122) 5 = .ok (.aload_n 0, 1) := by decide +kernel
theorem d_122_6 : decode (am_b 122) 6 = .ok (.getfield 38, 3) := by decide +kernel
theorem d_122_9 : decode (am_b 122) 9 = .ok (.invokevirtual 382, 3) := by decide +kernel
theorem d_122_12 : decode (am_b 122) 12 = .ok (.aload_n 0, 1) := by decide +kernel
theorem d_122_13 : decode (am_b 122) 13 = .ok (.iload_n 2, 1) := by decide +kernel
theorem d_122_14 : decode (am_b 122) 14 = .ok (.invokevirtual 212, 3) := by decide +kernel
theorem d_122_17 : decode (am_b 122) 17 = .ok (.ireturn, 1) := by decide +kernel
theorem d_123_0 : decode (am_b 123) 0 = .ok (.aload_n 0, 1) := by decide +kernel
theorem d_123_1 : decode (am_b 123) 1 = .ok (.iconst 0, 1) := by decide +kernel
theorem d_123_2 : decode (am_b 123) 2 = .ok (.putfield 379, 3) := by decide +kernel
theorem d_123_5 : decode (am_b 123) 5 = .ok (.iload_n 1, 1) := by decide +kernel
theorem d_123_6 : decode (am_b 123) 6 = .ok (.ireturn, 1) := by decide +kernel
theorem d_124_0 : decode (am_b 124) 0 = .ok (.iload_n 1, 1) := by decide +kernel
theorem d_124_1 : decode (am_b 124) 1 = .ok (.invokestatic 100, 3) := by decide +kernel
theorem d_124_4 : decode (am_b 124) 4 = .ok (.ifCond .eq 10, 3) := by decide +kernel
theorem d_124_7 : decode (am_b 124) 7 = .ok (.iload_n 2, 1) := by decide +kernel
theorem d_124_8 : decode (am_b 124) 8 = .ok (.invokestatic 119, 3) := by decide +kernel
theorem d_124_11 : decode (am_b 124) 11 = .ok (.ifCond .ne 9, 3) := by decide +kernel
theorem d_124_14 : decode (am_b 124) 14 = .ok (.aload_n 0, 1) := by decide +kernel
theorem d_124_15 : decode (am_b 124) 15 = .ok (.iconst (-1), 1) := by decide +kernel
theorem d_124_16 : decode (am_b 124) 16 = .ok (.invokevirtual 104, 3) := by decide +kernel
theorem d_124_19 : decode (am_b 124) 19 = .ok (.ireturn, 1) := by decide +kernel
theorem d_124_20 : decode (am_b 124) 20 = .ok (.aload_n 0, 1) := by decide +kernel
theorem d_124_21 : decode (am_b 124) 21 = .ok (.getfield 38, 3) := by decide +kernel
theorem d_124_24 : decode (am_b 124) 24 = .ok (.iload_n 2, 1) := by decide +kernel
theorem d_124_25 : decode (am_b 124) 25 = .ok (.invokevirtual 134, 3) := by decide +kernel
theorem d_124_28 : decode (am_b 124) 28 = .ok (.aload_n 0, 1) := by decide +kernel
theorem d_124_29 : decode (am_b 124) 29 = .ok (.iload_n 1, 1) := by decide +kernel
theorem d_124_30 : decode (am_b 124) 30 = .ok (.iload_n 2, 1) := by decide +kernel
theorem d_124_31 : decode (am_b 124) 31 = .ok (.invokevirtual 115, 3) := by decide +kernel
theorem d_124_34 : decode (am_b 124) 34 = .ok (.ireturn, 1) := by decide +kernel
theorem d_125_0 : decode (am_b 125) 0 = .ok (.iload_n 1, 1) := by decide +kernel
theorem d_125_1 : decode (am_b 125) 1 = .ok (.invokestatic 100, 3) := by decide +kernel
theorem d_125_4 : decode (am_b 125) 4 = .ok (.ifCond .ne 9, 3) := by decide +kernel
theorem d_125_7 : decode (am_b 125) 7 = .ok (.aload_n 0, 1) := by decide +kernel
theorem d_125_8 : decode (am_b 125) 8 = .ok (.iconst (-1), 1) := by decide +kernel
theorem d_125_9 : decode (am_b 125) 9 = .ok (.invokevirtual 104, 3) := by decide +kernel
theorem d_125_12 : decode (am_b 125) 12 = .ok (.ireturn, 1) := by decide +kernel
theorem d_125_13 : decode (am_b 125) 13 = .ok (.aload_n 0, 1) := by decide +kernel
theorem d_125_14 : decode (am_b 125) 14 = .ok (.iload_n 2, 1) := by decide +kernel
theorem d_125_15 : decode (am_b 125) 15 = .ok (.invokevirtual 137, 3) := by decide +kernel
theorem d_125_18 : decode (am_b 125) 18 = .ok (.ifCond .ne 10, 3) := by decide +kernel
theorem d_125_21 : decode (am_b 125) 21 = .ok (.aload_n 0, 1) := by decide +kernel
theorem d_125_22 : decode (am_b 125) 22 = .ok (.bipush (-2), 2) := by decide +kernel
theorem d_125_24 : decode (am_b 125) 24 = .ok (.invokevirtual 104, 3) := by decide +kernel
theorem d_125_27 : decode (am_b 125) 27 = .ok (.ireturn, 1) := by decide +kernel
theorem d_125_28 : decode (am_b 125) 28 = .ok (.aload_n 0, 1) := by decide +kernel
theorem d_125_29 : decode (am_b 125) 29 = .ok (.getfield 38, 3) := by decide +kernel
theorem d_125_32 : decode (am_b 125) 32 = .ok (.aload_n 0, 1) := by decide +kernel
theorem d_125_33 : decode (am_b 125) 33 = .ok (.getfield 10, 3) := by decide +kernel
theorem d_125_36 : decode (am_b 125) 36 = .ok (.getfield 140, 3) := by decide +kernel
theorem d_125_39 : decode (am_b 125) 39 = .ok (.iload_n 2, 1) := by decide +kernel
theorem d_125_40 : decode (am_b 125) 40 = .ok (.aaload, 1) := by decide +kernel
theorem d_125_41 : decode (am_b 125) 41 = .ok (.invokevirtual 144, 3) := by decide +kernel
theorem d_125_44 : decode (am_b 125) 44 = .ok (.aload_n 0, 1) := by decide +kernel
theorem d_125_45 : decode (am_b 125) 45 = .ok (.iload_n 1, 1) := by decide +kernel
theorem d_125_46 : decode (am_b 125) 46 = .ok (.aload_n 0, 1) := by decide +kernel
theorem d_125_47 : decode (am_b 125) 47 = .ok (.getfield 38, 3) := by decide +kernel
theorem d_125_50 : decode (am_b 125) 50 = .ok (.getfield 112, 3) := by decide +kernel
theorem d_125_53 : decode (am_b 125) 53 = .ok (.invokevirtual 115, 3) := by decide +kernel
theorem d_125_56 : decode (am_b 125) 56 = .ok (.ireturn, 1) := by decide +kernel
theorem d_126_0 : decode (am_b 126) 0 = .ok (.iload_n 1, 1) := by decide +kernel
theorem d_126_1 : decode (am_b 126) 1 = .ok (.invokestatic 100, 3) := by decide +kernel
theorem d_126_4 : decode (am_b 126) 4 = .ok (.ifCond .eq 22, 3) := by decide +kernel
theorem d_126_7 : decode (am_b 126) 7 = .ok (.aload_n 0, 1) := by decide +kernel
theorem d_126_8 : decode (am_b 126) 8 = .ok (.getfield 10, 3) := by decide +kernel
theorem d_126_11 : decode (am_b 126) 11 = .ok (.getfield 140, 3) := by decide +kernel
theorem d_126_14 : decode (am_b 126) 14 = .ok (.iload_n 1, 1) := by decide +kernel
theorem d_126_15 : decode (am_b 126) 15 = .ok (.aaload, 1) := by decide +kernel
theorem d_126_16 : decode (am_b 126) 16 = .ok (.getfield 112, 3) := by decide +kernel
theorem d_126_19 : decode (am_b 126) 19 = .ok (.ifCond .le 7, 3) := by decide +kernel
theorem d_126_22 : decode (am_b 126) 22 = .ok (.iconst 1, 1) := by decide +kernel
theorem d_126_23 : decode (am_b 126) 23 = .ok (.goto 4, 3) := by decide +kernel
theorem d_126_26 : decode (am_b 126) 26 = .ok (.iconst 0, 1) := by decide +kernel
theorem d_126_27 : decode (am_b 126) 27 = .ok (.ireturn, 1) := by decide +kernel
theorem d_127_0 : decode (am_b 127) 0 = .ok (.aload_n 0, 1) := by decide +kernel
theorem d_127_1 : decode (am_b 127) 1 = .ok (.iload_n 1, 1) := by decide +kernel
theorem d_127_2 : decode (am_b 127) 2 = .ok (.invokevirtual 137, 3) := by decide +kernel
theorem d_127_5 : decode (am_b 127) 5 = .ok (.ifCond .ne 10, 3) := by decide +kernel
theorem d_127_8 : decode (am_b 127) 8 = .ok (.aload_n 0, 1) := by decide +kernel
theorem d_127_9 : decode (am_b 127) 9 = .ok (.bipush (-2), 2) := by decide +kernel
theorem d_127_11 : decode (am_b 127) 11 = .ok (.invokevirtual 104, 3) := by decide +kernel
theorem d_127_14 : decode (am_b 127) 14 = .ok (.ireturn, 1) := by decide +kernel
theorem d_127_15 : decode (am_b 127) 15 = .ok (.aload_n 0, 1) := by decide +kernel
theorem d_127_16 : decode (am_b 127) 16 = .ok (.getfield 10, 3) := by decide +kernel
theorem d_127_19 : decode (am_b 127) 19 = .ok (.getfield 140, 3) := by decide +kernel
theorem d_127_22 : decode (am_b 127) 22 = .ok (.iload_n 1, 1) := by decide +kernel
theorem d_127_23 : decode (am_b 127) 23 = .ok (.aaload, 1) := by decide +kernel
theorem d_127_24 : decode (am_b 127) 24 = .ok (.astore 4, 2) := by decide +kernel
theorem d_127_26 : decode (am_b 127) 26 = .ok (.aload 4, 2) := by decide +kernel
theorem d_127_28 : decode (am_b 127) 28 = .ok (.iload_n 2, 1) := by decide +kernel
theorem d_127_29 : decode (am_b 127) 29 = .ok (.invokevirtual 148, 3) := by decide +kernel
theorem d_127_32 : decode (am_b 127) 32 = .ok (.ifCond .eq 12, 3) := by decide +kernel
theorem d_127_35 : decode (am_b 127) 35 = .ok (.aload 4, 2) := by decide +kernel
theorem d_127_37 : decode (am_b 127) 37 = .ok (.iload_n 3, 1) := by decide +kernel
theorem d_127_38 : decode (am_b 127) 38 = .ok (.invokevirtual 148, 3) := by decide +kernel
theorem d_127_41 : decode (am_b 127) 41 = .ok (.ifCond .ne 9, 3) := by decide +kernel
theorem d_127_44 : decode (am_b 127) 44 = .ok (.aload_n 0, 1) := by decide +kernel
theorem d_127_45 : decode (am_b 127) 45 = .ok (.iconst (-1), 1) := by decide +kernel
theorem d_127_46 : decode (am_b 127) 46 = .ok (.invokevirtual 104, 3) := by decide +kernel
theorem d_127_49 : decode (am_b 127) 49 = .ok (.ireturn, 1) := by decide +kernel
theorem d_127_50 : decode (am_b 127) 50 = .ok (.aload 4, 2) := by decide +kernel
theorem d_127_52 : decode (am_b 127) 52 = .ok (.iload_n 2, 1) := by decide +kernel
theorem d_127_53 : decode (am_b 127) 53 = .ok (.iload_n 3, 1) := by decide +kernel
theorem d_127_54 : decode (am_b 127) 54 = .ok (.invokevirtual 151, 3) := by decide +kernel
theorem d_127_57 : decode (am_b 127) 57 = .ok (.istore 5, 2) := by decide +kernel
theorem d_127_59 : decode (am_b 127) 59 = .ok (.aload_n 0, 1) := by decide +kernel
theorem d_127_60 : decode (am_b 127) 60 = .ok (.getfield 38, 3) := by decide +kernel
theorem d_127_63 : decode (am_b 127) 63 = .ok (.aload 4, 2) := by decide +kernel
theorem d_127_65 : decode (am_b 127) 65 = .ok (.iload_n 2, 1) := by decide +kernel
theorem d_127_66 : decode (am_b 127) 66 = .ok (.iload_n 3, 1) := by decide +kernel
theorem d_127_67 : decode (am_b 127) 67 = .ok (.invokevirtual 154, 3) := by decide +kernel
theorem d_127_70 : decode (am_b 127) 70 = .ok (.aload_n 0, 1) := by decide +kernel
theorem d_127_71 : decode (am_b 127) 71 = .ok (.iload_n 1, 1) := by decide +kernel
theorem d_127_72 : decode (am_b 127) 72 = .ok (.iload 5, 2) := by decide +kernel
theorem d_127_74 : decode (am_b 127) 74 = .ok (.invokevirtual 115, 3) := by decide +kernel
theorem d_127_77 : decode (am_b 127) 77 = .ok (.ireturn, 1) := by decide +kernel
theorem d_128_0 : decode (am_b 128) 0 = .ok (.aload_n 0, 1) := by decide +kernel
theorem d_128_1 : decode (am_b 128) 1 = .ok (.iload_n 1, 1) := by decide +kernel
theorem d_128_2 : decode (am_b 128) 2 = .ok (.invokevirtual 137, 3) := by decide +kernel
theorem d_128_5 : decode (am_b 128) 5 = .ok (.ifCond .ne 10, 3) := by decide +kernel
theorem d_128_8 : decode (am_b 128) 8 = .ok (.aload_n 0, 1) := by decide +kernel
theorem d_128_9 : decode (am_b 128) 9 = .ok (.bipush (-2), 2) := by decide +kernel
theorem d_128_11 : decode (am_b 128) 11 = .ok (.invokevirtual 104, 3) := by decide +kernel
theorem d_128_14 : decode (am_b 128) 14 = .ok (.ireturn, 1) := by decide +kernel
theorem d_128_15 : decode (am_b 128) 15 = .ok (.iload_n 2, 1) := by decide +kernel
theorem d_128_16 : decode (am_b 128) 16 = .ok (.ifCond .lt 9, 3) := by decide +kernel
theorem d_128_19 : decode (am_b 128) 19 = .ok (.iload_n 2, 1) := by decide +kernel
theorem d_128_20 : decode (am_b 128) 20 = .ok (.bipush 6, 2) := by decide +kernel
theorem d_128_22 : decode (am_b 128) 22 = .ok (.if_icmp .lt 9, 3) := by decide +kernel
theorem d_128_25 : decode (am_b 128) 25 = .ok (.aload_n 0, 1) := by decide +kernel
theorem d_128_26 : decode (am_b 128) 26 = .ok (.iconst (-1), 1) := by decide +kernel
theorem d_128_27 : decode (am_b 128) 27 = .ok (.invokevirtual 104, 3) := by decide +kernel
theorem d_128_30 : decode (am_b 128) 30 = .ok (.ireturn, 1) := by decide +kernel
theorem d_128_31 : decode (am_b 128) 31 = .ok (.aload_n 0, 1) := by decide +kernel
theorem d_128_32 : decode (am_b 128) 32 = .ok (.getfield 38, 3) := by decide +kernel
theorem d_128_35 : decode (am_b 128) 35 = .ok (.aload_n 0, 1) := by decide +kernel
theorem d_128_36 : decode (am_b 128) 36 = .ok (.getfield 10, 3) := by decide +kernel
theorem d_128_39 : decode (am_b 128) 39 = .ok (.getfield 140, 3) := by decide +kernel
theorem d_128_42 : decode (am_b 128) 42 = .ok (.iload_n 1, 1) := by decide +kernel
theorem d_128_43 : decode (am_b 128) 43 = .ok (.aaload, 1) := by decide +kernel
theorem d_128_44 : decode (am_b 128) 44 = .ok (.iload_n 2, 1) := by decide +kernel
theorem d_128_45 : decode (am_b 128) 45 = .ok (.invokevirtual 158, 3) := by decide +kernel
theorem d_128_48 : decode (am_b 128) 48 = .ok (.aload_n 0, 1) := by decide +kernel
theorem d_128_49 : decode (am_b 128) 49 = .ok (.iload_n 1, 1) := by decide +kernel
theorem d_128_50 : decode (am_b 128) 50 = .ok (.iconst 0, 1) := by decide +kernel
theorem d_128_51 : decode (am_b 128) 51 = .ok (.invokevirtual 115, 3) := by decide +kernel
theorem d_128_54 : decode (am_b 128) 54 = .ok (.ireturn, 1) := by decide +kernel
theorem d_129_0 : decode (am_b 129) 0 = .ok (.aload_n 0, 1) := by decide +kernel
theorem d_129_1 : decode (am_b 129) 1 = .ok (.iload_n 1, 1) := by decide +kernel
theorem d_129_2 : decode (am_b 129) 2 = .ok (.invokevirtual 137, 3) := by decide +kernel
theorem d_129_5 : decode (am_b 129) 5 = .ok (.ifCond .ne 10, 3) := by decide +kernel
theorem d_129_8 : decode (am_b 129) 8 = .ok (.aload_n 0, 1) := by decide +kernel
theorem d_129_9 : decode (am_b 129) 9 = .ok (.bipush (-2), 2) := by decide +kernel
theorem d_129_11 : decode (am_b 129) 11 = .ok (.invokevirtual 104, 3) := by decide +kernel
theorem d_129_14 : decode (am_b 129) 14 = .ok (.ireturn, 1) := by decide +kernel
theorem d_129_15 : decode (am_b 129) 15 = .ok (.aload_n 0, 1) := by decide +kernel
theorem d_129_16 : decode (am_b 129) 16 = .ok (.getfield 10, 3) := by decide +kernel
theorem d_129_19 : decode (am_b 129) 19 = .ok (.getfield 140, 3) := by decide +kernel
theorem d_129_22 : decode (am_b 129) 22 = .ok (.iload_n 1, 1) := by decide +kernel
theorem d_129_23 : decode (am_b 129) 23 = .ok (.aaload, 1) := by decide +kernel
theorem d_129_24 : decode (am_b 129) 24 = .ok (.astore_n 3, 1) := by decide +kernel
theorem d_129_25 : decode (am_b 129) 25 = .ok (.iload_n 2, 1) := by decide +kernel
theorem d_129_26 : decode (am_b 129) 26 = .ok (.ifCond .lt 15, 3) := by decide +kernel
theorem d_129_29 : decode (am_b 129) 29 = .ok (.iload_n 2, 1) := by decide +kernel
theorem d_129_30 : decode (am_b 129) 30 = .ok (.getstatic 162, 3) := by decide +kernel
theorem d_129_33 : decode (am_b 129) 33 = .ok (.aload_n 3, 1) := by decide +kernel
theorem d_129_34 : decode (am_b 129) 34 = .ok (.getfield 112, 3) := by decide +kernel
theorem d_129_37 : decode (am_b 129) 37 = .ok (.iaload, 1) := by decide +kernel
theorem d_129_38 : decode (am_b 129) 38 = .ok (.if_icmp .lt 9, 3) := by decide +kernel
theorem d_129_41 : decode (am_b 129) 41 = .ok (.aload_n 0, 1) := by decide +kernel
theorem d_129_42 : decode (am_b 129) 42 = .ok (.iconst (-1), 1) := by decide +kernel
theorem d_129_43 : decode (am_b 129) 43 = .ok (.invokevirtual 104, 3) := by decide +kernel
theorem d_129_46 : decode (am_b 129) 46 = .ok (.ireturn, 1) := by decide +kernel
theorem d_129_47 : decode (am_b 129) 47 = .ok (.aload_n 0, 1) := by decide +kernel
theorem d_129_48 : decode (am_b 129) 48 = .ok (.getfield 79, 3) := by decide +kernel
theorem d_129_51 : decode (am_b 129) 51 = .ok (.aload_n 0, 1) := by decide +kernel
theorem d_129_52 : decode (am_b 129) 52 = .ok (.getfield 38, 3) := by decide +kernel
theorem d_129_55 : decode (am_b 129) 55 = .ok (.aload_n 3, 1) := by decide +kernel
theorem d_129_56 : decode (am_b 129) 56 = .ok (.iload_n 2, 1) := by decide +kernel
theorem d_129_57 : decode (am_b 129) 57 = .ok (.invokevirtual 165, 3) := by decide +kernel
theorem d_129_60 : decode (am_b 129) 60 = .ok (.aload_n 0, 1) := by decide +kernel
theorem d_129_61 : decode (am_b 129) 61 = .ok (.iload_n 1, 1) := by decide +kernel
theorem d_129_62 : decode (am_b 129) 62 = .ok (.iconst 0, 1) := by decide +kernel
theorem d_129_63 : decode (am_b 129) 63 = .ok (.invokevirtual 115, 3) := by decide +kernel
theorem d_129_66 : decode (am_b 129) 66 = .ok (.ireturn, 1) := by decide +kernel
theorem d_130_0 : decode (am_b 130) 0 = .ok (.aload_n 0, 1) := by decide +kernel
theorem d_130_1 : decode (am_b 130) 1 = .ok (.iload_n 1, 1) := by decide +kernel
theorem d_130_2 : decode (am_b 130) 2 = .ok (.invokevirtual 137, 3) := by decide +kernel
theorem d_130_5 : decode (am_b 130) 5 = .ok (.ifCond .ne 10, 3) := by decide +kernel
theorem d_130_8 : decode (am_b 130) 8 = .ok (.aload_n 0, 1) := by decide +kernel
theorem d_130_9 : decode (am_b 130) 9 = .ok (.bipush (-2), 2) := by decide +kernel
theorem d_130_11 : decode (am_b 130) 11 = .ok (.invokevirtual 104, 3) := by decide +kernel
theorem d_130_14 : decode (am_b 130) 14 = .ok (.ireturn, 1) := by decide +kernel
theorem d_130_15 : decode (am_b 130) 15 = .ok (.aload_n 0, 1) := by decide +kernel
theorem d_130_16 : decode (am_b 130) 16 = .ok (.getfield 10, 3) := by decide +kernel
theorem d_130_19 : decode (am_b 130) 19 = .ok (.getfield 140, 3) := by decide +kernel
theorem d_130_22 : decode (am_b 130) 22 = .ok (.iload_n 1, 1) := by decide +kernel
theorem d_130_23 : decode (am_b 130) 23 = .ok (.aaload, 1) := by decide +kernel
theorem d_130_24 : decode (am_b 130) 24 = .ok (.astore 5, 2) := by decide +kernel
theorem d_130_26 : decode (am_b 130) 26 = .ok (.aload 5, 2) := by decide +kernel
theorem d_130_28 : decode (am_b 130) 28 = .ok (.iload_n 2, 1) := by decide +kernel
theorem d_130_29 : decode (am_b 130) 29 = .ok (.iload_n 3, 1) := by decide +kernel
theorem d_130_30 : decode (am_b 130) 30 = .ok (.invokevirtual 169, 3) := by decide +kernel
theorem d_130_33 : decode (am_b 130) 33 = .ok (.ifCond .eq 13, 3) := by decide +kernel
theorem d_130_36 : decode (am_b 130) 36 = .ok (.aload 5, 2) := by decide +kernel
theorem d_130_38 : decode (am_b 130) 38 = .ok (.iload 4, 2) := by decide +kernel
theorem d_130_40 : decode (am_b 130) 40 = .ok (.invokevirtual 148, 3) := by decide +kernel
theorem d_130_43 : decode (am_b 130) 43 = .ok (.ifCond .ne 9, 3) := by decide +kernel
theorem d_130_46 : decode (am_b 130) 46 = .ok (.aload_n 0, 1) := by decide +kernel
theorem d_130_47 : decode (am_b 130) 47 = .ok (.iconst (-1), 1) := by decide +kernel
theorem d_130_48 : decode (am_b 130) 48 = .ok (.invokevirtual 104, 3) := by decide +kernel
theorem d_130_51 : decode (am_b 130) 51 = .ok (.ireturn, 1) := by decide +kernel
theorem d_130_52 : decode (am_b 130) 52 = .ok (.aload_n 0, 1) := by decide +kernel
theorem d_130_53 : decode (am_b 130) 53 = .ok (.getfield 38, 3) := by decide +kernel
theorem d_130_56 : decode (am_b 130) 56 = .ok (.aload 5, 2) := by decide +kernel
theorem d_130_58 : decode (am_b 130) 58 = .ok (.invokevirtual 144, 3) := by decide +kernel
theorem d_130_61 : decode (am_b 130) 61 = .ok (.aload_n 0, 1) := by decide +kernel
theorem d_130_62 : decode (am_b 130) 62 = .ok (.getfield 38, 3) := by decide +kernel
theorem d_130_65 : decode (am_b 130) 65 = .ok (.iload_n 2, 1) := by decide +kernel
theorem d_130_66 : decode (am_b 130) 66 = .ok (.iload_n 3, 1) := by decide +kernel
theorem d_130_67 : decode (am_b 130) 67 = .ok (.iload 4, 2) := by decide +kernel
theorem d_130_69 : decode (am_b 130) 69 = .ok (.invokevirtual 173, 3) := by decide +kernel
theorem d_130_72 : decode (am_b 130) 72 = .ok (.istore 6, 2) := by decide +kernel
theorem d_130_74 : decode (am_b 130) 74 = .ok (.aload_n 0, 1) := by decide +kernel
theorem d_130_75 : decode (am_b 130) 75 = .ok (.getfield 38, 3) := by decide +kernel
theorem d_130_78 : decode (am_b 130) 78 = .ok (.iload_n 2, 1) := by decide +kernel
theorem d_130_79 : decode (am_b 130) 79 = .ok (.iload_n 3, 1) := by decide +kernel
theorem d_130_80 : decode (am_b 130) 80 = .ok (.iload 6, 2) := by decide +kernel
theorem d_130_82 : decode (am_b 130) 82 = .ok (.invokevirtual 177, 3) := by decide +kernel
theorem d_130_85 : decode (am_b 130) 85 = .ok (.aload_n 0, 1) := by decide +kernel
theorem d_130_86 : decode (am_b 130) 86 = .ok (.iload_n 1, 1) := by decide +kernel
theorem d_130_87 : decode (am_b 130) 87 = .ok (.iload 6, 2) := by decide +kernel
theorem d_130_89 : decode (am_b 130) 89 = .ok (.invokestatic 181, 3) := by decide +kernel
theorem d_130_92 : decode (am_b 130) 92 = .ok (.invokevirtual 115, 3) := by decide +kernel
theorem d_130_95 : decode (am_b 130) 95 = .ok (.ireturn, 1) := by decide +kernel
theorem d_131_0 : decode (am_b 131) 0 = .ok (.aload_n 0, 1) := by decide +kernel
theorem d_131_1 : decode (am_b 131) 1 = .ok (.iload_n 1, 1) := by decide +kernel
theorem d_131_2 : decode (am_b 131) 2 = .ok (.iaload, 1) := by decide +kernel
theorem d_131_3 : decode (am_b 131) 3 = .ok (.istore_n 3, 1) := by decide +kernel
theorem d_131_4 : decode (am_b 131) 4 = .ok (.aload_n 0, 1) := by decide +kernel
theorem d_131_5 : decode (am_b 131) 5 = .ok (.iload_n 1, 1) := by decide +kernel
theorem d_131_6 : decode (am_b 131) 6 = .ok (.aload_n 0, 1) := by decide +kernel
theorem d_131_7 : decode (am_b 131) 7 = .ok (.iload_n 2, 1) := by decide +kernel
theorem d_131_8 : decode (am_b 131) 8 = .ok (.iaload, 1) := by decide +kernel
theorem d_131_9 : decode (am_b 131) 9 = .ok (.iastore, 1) := by decide +kernel
theorem d_131_10 : decode (am_b 131) 10 = .ok (.aload_n 0, 1) := by decide +kernel
theorem d_131_11 : decode (am_b 131) 11 = .ok (.iload_n 2, 1) := by decide +kernel
theorem d_131_12 : decode (am_b 131) 12 = .ok (.iload_n 3, 1) := by decide +kernel
theorem d_131_13 : decode (am_b 131) 13 = .ok (.iastore, 1) := by decide +kernel
theorem d_131_14 : decode (am_b 131) 14 = .ok (.return_, 1) := by decide +kernel
theorem d_132_0 : decode (am_b 132) 0 = .ok (.iload_n 1, 1) := by decide +kernel
theorem d_132_1 : decode (am_b 132) 1 = .ok (.invokestatic 100, 3) := by decide +kernel
theorem d_132_4 : decode (am_b 132) 4 = .ok (.ifCond .ne 9, 3) := by decide +kernel
theorem d_132_7 : decode (am_b 132) 7 = .ok (.aload_n 0, 1) := by decide +kernel
theorem d_132_8 : decode (am_b 132) 8 = .ok (.iconst (-1), 1) := by decide +kernel
theorem d_132_9 : decode (am_b 132) 9 = .ok (.invokevirtual 104, 3) := by decide +kernel
theorem d_132_12 : decode (am_b 132) 12 = .ok (.ireturn, 1) := by decide +kernel
theorem d_132_13 : decode (am_b 132) 13 = .ok (.aload_n 0, 1) := by decide +kernel
theorem d_132_14 : decode (am_b 132) 14 = .ok (.iload_n 2, 1) := by decide +kernel
theorem d_132_15 : decode (am_b 132) 15 = .ok (.invokevirtual 137, 3) := by decide +kernel
theorem d_132_18 : decode (am_b 132) 18 = .ok (.ifCond .eq 11, 3) := by decide +kernel
theorem d_132_21 : decode (am_b 132) 21 = .ok (.aload_n 0, 1) := by decide +kernel
theorem d_132_22 : decode (am_b 132) 22 = .ok (.iload_n 3, 1) := by decide +kernel
theorem d_132_23 : decode (am_b 132) 23 = .ok (.invokevirtual 137, 3) := by decide +kernel
theorem d_132_26 : decode (am_b 132) 26 = .ok (.ifCond .ne 10, 3) := by decide +kernel
theorem d_132_29 : decode (am_b 132) 29 = .ok (.aload_n 0, 1) := by decide +kernel
theorem d_132_30 : decode (am_b 132) 30 = .ok (.bipush (-2), 2) := by decide +kernel
theorem d_132_32 : decode (am_b 132) 32 = .ok (.invokevirtual 104, 3) := by decide +kernel
theorem d_132_35 : decode (am_b 132) 35 = .ok (.ireturn, 1) := by decide +kernel
theorem d_132_36 : decode (am_b 132) 36 = .ok (.aload_n 0, 1) := by decide +kernel
theorem d_132_37 : decode (am_b 132) 37 = .ok (.getfield 10, 3) := by decide +kernel
theorem d_132_40 : decode (am_b 132) 40 = .ok (.getfield 140, 3) := by decide +kernel
theorem d_132_43 : decode (am_b 132) 43 = .ok (.iload_n 2, 1) := by decide +kernel
theorem d_132_44 : decode (am_b 132) 44 = .ok (.aaload, 1) := by decide +kernel
theorem d_132_45 : decode (am_b 132) 45 = .ok (.getfield 112, 3) := by decide +kernel
theorem d_132_48 : decode (am_b 132) 48 = .ok (.aload_n 0, 1) := by decide +kernel
theorem d_132_49 : decode (am_b 132) 49 = .ok (.getfield 10, 3) := by decide +kernel
theorem d_132_52 : decode (am_b 132) 52 = .ok (.getfield 140, 3) := by decide +kernel
theorem d_132_55 : decode (am_b 132) 55 = .ok (.iload_n 3, 1) := by decide +kernel
theorem d_132_56 : decode (am_b 132) 56 = .ok (.aaload, 1) := by decide +kernel
theorem d_132_57 : decode (am_b 132) 57 = .ok (.getfield 112, 3) := by decide +kernel
theorem d_132_60 : decode (am_b 132) 60 = .ok (.imul, 1) := by decide +kernel
theorem d_132_61 : decode (am_b 132) 61 = .ok (.bipush 6, 2) := by decide +kernel
theorem d_132_63 : decode (am_b 132) 63 = .ok (.if_icmp .le 10, 3) := by decide +kernel
theorem d_132_66 : decode (am_b 132) 66 = .ok (.aload_n 0, 1) := by decide +kernel
theorem d_132_67 : decode (am_b 132) 67 = .ok (.bipush (-3), 2) := by decide +kernel
theorem d_132_69 : decode (am_b 132) 69 = .ok (.invokevirtual 104, 3) := by decide +kernel
theorem d_132_72 : decode (am_b 132) 72 = .ok (.ireturn, 1) := by decide +kernel
theorem d_132_73 : decode (am_b 132) 73 = .ok (.aload_n 0, 1) := by decide +kernel
theorem d_132_74 : decode (am_b 132) 74 = .ok (.getfield 38, 3) := by decide +kernel
theorem d_132_77 : decode (am_b 132) 77 = .ok (.aload_n 0, 1) := by decide +kernel
theorem d_132_78 : decode (am_b 132) 78 = .ok (.getfield 10, 3) := by decide +kernel
theorem d_132_81 : decode (am_b 132) 81 = .ok (.getfield 140, 3) := by decide +kernel
theorem d_132_84 : decode (am_b 132) 84 = .ok (.iload_n 2, 1) := by decide +kernel
theorem d_132_85 : decode (am_b 132) 85 = .ok (.aaload, 1) := by decide +kernel
theorem d_132_86 : decode (am_b 132) 86 = .ok (.aload_n 0, 1) := by decide +kernel
theorem d_132_87 : decode (am_b 132) 87 = .ok (.getfield 10, 3) := by decide +kernel
theorem d_132_90 : decode (am_b 132) 90 = .ok (.getfield 140, 3) := by decide +kernel
theorem d_132_93 : decode (am_b 132) 93 = .ok (.iload_n 3, 1) := by decide +kernel
theorem d_132_94 : decode (am_b 132) 94 = .ok (.aaload, 1) := by decide +kernel
theorem d_132_95 : decode (am_b 132) 95 = .ok (.invokevirtual 186, 3) := by decide +kernel
theorem d_132_98 : decode (am_b 132) 98 = .ok (.aload_n 0, 1) := by decide +kernel
theorem d_132_99 : decode (am_b 132) 99 = .ok (.iload_n 1, 1) := by decide +kernel
theorem d_132_100 : decode (am_b 132) 100 = .ok (.aload_n 0, 1) := by decide +kernel
theorem d_132_101 : decode (am_b 132) 101 = .ok (.getfield 38, 3) := by decide +kernel
theorem d_132_104 : decode (am_b 132) 104 = .ok (.getfield 112, 3) := by decide +kernel
theorem d_132_107 : decode (am_b 132) 107 = .ok (.invokevirtual 115, 3) := by decide +kernel
theorem d_132_110 : decode (am_b 132) 110 = .ok (.ireturn, 1) := by decide +kernel
theorem d_133_0 : decode (am_b 133) 0 = .ok (.iload_n 1, 1) := by decide +kernel
theorem d_133_1 : decode (am_b 133) 1 = .ok (.invokestatic 100, 3) := by decide +kernel
theorem d_133_4 : decode (am_b 133) 4 = .ok (.ifCond .eq 14, 3) := by decide +kernel
theorem d_133_7 : decode (am_b 133) 7 = .ok (.iload_n 3, 1) := by decide +kernel
theorem d_133_8 : decode (am_b 133) 8 = .ok (.ifCond .lt 10, 3) := by decide +kernel
theorem d_133_11 : decode (am_b 133) 11 = .ok (.iload_n 3, 1) := by decide +kernel
theorem d_133_12 : decode (am_b 133) 12 = .ok (.sipush 511, 3) := by decide +kernel
theorem d_133_15 : decode (am_b 133) 15 = .ok (.if_icmp .le 9, 3) := by decide +kernel
theorem d_133_18 : decode (am_b 133) 18 = .ok (.aload_n 0, 1) := by decide +kernel
theorem d_133_19 : decode (am_b 133) 19 = .ok (.iconst (-1), 1) := by decide +kernel
theorem d_133_20 : decode (am_b 133) 20 = .ok (.invokevirtual 104, 3) := by decide +kernel
theorem d_133_23 : decode (am_b 133) 23 = .ok (.ireturn, 1) := by decide +kernel
theorem d_133_24 : decode (am_b 133) 24 = .ok (.aload_n 0, 1) := by decide +kernel
theorem d_133_25 : decode (am_b 133) 25 = .ok (.iload_n 2, 1) := by decide +kernel
theorem d_133_26 : decode (am_b 133) 26 = .ok (.invokevirtual 137, 3) := by decide +kernel
theorem d_133_29 : decode (am_b 133) 29 = .ok (.ifCond .ne 10, 3) := by decide +kernel
theorem d_133_32 : decode (am_b 133) 32 = .ok (.aload_n 0, 1) := by decide +kernel
theorem d_133_33 : decode (am_b 133) 33 = .ok (.bipush (-2), 2) := by decide +kernel
theorem d_133_35 : decode (am_b 133) 35 = .ok (.invokevirtual 104, 3) := by decide +kernel
theorem d_133_38 : decode (am_b 133) 38 = .ok (.ireturn, 1) := by decide +kernel
theorem d_133_39 : decode (am_b 133) 39 = .ok (.iconst 2, 1) := by decide +kernel
theorem d_133_40 : decode (am_b 133) 40 = .ok (.aload_n 0, 1) := by decide +kernel
theorem d_133_41 : decode (am_b 133) 41 = .ok (.getfield 10, 3) := by decide +kernel
theorem d_133_44 : decode (am_b 133) 44 = .ok (.getfield 140, 3) := by decide +kernel
theorem d_133_47 : decode (am_b 133) 47 = .ok (.iload_n 2, 1) := by decide +kernel
theorem d_133_48 : decode (am_b 133) 48 = .ok (.aaload, 1) := by decide +kernel
theorem d_133_49 : decode (am_b 133) 49 = .ok (.getfield 112, 3) := by decide +kernel
theorem d_133_52 : decode (am_b 133) 52 = .ok (.imul, 1) := by decide +kernel
theorem d_133_53 : decode (am_b 133) 53 = .ok (.bipush 6, 2) := by decide +kernel
theorem d_133_55 : decode (am_b 133) 55 = .ok (.if_icmp .le 10, 3) := by decide +kernel
theorem d_133_58 : decode (am_b 133) 58 = .ok (.aload_n 0, 1) := by decide +kernel
theorem d_133_59 : decode (am_b 133) 59 = .ok (.bipush (-3), 2) := by decide +kernel
theorem d_133_61 : decode (am_b 133) 61 = .ok (.invokevirtual 104, 3) := by decide +kernel
theorem d_133_64 : decode (am_b 133) 64 = .ok (.ireturn, 1) := by decide +kernel
theorem d_133_65 : decode (am_b 133) 65 = .ok (.aload_n 0, 1) := by decide +kernel
theorem d_133_66 : decode (am_b 133) 66 = .ok (.getfield 38, 3) := by decide +kernel
theorem d_133_69 : decode (am_b 133) 69 = .ok (.aload_n 0, 1) := by decide +kernel
theorem d_133_70 : decode (am_b 133) 70 = .ok (.getfield 10, 3) := by decide +kernel
theorem d_133_73 : decode (am_b 133) 73 = .ok (.getfield 140, 3) := by decide +kernel
theorem d_133_76 : decode (am_b 133) 76 = .ok (.iload_n 2, 1) := by decide +kernel
theorem d_133_77 : decode (am_b 133) 77 = .ok (.aaload, 1) := by decide +kernel
theorem d_133_78 : decode (am_b 133) 78 = .ok (.iload_n 3, 1) := by decide +kernel
theorem d_133_79 : decode (am_b 133) 79 = .ok (.invokevirtual 190, 3) := by decide +kernel
theorem d_133_82 : decode (am_b 133) 82 = .ok (.aload_n 0, 1) := by decide +kernel
theorem d_133_83 : decode (am_b 133) 83 = .ok (.iload_n 1, 1) := by decide +kernel
theorem d_133_84 : decode (am_b 133) 84 = .ok (.aload_n 0, 1) := by decide +kernel
theorem d_133_85 : decode (am_b 133) 85 = .ok (.getfield 38, 3) := by decide +kernel
theorem d_133_88 : decode (am_b 133) 88 = .ok (.getfield 112, 3) := by decide +kernel
theorem d_133_91 : decode (am_b 133) 91 = .ok (.invokevirtual 115, 3) := by decide +kernel
theorem d_133_94 : decode (am_b 133) 94 = .ok (.ireturn, 1) := by decide +kernel
theorem d_134_0 : decode (am_b 134) 0 = .ok (.iload_n 1, 1) := by decide +kernel
theorem d_134_1 : decode (am_b 134) 1 = .ok (.invokestatic 100, 3) := by decide +kernel
theorem d_134_4 : decode (am_b 134) 4 = .ok (.ifCond .eq 13, 3) := by decide +kernel
theorem d_134_7 : decode (am_b 134) 7 = .ok (.iload_n 3, 1) := by decide +kernel
theorem d_134_8 : decode (am_b 134) 8 = .ok (.ifCond .lt 9, 3) := by decide +kernel
theorem d_134_11 : decode (am_b 134) 11 = .ok (.iload_n 3, 1) := by decide +kernel
theorem d_134_12 : decode (am_b 134) 12 = .ok (.bipush 63, 2) := by decide +kernel
theorem d_134_14 : decode (am_b 134) 14 = .ok (.if_icmp .le 9, 3) := by decide +kernel
theorem d_134_17 : decode (am_b 134) 17 = .ok (.aload_n 0, 1) := by decide +kernel
theorem d_134_18 : decode (am_b 134) 18 = .ok (.iconst (-1), 1) := by decide +kernel
theorem d_134_19 : decode (am_b 134) 19 = .ok (.invokevirtual 104, 3) := by decide +kernel
theorem d_134_22 : decode (am_b 134) 22 = .ok (.ireturn, 1) := by decide +kernel
theorem d_134_23 : decode (am_b 134) 23 = .ok (.aload_n 0, 1) := by decide +kernel
theorem d_134_24 : decode (am_b 134) 24 = .ok (.iload_n 2, 1) := by decide +kernel
theorem d_134_25 : decode (am_b 134) 25 = .ok (.invokevirtual 137, 3) := by decide +kernel
theorem d_134_28 : decode (am_b 134) 28 = .ok (.ifCond .ne 10, 3) := by decide +kernel
theorem d_134_31 : decode (am_b 134) 31 = .ok (.aload_n 0, 1) := by decide +kernel
theorem d_134_32 : decode (am_b 134) 32 = .ok (.bipush (-2), 2) := by decide +kernel
theorem d_134_34 : decode (am_b 134) 34 = .ok (.invokevirtual 104, 3) := by decide +kernel
theorem d_134_37 : decode (am_b 134) 37 = .ok (.ireturn, 1) := by decide +kernel
theorem d_134_38 : decode (am_b 134) 38 = .ok (.aload_n 0, 1) := by decide +kernel
theorem d_134_39 : decode (am_b 134) 39 = .ok (.getfield 10, 3) := by decide +kernel
theorem d_134_42 : decode (am_b 134) 42 = .ok (.getfield 140, 3) := by decide +kernel
theorem d_134_45 : decode (am_b 134) 45 = .ok (.iload_n 2, 1) := by decide +kernel
theorem d_134_46 : decode (am_b 134) 46 = .ok (.aaload, 1) := by decide +kernel
theorem d_134_47 : decode (am_b 134) 47 = .ok (.astore 4, 2) := by decide +kernel
theorem d_134_49 : decode (am_b 134) 49 = .ok (.aload 4, 2) := by decide +kernel
theorem d_134_51 : decode (am_b 134) 51 = .ok (.invokevirtual 193, 3) := by decide +kernel
theorem d_134_54 : decode (am_b 134) 54 = .ok (.iconst (-1), 1) := by decide +kernel
theorem d_134_55 : decode (am_b 134) 55 = .ok (.if_icmp .eq 12, 3) := by decide +kernel
theorem d_134_58 : decode (am_b 134) 58 = .ok (.aload 4, 2) := by decide +kernel
theorem d_134_60 : decode (am_b 134) 60 = .ok (.iload_n 3, 1) := by decide +kernel
theorem d_134_61 : decode (am_b 134) 61 = .ok (.invokestatic 197, 3) := by decide +kernel
theorem d_134_64 : decode (am_b 134) 64 = .ok (.ifCond .ne 10, 3) := by decide +kernel
theorem d_134_67 : decode (am_b 134) 67 = .ok (.aload_n 0, 1) := by decide +kernel
theorem d_134_68 : decode (am_b 134) 68 = .ok (.bipush (-3), 2) := by decide +kernel
theorem d_134_70 : decode (am_b 134) 70 = .ok (.invokevirtual 104, 3) := by decide +kernel
theorem d_134_73 : decode (am_b 134) 73 = .ok (.ireturn, 1) := by decide +kernel
theorem d_134_74 : decode (am_b 134) 74 = .ok (.aload_n 0, 1) := by decide +kernel
theorem d_134_75 : decode (am_b 134) 75 = .ok (.getfield 38, 3) := by decide +kernel
theorem d_134_78 : decode (am_b 134) 78 = .ok (.aload 4, 2) := by decide +kernel
theorem d_134_80 : decode (am_b 134) 80 = .ok (.iload_n 3, 1) := by decide +kernel
theorem d_134_81 : decode (am_b 134) 81 = .ok (.invokestatic 203, 3) := by decide +kernel
theorem d_134_84 : decode (am_b 134) 84 = .ok (.aload_n 0, 1) := by decide +kernel
theorem d_134_85 : decode (am_b 134) 85 = .ok (.iload_n 1, 1) := by decide +kernel
theorem d_134_86 : decode (am_b 134) 86 = .ok (.aload_n 0, 1) := by decide +kernel
theorem d_134_87 : decode (am_b 134) 87 = .ok (.getfield 38, 3) := by decide +kernel
theorem d_134_90 : decode (am_b 134) 90 = .ok (.getfield 112, 3) := by decide +kernel
theorem d_134_93 : decode (am_b 134) 93 = .ok (.invokevirtual 115, 3) := by decide +kernel
theorem d_134_96 : decode (am_b 134) 96 = .ok (.ireturn, 1) := by decide +kernel
theorem d_135_0 : decode (am_b 135) 0 = .ok (.aload_n 0, 1) := by decide +kernel
theorem d_135_1 : decode (am_b 135) 1 = .ok (.getfield 10, 3) := by decide +kernel
theorem d_135_4 : decode (am_b 135) 4 = .ok (.getfield 206, 3) := by decide +kernel
theorem d_135_7 : decode (am_b 135) 7 = .ok (.ifCond .ne 10, 3) := by decide +kernel
theorem d_135_10 : decode (am_b 135) 10 = .ok (.aload_n 0, 1) := by decide +kernel
theorem d_135_11 : decode (am_b 135) 11 = .ok (.bipush (-3), 2) := by decide +kernel
theorem d_135_13 : decode (am_b 135) 13 = .ok (.invokevirtual 104, 3) := by decide +kernel
theorem d_135_16 : decode (am_b 135) 16 = .ok (.ireturn, 1) := by decide +kernel
theorem d_135_17 : decode (am_b 135) 17 = .ok (.aload_n 0, 1) := by decide +kernel
theorem d_135_18 : decode (am_b 135) 18 = .ok (.getfield 10, 3) := by decide +kernel
theorem d_135_21 : decode (am_b 135) 21 = .ok (.invokevirtual 209, 3) := by decide +kernel
theorem d_135_24 : decode (am_b 135) 24 = .ok (.aload_n 0, 1) := by decide +kernel
theorem d_135_25 : decode (am_b 135) 25 = .ok (.aload_n 0, 1) := by decide +kernel
theorem d_135_26 : decode (am_b 135) 26 = .ok (.getfield 10, 3) := by decide +kernel
theorem d_135_29 : decode (am_b 135) 29 = .ok (.getfield 206, 3) := by decide +kernel
theorem d_135_32 : decode (am_b 135) 32 = .ok (.invokevirtual 212, 3) := by decide +kernel
theorem d_135_35 : decode (am_b 135) 35 = .ok (.ireturn, 1) := by decide +kernel
theorem d_136_0 : decode (am_b 136) 0 = .ok (.aload_n 0, 1) := by decide +kernel
theorem d_136_1 : decode (am_b 136) 1 = .ok (.getfield 10, 3) := by decide +kernel
theorem d_136_4 : decode (am_b 136) 4 = .ok (.getfield 215, 3) := by decide +kernel
theorem d_136_7 : decode (am_b 136) 7 = .ok (.ifCond .ne 10, 3) := by decide +kernel
theorem d_136_10 : decode (am_b 136) 10 = .ok (.aload_n 0, 1) := by decide +kernel
theorem d_136_11 : decode (am_b 136) 11 = .ok (.bipush (-3), 2) := by decide +kernel
theorem d_136_13 : decode (am_b 136) 13 = .ok (.invokevirtual 104, 3) := by decide +kernel
theorem d_136_16 : decode (am_b 136) 16 = .ok (.ireturn, 1) := by decide +kernel
theorem d_136_17 : decode (am_b 136) 17 = .ok (.aload_n 0, 1) := by decide +kernel
theorem d_136_18 : decode (am_b 136) 18 = .ok (.getfield 10, 3) := by decide +kernel
theorem d_136_21 : decode (am_b 136) 21 = .ok (.invokevirtual 218, 3) := by decide +kernel
theorem d_136_24 : decode (am_b 136) 24 = .ok (.aload_n 0, 1) := by decide +kernel
theorem d_136_25 : decode (am_b 136) 25 = .ok (.aload_n 0, 1) := by decide +kernel
theorem d_136_26 : decode (am_b 136) 26 = .ok (.getfield 10, 3) := by decide +kernel
theorem d_136_29 : decode (am_b 136) 29 = .ok (.getfield 215, 3) := by decide +kernel
theorem d_136_32 : decode (am_b 136) 32 = .ok (.invokevirtual 212, 3) := by decide +kernel
theorem d_136_35 : decode (am_b 136) 35 = .ok (.ireturn, 1) := by decide +kernel
theorem d_137_0 : decode (am_b 137) 0 = .ok (.aload_n 0, 1) := by decide +kernel
theorem d_137_1 : decode (am_b 137) 1 = .ok (.iload_n 1, 1) := by decide +kernel
theorem d_137_2 : decode (am_b 137) 2 = .ok (.invokevirtual 137, 3) := by decide +kernel
theorem d_137_5 : decode (am_b 137) 5 = .ok (.ifCond .eq 18, 3) := by decide +kernel
theorem d_137_8 : decode (am_b 137) 8 = .ok (.aload_n 0, 1) := by decide +kernel
theorem d_137_9 : decode (am_b 137) 9 = .ok (.getfield 10, 3) := by decide +kernel
theorem d_137_12 : decode (am_b 137) 12 = .ok (.getfield 140, 3) := by decide +kernel
theorem d_137_15 : decode (am_b 137) 15 = .ok (.iload_n 1, 1) := by decide +kernel
theorem d_137_16 : decode (am_b 137) 16 = .ok (.aaload, 1) := by decide +kernel
theorem d_137_17 : decode (am_b 137) 17 = .ok (.getfield 112, 3) := by decide +kernel
theorem d_137_20 : decode (am_b 137) 20 = .ok (.goto 4, 3) := by decide +kernel
theorem d_137_23 : decode (am_b 137) 23 = .ok (.iconst (-1), 1) := by decide +kernel
theorem d_137_24 : decode (am_b 137) 24 = .ok (.ireturn, 1) := by decide +kernel
theorem d_138_0 : decode (am_b 138) 0 = .ok (.aload_n 0, 1) := by decide +kernel
theorem d_138_1 : decode (am_b 138) 1 = .ok (.iload_n 1, 1) := by decide +kernel
theorem d_138_2 : decode (am_b 138) 2 = .ok (.invokevirtual 137, 3) := by decide +kernel
theorem d_138_5 : decode (am_b 138) 5 = .ok (.ifCond .ne 5, 3) := by decide +kernel
theorem d_138_8 : decode (am_b 138) 8 = .ok (.iconst (-1), 1) := by decide +kernel
theorem d_138_9 : decode (am_b 138) 9 = .ok (.ireturn, 1) := by decide +kernel
theorem d_138_10 : decode (am_b 138) 10 = .ok (.aload_n 0, 1) := by decide +kernel
theorem d_138_11 : decode (am_b 138) 11 = .ok (.getfield 10, 3) := by decide +kernel
theorem d_138_14 : decode (am_b 138) 14 = .ok (.getfield 140, 3) := by decide +kernel
theorem d_138_17 : decode (am_b 138) 17 = .ok (.iload_n 1, 1) := by decide +kernel
theorem d_138_18 : decode (am_b 138) 18 = .ok (.aaload, 1) := by decide +kernel
theorem d_138_19 : decode (am_b 138) 19 = .ok (.astore 5, 2) := by decide +kernel
theorem d_138_21 : decode (am_b 138) 21 = .ok (.aload 5, 2) := by decide +kernel
theorem d_138_23 : decode (am_b 138) 23 = .ok (.iload_n 3, 1) := by decide +kernel
theorem d_138_24 : decode (am_b 138) 24 = .ok (.invokevirtual 148, 3) := by decide +kernel
theorem d_138_27 : decode (am_b 138) 27 = .ok (.ifCond .eq 13, 3) := by decide +kernel
theorem d_138_30 : decode (am_b 138) 30 = .ok (.aload 5, 2) := by decide +kernel
theorem d_138_32 : decode (am_b 138) 32 = .ok (.iload 4, 2) := by decide +kernel
theorem d_138_34 : decode (am_b 138) 34 = .ok (.invokevirtual 148, 3) := by decide +kernel
theorem d_138_37 : decode (am_b 138) 37 = .ok (.ifCond .ne 5, 3) := by decide +kernel
theorem d_138_40 : decode (am_b 138) 40 = .ok (.iconst (-1), 1) := by decide +kernel
theorem d_138_41 : decode (am_b 138) 41 = .ok (.ireturn, 1) := by decide +kernel
theorem d_138_42 : decode (am_b 138) 42 = .ok (.iload_n 2, 1) := by decide +kernel
theorem d_138_43 : decode (am_b 138) 43 = .ok (.tableswitch 52 0 2 #[25, 34, 43], 25) := by decide +kernel
theorem d_138_68 : decode (am_b 138) 68 = .ok (.aload 5, 2) := by decide +kernel
theorem d_138_70 : decode (am_b 138) 70 = .ok (.iload_n 3, 1) := by decide +kernel
theorem d_138_71 : decode (am_b 138) 71 = .ok (.iload 4, 2) := by decide +kernel
theorem d_138_73 : decode (am_b 138) 73 = .ok (.invokevirtual 151, 3) := by decide +kernel
theorem d_138_76 : decode (am_b 138) 76 = .ok (.ireturn, 1) := by decide +kernel
theorem d_138_77 : decode (am_b 138) 77 = .ok (.aload 5, 2) := by decide +kernel
theorem d_138_79 : decode (am_b 138) 79 = .ok (.iload_n 3, 1) := by decide +kernel
theorem d_138_80 : decode (am_b 138) 80 = .ok (.iload 4, 2) := by decide +kernel
theorem d_138_82 : decode (am_b 138) 82 = .ok (.invokevirtual 221, 3) := by decide +kernel
theorem d_138_85 : decode (am_b 138) 85 = .ok (.ireturn, 1) := by decide +kernel
theorem d_138_86 : decode (am_b 138) 86 = .ok (.aload 5, 2) := by decide +kernel
theorem d_138_88 : decode (am_b 138) 88 = .ok (.iload_n 3, 1) := by decide +kernel
theorem d_138_89 : decode (am_b 138) 89 = .ok (.iload 4, 2) := by decide +kernel
theorem d_138_91 : decode (am_b 138) 91 = .ok (.invokevirtual 224, 3) := by decide +kernel
theorem d_138_94 : decode (am_b 138) 94 = .ok (.ireturn, 1) := by decide +kernel
theorem d_138_95 : decode (am_b 138) 95 = .ok (.iconst (-1), 1) := by decide +kernel
theorem d_138_96 : decode (am_b 138) 96 = .ok (.ireturn, 1) := by decide +kernel
theorem d_139_0 : decode (am_b 139) 0 = .ok (.aload_n 0, 1) := by decide +kernel
theorem d_139_1 : decode (am_b 139) 1 = .ok (.iload_n 1, 1) := by decide +kernel
theorem d_139_2 : decode (am_b 139) 2 = .ok (.invokevirtual 137, 3) := by decide +kernel
theorem d_139_5 : decode (am_b 139) 5 = .ok (.ifCond .eq 12, 3) := by decide +kernel
theorem d_139_8 : decode (am_b 139) 8 = .ok (.iload_n 2, 1) := by decide +kernel
theorem d_139_9 : decode (am_b 139) 9 = .ok (.ifCond .lt 8, 3) := by decide +kernel
theorem d_139_12 : decode (am_b 139) 12 = .ok (.iload_n 2, 1) := by decide +kernel
theorem d_139_13 : decode (am_b 139) 13 = .ok (.iconst 2, 1) := by decide +kernel
theorem d_139_14 : decode (am_b 139) 14 = .ok (.if_icmp .le 5, 3) := by decide +kernel
theorem d_139_17 : decode (am_b 139) 17 = .ok (.iconst (-1), 1) := by decide +kernel
theorem d_139_18 : decode (am_b 139) 18 = .ok (.ireturn, 1) := by decide +kernel
theorem d_139_19 : decode (am_b 139) 19 = .ok (.aload_n 0, 1) := by decide +kernel
theorem d_139_20 : decode (am_b 139) 20 = .ok (.getfield 10, 3) := by decide +kernel
theorem d_139_23 : decode (am_b 139) 23 = .ok (.getfield 140, 3) := by decide +kernel
theorem d_139_26 : decode (am_b 139) 26 = .ok (.iload_n 1, 1) := by decide +kernel
theorem d_139_27 : decode (am_b 139) 27 = .ok (.aaload, 1) := by decide +kernel
theorem d_139_28 : decode (am_b 139) 28 = .ok (.iload_n 2, 1) := by decide +kernel
theorem d_139_29 : decode (am_b 139) 29 = .ok (.iconst 2, 1) := by decide +kernel
theorem d_139_30 : decode (am_b 139) 30 = .ok (.if_icmp .eq 7, 3) := by decide +kernel
theorem d_139_33 : decode (am_b 139) 33 = .ok (.iconst 1, 1) := by decide +kernel
theorem d_139_34 : decode (am_b 139) 34 = .ok (.goto 4, 3) := by decide +kernel
theorem d_139_37 : decode (am_b 139) 37 = .ok (.iconst 0, 1) := by decide +kernel
theorem d_139_38 : decode (am_b 139) 38 = .ok (.iload_n 2, 1) := by decide +kernel
theorem d_139_39 : decode (am_b 139) 39 = .ok (.iconst 1, 1) := by decide +kernel
theorem d_139_40 : decode (am_b 139) 40 = .ok (.if_icmp .eq 7, 3) := by decide +kernel
theorem d_139_43 : decode (am_b 139) 43 = .ok (.iconst 1, 1) := by decide +kernel
theorem d_139_44 : decode (am_b 139) 44 = .ok (.goto 4, 3) := by decide +kernel
theorem d_139_47 : decode (am_b 139) 47 = .ok (.iconst 0, 1) := by decide +kernel
theorem d_139_48 : decode (am_b 139) 48 = .ok (.invokevirtual 227, 3) := by decide +kernel
theorem d_139_51 : decode (am_b 139) 51 = .ok (.ireturn, 1) := by decide +kernel
theorem d_140_0 : decode (am_b 140) 0 = .ok (.aload_n 0, 1) := by decide +kernel
theorem d_140_1 : decode (am_b 140) 1 = .ok (.getfield 93, 3) := by decide +kernel
theorem d_140_4 : decode (am_b 140) 4 = .ok (.istore_n 1, 1) := by decide +kernel
theorem d_140_5 : decode (am_b 140) 5 = .ok (.aload_n 0, 1) := by decide +kernel
theorem d_140_6 : decode (am_b 140) 6 = .ok (.iconst 0, 1) := by decide +kernel
theorem d_140_7 : decode (am_b 140) 7 = .ok (.putfield 93, 3) := by decide +kernel
theorem d_140_10 : decode (am_b 140) 10 = .ok (.aload_n 0, 1) := by decide +kernel
theorem d_140_11 : decode (am_b 140) 11 = .ok (.getfield 10, 3) := by decide +kernel
theorem d_140_14 : decode (am_b 140) 14 = .ok (.getfield 231, 3) := by decide +kernel
theorem d_140_17 : decode (am_b 140) 17 = .ok (.bipush 8, 2) := by decide +kernel
theorem d_140_19 : decode (am_b 140) 19 = .ok (.if_icmp .lt 10, 3) := by decide +kernel
theorem d_140_22 : decode (am_b 140) 22 = .ok (.aload_n 0, 1) := by decide +kernel
theorem d_140_23 : decode (am_b 140) 23 = .ok (.bipush (-5), 2) := by decide +kernel
theorem d_140_25 : decode (am_b 140) 25 = .ok (.invokevirtual 104, 3) := by decide +kernel
theorem d_140_28 : decode (am_b 140) 28 = .ok (.ireturn, 1) := by decide +kernel
theorem d_140_29 : decode (am_b 140) 29 = .ok (.aload_n 0, 1) := by decide +kernel
theorem d_140_30 : decode (am_b 140) 30 = .ok (.getfield 27, 3) := by decide +kernel
theorem d_140_33 : decode (am_b 140) 33 = .ok (.aload_n 0, 1) := by decide +kernel
theorem d_140_34 : decode (am_b 140) 34 = .ok (.getfield 20, 3) := by decide +kernel
theorem d_140_37 : decode (am_b 140) 37 = .ok (.iload_n 1, 1) := by decide +kernel
theorem d_140_38 : decode (am_b 140) 38 = .ok (.invokevirtual 234, 3) := by decide +kernel
theorem d_140_41 : decode (am_b 140) 41 = .ok (.astore_n 2, 1) := by decide +kernel
theorem d_140_42 : decode (am_b 140) 42 = .ok (.aload_n 2, 1) := by decide +kernel
theorem d_140_43 : decode (am_b 140) 43 = .ok (.ifnonnull 21, 3) := by decide +kernel
theorem d_140_46 : decode (am_b 140) 46 = .ok (.aload_n 0, 1) := by decide +kernel
theorem d_140_47 : decode (am_b 140) 47 = .ok (.aload_n 0, 1) := by decide +kernel
theorem d_140_48 : decode (am_b 140) 48 = .ok (.getfield 27, 3) := by decide +kernel
theorem d_140_51 : decode (am_b 140) 51 = .ok (.invokevirtual 238, 3) := by decide +kernel
theorem d_140_54 : decode (am_b 140) 54 = .ok (.putfield 31, 3) := by decide +kernel
theorem d_140_57 : decode (am_b 140) 57 = .ok (.aload_n 0, 1) := by decide +kernel
theorem d_140_58 : decode (am_b 140) 58 = .ok (.bipush (-6), 2) := by decide +kernel
theorem d_140_60 : decode (am_b 140) 60 = .ok (.invokevirtual 104, 3) := by decide +kernel
theorem d_140_63 : decode (am_b 140) 63 = .ok (.ireturn, 1) := by decide +kernel
theorem d_140_64 : decode (am_b 140) 64 = .ok (.aload_n 0, 1) := by decide +kernel
theorem d_140_65 : decode (am_b 140) 65 = .ok (.iconst (-1), 1) := by decide +kernel
theorem d_140_66 : decode (am_b 140) 66 = .ok (.putfield 31, 3) := by decide +kernel
theorem d_140_69 : decode (am_b 140) 69 = .ok (.aload_n 0, 1) := by decide +kernel
theorem d_140_70 : decode (am_b 140) 70 = .ok (.getfield 10, 3) := by decide +kernel
theorem d_140_73 : decode (am_b 140) 73 = .ok (.getfield 241, 3) := by decide +kernel
theorem d_140_76 : decode (am_b 140) 76 = .ok (.aload_n 0, 1) := by decide +kernel
theorem d_140_77 : decode (am_b 140) 77 = .ok (.getfield 10, 3) := by decide +kernel
theorem d_140_80 : decode (am_b 140) 80 = .ok (.getfield 231, 3) := by decide +kernel
theorem d_140_83 : decode (am_b 140) 83 = .ok (.aload_n 2, 1) := by decide +kernel
theorem d_140_84 : decode (am_b 140) 84 = .ok (.aastore, 1) := by decide +kernel
theorem d_140_85 : decode (am_b 140) 85 = .ok (.aload_n 0, 1) := by decide +kernel
theorem d_140_86 : decode (am_b 140) 86 = .ok (.getfield 10, 3) := by decide +kernel
theorem d_140_89 : decode (am_b 140) 89 = .ok (.dup, 1) := by decide +kernel
theorem d_140_90 : decode (am_b 140) 90 = .ok (.getfield 231, 3) := by decide +kernel
theorem d_140_93 : decode (am_b 140) 93 = .ok (.iconst 1, 1) := by decide +kernel
theorem d_140_94 : decode (am_b 140) 94 = .ok (.iadd, 1) := by decide +kernel
theorem d_140_95 : decode (am_b 140) 95 = .ok (.putfield 231, 3) := by decide +kernel
theorem d_140_98 : decode (am_b 140) 98 = .ok (.aload_n 0, 1) := by decide +kernel
theorem d_140_99 : decode (am_b 140) 99 = .ok (.aload_n 0, 1) := by decide +kernel
theorem d_140_100 : decode (am_b 140) 100 = .ok (.getfield 10, 3) := by decide +kernel
theorem d_140_103 : decode (am_b 140) 103 = .ok (.getfield 231, 3) := by decide +kernel
theorem d_140_106 : decode (am_b 140) 106 = .ok (.iconst 1, 1) := by decide +kernel
theorem d_140_107 : decode (am_b 140) 107 = .ok (.isub, 1) := by decide +kernel
theorem d_140_108 : decode (am_b 140) 108 = .ok (.invokevirtual 212, 3) := by decide +kernel
theorem d_140_111 : decode (am_b 140) 111 = .ok (.ireturn, 1) := by decide +kernel
theorem d_141_0 : decode (am_b 141) 0 = .ok (.aload_n 0, 1) := by decide +kernel
theorem d_141_1 : decode (am_b 141) 1 = .ok (.getfield 31, 3) := by decide +kernel
theorem d_141_4 : decode (am_b 141) 4 = .ok (.ireturn, 1) := by decide +kernel
theorem d_142_0 : decode (am_b 142) 0 = .ok (.aload_n 0, 1) := by decide +kernel
theorem d_142_1 : decode (am_b 142) 1 = .ok (.iload_n 1, 1) := by decide +kernel
theorem d_142_2 : decode (am_b 142) 2 = .ok (.invokevirtual 137, 3) := by decide +kernel
theorem d_142_5 : decode (am_b 142) 5 = .ok (.ifCond .eq 11, 3) := by decide +kernel
theorem d_142_8 : decode (am_b 142) 8 = .ok (.aload_n 0, 1) := by decide +kernel
theorem d_142_9 : decode (am_b 142) 9 = .ok (.iload_n 2, 1) := by decide +kernel
theorem d_142_10 : decode (am_b 142) 10 = .ok (.invokevirtual 245, 3) := by decide +kernel
theorem d_142_13 : decode (am_b 142) 13 = .ok (.ifCond .ne 5, 3) := by decide +kernel
theorem d_142_16 : decode (am_b 142) 16 = .ok (.iconst (-1), 1) := by decide +kernel
theorem d_142_17 : decode (am_b 142) 17 = .ok (.ireturn, 1) := by decide +kernel
theorem d_142_18 : decode (am_b 142) 18 = .ok (.aload_n 0, 1) := by decide +kernel
theorem d_142_19 : decode (am_b 142) 19 = .ok (.getfield 48, 3) := by decide +kernel
theorem d_142_22 : decode (am_b 142) 22 = .ok (.aload_n 0, 1) := by decide +kernel
theorem d_142_23 : decode (am_b 142) 23 = .ok (.getfield 10, 3) := by decide +kernel
theorem d_142_26 : decode (am_b 142) 26 = .ok (.getfield 140, 3) := by decide +kernel
theorem d_142_29 : decode (am_b 142) 29 = .ok (.iload_n 1, 1) := by decide +kernel
theorem d_142_30 : decode (am_b 142) 30 = .ok (.aaload, 1) := by decide +kernel
theorem d_142_31 : decode (am_b 142) 31 = .ok (.aload_n 0, 1) := by decide +kernel
theorem d_142_32 : decode (am_b 142) 32 = .ok (.getfield 10, 3) := by decide +kernel
theorem d_142_35 : decode (am_b 142) 35 = .ok (.getfield 140, 3) := by decide +kernel
theorem d_142_38 : decode (am_b 142) 38 = .ok (.iload_n 1, 1) := by decide +kernel
theorem d_142_39 : decode (am_b 142) 39 = .ok (.aaload, 1) := by decide +kernel
theorem d_142_40 : decode (am_b 142) 40 = .ok (.invokevirtual 193, 3) := by decide +kernel
theorem d_142_43 : decode (am_b 142) 43 = .ok (.invokevirtual 248, 3) := by decide +kernel
theorem d_142_46 : decode (am_b 142) 46 = .ok (.aload_n 0, 1) := by decide +kernel
theorem d_142_47 : decode (am_b 142) 47 = .ok (.getfield 48, 3) := by decide +kernel
theorem d_142_50 : decode (am_b 142) 50 = .ok (.aload_n 0, 1) := by decide +kernel
theorem d_142_51 : decode (am_b 142) 51 = .ok (.getfield 10, 3) := by decide +kernel
theorem d_142_54 : decode (am_b 142) 54 = .ok (.getfield 241, 3) := by decide +kernel
theorem d_142_57 : decode (am_b 142) 57 = .ok (.iload_n 2, 1) := by decide +kernel
theorem d_142_58 : decode (am_b 142) 58 = .ok (.aaload, 1) := by decide +kernel
theorem d_142_59 : decode (am_b 142) 59 = .ok (.iconst 1, 1) := by decide +kernel
theorem d_142_60 : decode (am_b 142) 60 = .ok (.invokevirtual 251, 3) := by decide +kernel
theorem d_142_63 : decode (am_b 142) 63 = .ok (.ifCond .ne 7, 3) := by decide +kernel
theorem d_142_66 : decode (am_b 142) 66 = .ok (.iconst 1, 1) := by decide +kernel
theorem d_142_67 : decode (am_b 142) 67 = .ok (.goto 4, 3) := by decide +kernel
theorem d_142_70 : decode (am_b 142) 70 = .ok (.iconst 0, 1) := by decide +kernel
theorem d_142_71 : decode (am_b 142) 71 = .ok (.ireturn, 1) := by decide +kernel
theorem d_143_0 : decode (am_b 143) 0 = .ok (.iload_n 1, 1) := by decide +kernel
theorem d_143_1 : decode (am_b 143) 1 = .ok (.ifCond .lt 18, 3) := by decide +kernel
theorem d_143_4 : decode (am_b 143) 4 = .ok (.iload_n 1, 1) := by decide +kernel
theorem d_143_5 : decode (am_b 143) 5 = .ok (.aload_n 0, 1) := by decide +kernel
theorem d_143_6 : decode (am_b 143) 6 = .ok (.getfield 10, 3) := by decide +kernel
theorem d_143_9 : decode (am_b 143) 9 = .ok (.getfield 231, 3) := by decide +kernel
theorem d_143_12 : decode (am_b 143) 12 = .ok (.if_icmp .ge 7, 3) := by decide +kernel
theorem d_143_15 : decode (am_b 143) 15 = .ok (.iconst 1, 1) := by decide +kernel
theorem d_143_16 : decode (am_b 143) 16 = .ok (.goto 4, 3) := by decide +kernel
theorem d_143_19 : decode (am_b 143) 19 = .ok (.iconst 0, 1) := by decide +kernel
theorem d_143_20 : decode (am_b 143) 20 = .ok (.ireturn, 1) := by decide +kernel
theorem d_144_0 : decode (am_b 144) 0 = .ok (.aload_n 0, 1) := by decide +kernel
theorem d_144_1 : decode (am_b 144) 1 = .ok (.iload_n 1, 1) := by decide +kernel
theorem d_144_2 : decode (am_b 144) 2 = .ok (.invokevirtual 137, 3) := by decide +kernel
theorem d_144_5 : decode (am_b 144) 5 = .ok (.ifCond .eq 20, 3) := by decide +kernel
theorem d_144_8 : decode (am_b 144) 8 = .ok (.aload_n 0, 1) := by decide +kernel
theorem d_144_9 : decode (am_b 144) 9 = .ok (.iload_n 2, 1) := by decide +kernel
theorem d_144_10 : decode (am_b 144) 10 = .ok (.invokevirtual 245, 3) := by decide +kernel
theorem d_144_13 : decode (am_b 144) 13 = .ok (.ifCond .eq 12, 3) := by decide +kernel
theorem d_144_16 : decode (am_b 144) 16 = .ok (.iload_n 3, 1) := by decide +kernel
theorem d_144_17 : decode (am_b 144) 17 = .ok (.ifCond .lt 8, 3) := by decide +kernel
theorem d_144_20 : decode (am_b 144) 20 = .ok (.iload_n 3, 1) := by decide +kernel
theorem d_144_21 : decode (am_b 144) 21 = .ok (.iconst 3, 1) := by decide +kernel
theorem d_144_22 : decode (am_b 144) 22 = .ok (.if_icmp .le 5, 3) := by decide +kernel
theorem d_144_25 : decode (am_b 144) 25 = .ok (.iconst (-1), 1) := by decide +kernel
theorem d_144_26 : decode (am_b 144) 26 = .ok (.ireturn, 1) := by decide +kernel
theorem d_144_27 : decode (am_b 144) 27 = .ok (.aload_n 0, 1) := by decide +kernel
theorem d_144_28 : decode (am_b 144) 28 = .ok (.getfield 48, 3) := by decide +kernel
theorem d_144_31 : decode (am_b 144) 31 = .ok (.aload_n 0, 1) := by decide +kernel
theorem d_144_32 : decode (am_b 144) 32 = .ok (.getfield 10, 3) := by decide +kernel
theorem d_144_35 : decode (am_b 144) 35 = .ok (.getfield 140, 3) := by decide +kernel
theorem d_144_38 : decode (am_b 144) 38 = .ok (.iload_n 1, 1) := by decide +kernel
theorem d_144_39 : decode (am_b 144) 39 = .ok (.aaload, 1) := by decide +kernel
theorem d_144_40 : decode (am_b 144) 40 = .ok (.aload_n 0, 1) := by decide +kernel
theorem d_144_41 : decode (am_b 144) 41 = .ok (.getfield 10, 3) := by decide +kernel
theorem d_144_44 : decode (am_b 144) 44 = .ok (.getfield 140, 3) := by decide +kernel
theorem d_144_47 : decode (am_b 144) 47 = .ok (.iload_n 1, 1) := by decide +kernel
theorem d_144_48 : decode (am_b 144) 48 = .ok (.aaload, 1) := by decide +kernel
theorem d_144_49 : decode (am_b 144) 49 = .ok (.invokevirtual 193, 3) := by decide +kernel
theorem d_144_52 : decode (am_b 144) 52 = .ok (.invokevirtual 248, 3) := by decide +kernel
theorem d_144_55 : decode (am_b 144) 55 = .ok (.iload_n 3, 1) := by decide +kernel
theorem d_144_56 : decode (am_b 144) 56 = .ok (.ifCond .ne 23, 3) := by decide +kernel
theorem d_144_59 : decode (am_b 144) 59 = .ok (.aload_n 0, 1) := by decide +kernel
theorem d_144_60 : decode (am_b 144) 60 = .ok (.getfield 48, 3) := by decide +kernel
theorem d_144_63 : decode (am_b 144) 63 = .ok (.aload_n 0, 1) := by decide +kernel
theorem d_144_64 : decode (am_b 144) 64 = .ok (.getfield 10, 3) := by decide +kernel
theorem d_144_67 : decode (am_b 144) 67 = .ok (.getfield 241, 3) := by decide +kernel
theorem d_144_70 : decode (am_b 144) 70 = .ok (.iload_n 2, 1) := by decide +kernel
theorem d_144_71 : decode (am_b 144) 71 = .ok (.aaload, 1) := by decide +kernel
theorem d_144_72 : decode (am_b 144) 72 = .ok (.sipush 216, 3) := by decide +kernel
theorem d_144_75 : decode (am_b 144) 75 = .ok (.invokevirtual 251, 3) := by decide +kernel
theorem d_144_78 : decode (am_b 144) 78 = .ok (.ireturn, 1) := by decide +kernel
theorem d_144_79 : decode (am_b 144) 79 = .ok (.aload_n 0, 1) := by decide +kernel
theorem d_144_80 : decode (am_b 144) 80 = .ok (.getfield 48, 3) := by decide +kernel
theorem d_144_83 : decode (am_b 144) 83 = .ok (.aload_n 0, 1) := by decide +kernel
theorem d_144_84 : decode (am_b 144) 84 = .ok (.getfield 10, 3) := by decide +kernel
theorem d_144_87 : decode (am_b 144) 87 = .ok (.getfield 241, 3) := by decide +kernel
theorem d_144_90 : decode (am_b 144) 90 = .ok (.iload_n 2, 1) := by decide +kernel
theorem d_144_91 : decode (am_b 144) 91 = .ok (.aaload, 1) := by decide +kernel
theorem d_144_92 : decode (am_b 144) 92 = .ok (.iconst 1, 1) := by decide +kernel
theorem d_144_93 : decode (am_b 144) 93 = .ok (.invokevirtual 251, 3) := by decide +kernel
theorem d_144_96 : decode (am_b 144) 96 = .ok (.istore 4, 2) := by decide +kernel
theorem d_144_98 : decode (am_b 144) 98 = .ok (.iload 4, 2) := by decide +kernel
theorem d_144_100 : decode (am_b 144) 100 = .ok (.ifCond .ne 7, 3) := by decide +kernel
theorem d_144_103 : decode (am_b 144) 103 = .ok (.iconst (-1), 1) := by decide +kernel
theorem d_144_104 : decode (am_b 144) 104 = .ok (.goto 13, 3) := by decide +kernel
theorem d_144_107 : decode (am_b 144) 107 = .ok (.aload_n 0, 1) := by decide +kernel
theorem d_144_108 : decode (am_b 144) 108 = .ok (.getfield 48, 3) := by decide +kernel
theorem d_144_111 : decode (am_b 144) 111 = .ok (.iload_n 3, 1) := by decide +kernel
theorem d_144_112 : decode (am_b 144) 112 = .ok (.iconst 1, 1) := by decide +kernel
theorem d_144_113 : decode (am_b 144) 113 = .ok (.isub, 1) := by decide +kernel
theorem d_144_114 : decode (am_b 144) 114 = .ok (.invokevirtual 255, 3) := by decide +kernel
theorem d_144_117 : decode (am_b 144) 117 = .ok (.ireturn, 1) := by decide +kernel
