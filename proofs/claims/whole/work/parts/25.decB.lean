/-! decode rows, printed by wip/whole/gen_decparts.py -/
theorem d_43_0 : decode (am_b 43) 0 = .ok (.aload_n 1, 1) := by decide +kernel
theorem d_43_1 : decode (am_b 43) 1 = .ok (.getfield 38, 3) := by decide +kernel
theorem d_43_4 : decode (am_b 43) 4 = .ok (.istore_n 2, 1) := by decide +kernel
theorem d_43_5 : decode (am_b 43) 5 = .ok (.iconst 0, 1) := by decide +kernel
theorem d_43_6 : decode (am_b 43) 6 = .ok (.istore_n 3, 1) := by decide +kernel
theorem d_43_7 : decode (am_b 43) 7 = .ok (.iload_n 3, 1) := by decide +kernel
theorem d_43_8 : decode (am_b 43) 8 = .ok (.iload_n 2, 1) := by decide +kernel
theorem d_43_9 : decode (am_b 43) 9 = .ok (.if_icmp .ge 21, 3) := by decide +kernel
theorem d_43_12 : decode (am_b 43) 12 = .ok (.aload_n 0, 1) := by decide +kernel
theorem d_43_13 : decode (am_b 43) 13 = .ok (.getfield 35, 3) := by decide +kernel
theorem d_43_16 : decode (am_b 43) 16 = .ok (.aload_n 0, 1) := by decide +kernel
theorem d_43_17 : decode (am_b 43) 17 = .ok (.getfield 31, 3) := by decide +kernel
theorem d_43_20 : decode (am_b 43) 20 = .ok (.iload_n 3, 1) := by decide +kernel
theorem d_43_21 : decode (am_b 43) 21 = .ok (.iaload, 1) := by decide +kernel
theorem d_43_22 : decode (am_b 43) 22 = .ok (.iload_n 3, 1) := by decide +kernel
theorem d_43_23 : decode (am_b 43) 23 = .ok (.iastore, 1) := by decide +kernel
theorem d_43_24 : decode (am_b 43) 24 = .ok (.iinc 3 1, 3) := by decide +kernel
theorem d_43_27 : decode (am_b 43) 27 = .ok (.goto (-20), 3) := by decide +kernel
theorem d_43_30 : decode (am_b 43) 30 = .ok (.aload_n 0, 1) := by decide +kernel
theorem d_43_31 : decode (am_b 43) 31 = .ok (.getfield 22, 3) := by decide +kernel
theorem d_43_34 : decode (am_b 43) 34 = .ok (.getfield 38, 3) := by decide +kernel
theorem d_43_37 : decode (am_b 43) 37 = .ok (.ifCond .ne 7, 3) := by decide +kernel
theorem d_43_40 : decode (am_b 43) 40 = .ok (.iconst 1, 1) := by decide +kernel
theorem d_43_41 : decode (am_b 43) 41 = .ok (.goto 4, 3) := by decide +kernel
theorem d_43_44 : decode (am_b 43) 44 = .ok (.iconst 0, 1) := by decide +kernel
theorem d_43_45 : decode (am_b 43) 45 = .ok (.istore_n 3, 1) := by decide +kernel
theorem d_43_46 : decode (am_b 43) 46 = .ok (.aload_n 0, 1) := by decide +kernel
theorem d_43_47 : decode (am_b 43) 47 = .ok (.getfield 22, 3) := by decide +kernel
theorem d_43_50 : decode (am_b 43) 50 = .ok (.iload_n 2, 1) := by decide +kernel
theorem d_43_51 : decode (am_b 43) 51 = .ok (.putfield 38, 3) := by decide +kernel
theorem d_43_54 : decode (am_b 43) 54 = .ok (.iconst 0, 1) := by decide +kernel
theorem d_43_55 : decode (am_b 43) 55 = .ok (.istore 4, 2) := by decide +kernel
theorem d_43_57 : decode (am_b 43) 57 = .ok (.iload 4, 2) := by decide +kernel
theorem d_43_59 : decode (am_b 43) 59 = .ok (.iload_n 2, 1) := by decide +kernel
theorem d_43_60 : decode (am_b 43) 60 = .ok (.if_icmp .ge 105, 3) := by decide +kernel
theorem d_43_63 : decode (am_b 43) 63 = .ok (.iconst 0, 1) := by decide +kernel
theorem d_43_64 : decode (am_b 43) 64 = .ok (.istore 5, 2) := by decide +kernel
theorem d_43_66 : decode (am_b 43) 66 = .ok (.iload 5, 2) := by decide +kernel
theorem d_43_68 : decode (am_b 43) 68 = .ok (.iload_n 2, 1) := by decide +kernel
theorem d_43_69 : decode (am_b 43) 69 = .ok (.if_icmp .ge 90, 3) := by decide +kernel
theorem d_43_72 : decode (am_b 43) 72 = .ok (.aload_n 0, 1) := by decide +kernel
theorem d_43_73 : decode (am_b 43) 73 = .ok (.getfield 35, 3) := by decide +kernel
theorem d_43_76 : decode (am_b 43) 76 = .ok (.aload_n 1, 1) := by decide +kernel
theorem d_43_77 : decode (am_b 43) 77 = .ok (.aload_n 0, 1) := by decide +kernel
theorem d_43_78 : decode (am_b 43) 78 = .ok (.getfield 31, 3) := by decide +kernel
theorem d_43_81 : decode (am_b 43) 81 = .ok (.iload 4, 2) := by decide +kernel
theorem d_43_83 : decode (am_b 43) 83 = .ok (.iaload, 1) := by decide +kernel
theorem d_43_84 : decode (am_b 43) 84 = .ok (.aload_n 0, 1) := by decide +kernel
theorem d_43_85 : decode (am_b 43) 85 = .ok (.getfield 31, 3) := by decide +kernel
theorem d_43_88 : decode (am_b 43) 88 = .ok (.iload 5, 2) := by decide +kernel
theorem d_43_90 : decode (am_b 43) 90 = .ok (.iaload, 1) := by decide +kernel
theorem d_43_91 : decode (am_b 43) 91 = .ok (.invokevirtual 70, 3) := by decide +kernel
theorem d_43_94 : decode (am_b 43) 94 = .ok (.iaload, 1) := by decide +kernel
theorem d_43_95 : decode (am_b 43) 95 = .ok (.istore 6, 2) := by decide +kernel
theorem d_43_97 : decode (am_b 43) 97 = .ok (.iload_n 3, 1) := by decide +kernel
theorem d_43_98 : decode (am_b 43) 98 = .ok (.ifCond .ne 20, 3) := by decide +kernel
theorem d_43_101 : decode (am_b 43) 101 = .ok (.iload 6, 2) := by decide +kernel
theorem d_43_103 : decode (am_b 43) 103 = .ok (.aload_n 0, 1) := by decide +kernel
theorem d_43_104 : decode (am_b 43) 104 = .ok (.getfield 22, 3) := by decide +kernel
theorem d_43_107 : decode (am_b 43) 107 = .ok (.iload 4, 2) := by decide +kernel
theorem d_43_109 : decode (am_b 43) 109 = .ok (.iload 5, 2) := by decide +kernel
theorem d_43_111 : decode (am_b 43) 111 = .ok (.invokevirtual 70, 3) := by decide +kernel
theorem d_43_114 : decode (am_b 43) 114 = .ok (.if_icmp .le 4, 3) := by decide +kernel
theorem d_43_117 : decode (am_b 43) 117 = .ok (.return_, 1) := by decide +kernel
theorem d_43_118 : decode (am_b 43) 118 = .ok (.iload_n 3, 1) := by decide +kernel
theorem d_43_119 : decode (am_b 43) 119 = .ok (.ifCond .ne 19, 3) := by decide +kernel
theorem d_43_122 : decode (am_b 43) 122 = .ok (.iload 6, 2) := by decide +kernel
theorem d_43_124 : decode (am_b 43) 124 = .ok (.aload_n 0, 1) := by decide +kernel
theorem d_43_125 : decode (am_b 43) 125 = .ok (.getfield 22, 3) := by decide +kernel
theorem d_43_128 : decode (am_b 43) 128 = .ok (.iload 4, 2) := by decide +kernel
theorem d_43_130 : decode (am_b 43) 130 = .ok (.iload 5, 2) := by decide +kernel
theorem d_43_132 : decode (am_b 43) 132 = .ok (.invokevirtual 70, 3) := by decide +kernel
theorem d_43_135 : decode (am_b 43) 135 = .ok (.if_icmp .ge 18, 3) := by decide +kernel
theorem d_43_138 : decode (am_b 43) 138 = .ok (.iconst 1, 1) := by decide +kernel
theorem d_43_139 : decode (am_b 43) 139 = .ok (.istore_n 3, 1) := by decide +kernel
theorem d_43_140 : decode (am_b 43) 140 = .ok (.aload_n 0, 1) := by decide +kernel
theorem d_43_141 : decode (am_b 43) 141 = .ok (.getfield 22, 3) := by decide +kernel
theorem d_43_144 : decode (am_b 43) 144 = .ok (.iload 4, 2) := by decide +kernel
theorem d_43_146 : decode (am_b 43) 146 = .ok (.iload 5, 2) := by decide +kernel
theorem d_43_148 : decode (am_b 43) 148 = .ok (.iload 6, 2) := by decide +kernel
theorem d_43_150 : decode (am_b 43) 150 = .ok (.invokevirtual 88, 3) := by decide +kernel
theorem d_43_153 : decode (am_b 43) 153 = .ok (.iinc 5 1, 3) := by decide +kernel
theorem d_43_156 : decode (am_b 43) 156 = .ok (.goto (-90), 3) := by decide +kernel
theorem d_43_159 : decode (am_b 43) 159 = .ok (.iinc 4 1, 3) := by decide +kernel
theorem d_43_162 : decode (am_b 43) 162 = .ok (.goto (-105), 3) := by decide +kernel
theorem d_43_165 : decode (am_b 43) 165 = .ok (.return_, 1) := by decide +kernel
theorem d_44_0 : decode (am_b 44) 0 = .ok (.aload_n 0, 1) := by decide +kernel
theorem d_44_1 : decode (am_b 44) 1 = .ok (.getfield 25, 3) := by decide +kernel
theorem d_44_4 : decode (am_b 44) 4 = .ok (.getfield 38, 3) := by decide +kernel
theorem d_44_7 : decode (am_b 44) 7 = .ok (.istore_n 1, 1) := by decide +kernel
theorem d_44_8 : decode (am_b 44) 8 = .ok (.iconst 0, 1) := by decide +kernel
theorem d_44_9 : decode (am_b 44) 9 = .ok (.istore_n 2, 1) := by decide +kernel
theorem d_44_10 : decode (am_b 44) 10 = .ok (.iload_n 2, 1) := by decide +kernel
theorem d_44_11 : decode (am_b 44) 11 = .ok (.iload_n 1, 1) := by decide +kernel
theorem d_44_12 : decode (am_b 44) 12 = .ok (.if_icmp .ge 57, 3) := by decide +kernel
theorem d_44_15 : decode (am_b 44) 15 = .ok (.iconst 0, 1) := by decide +kernel
theorem d_44_16 : decode (am_b 44) 16 = .ok (.istore_n 3, 1) := by decide +kernel
theorem d_44_17 : decode (am_b 44) 17 = .ok (.iload_n 3, 1) := by decide +kernel
theorem d_44_18 : decode (am_b 44) 18 = .ok (.iload_n 1, 1) := by decide +kernel
theorem d_44_19 : decode (am_b 44) 19 = .ok (.if_icmp .ge 44, 3) := by decide +kernel
theorem d_44_22 : decode (am_b 44) 22 = .ok (.aload_n 0, 1) := by decide +kernel
theorem d_44_23 : decode (am_b 44) 23 = .ok (.getfield 28, 3) := by decide +kernel
theorem d_44_26 : decode (am_b 44) 26 = .ok (.aload_n 0, 1) := by decide +kernel
theorem d_44_27 : decode (am_b 44) 27 = .ok (.getfield 25, 3) := by decide +kernel
theorem d_44_30 : decode (am_b 44) 30 = .ok (.iload_n 2, 1) := by decide +kernel
theorem d_44_31 : decode (am_b 44) 31 = .ok (.iload_n 3, 1) := by decide +kernel
theorem d_44_32 : decode (am_b 44) 32 = .ok (.invokevirtual 66, 3) := by decide +kernel
theorem d_44_35 : decode (am_b 44) 35 = .ok (.aload_n 0, 1) := by decide +kernel
theorem d_44_36 : decode (am_b 44) 36 = .ok (.aload_n 0, 1) := by decide +kernel
theorem d_44_37 : decode (am_b 44) 37 = .ok (.getfield 25, 3) := by decide +kernel
theorem d_44_40 : decode (am_b 44) 40 = .ok (.iload_n 2, 1) := by decide +kernel
theorem d_44_41 : decode (am_b 44) 41 = .ok (.iload_n 3, 1) := by decide +kernel
theorem d_44_42 : decode (am_b 44) 42 = .ok (.invokevirtual 70, 3) := by decide +kernel
theorem d_44_45 : decode (am_b 44) 45 = .ok (.invokevirtual 74, 3) := by decide +kernel
theorem d_44_48 : decode (am_b 44) 48 = .ok (.aload_n 0, 1) := by decide +kernel
theorem d_44_49 : decode (am_b 44) 49 = .ok (.aload_n 0, 1) := by decide +kernel
theorem d_44_50 : decode (am_b 44) 50 = .ok (.getfield 28, 3) := by decide +kernel
theorem d_44_53 : decode (am_b 44) 53 = .ok (.iconst 1, 1) := by decide +kernel
theorem d_44_54 : decode (am_b 44) 54 = .ok (.invokevirtual 56, 3) := by decide +kernel
theorem d_44_57 : decode (am_b 44) 57 = .ok (.iinc 3 1, 3) := by decide +kernel
theorem d_44_60 : decode (am_b 44) 60 = .ok (.goto (-43), 3) := by decide +kernel
theorem d_44_63 : decode (am_b 44) 63 = .ok (.iinc 2 1, 3) := by decide +kernel
theorem d_44_66 : decode (am_b 44) 66 = .ok (.goto (-56), 3) := by decide +kernel
theorem d_44_69 : decode (am_b 44) 69 = .ok (.return_, 1) := by decide +kernel
theorem d_45_0 : decode (am_b 45) 0 = .ok (.aload_n 0, 1) := by decide +kernel
theorem d_45_1 : decode (am_b 45) 1 = .ok (.getfield 31, 3) := by decide +kernel
theorem d_45_4 : decode (am_b 45) 4 = .ok (.iconst 0, 1) := by decide +kernel
theorem d_45_5 : decode (am_b 45) 5 = .ok (.iload_n 1, 1) := by decide +kernel
theorem d_45_6 : decode (am_b 45) 6 = .ok (.iastore, 1) := by decide +kernel
theorem d_45_7 : decode (am_b 45) 7 = .ok (.iconst 1, 1) := by decide +kernel
theorem d_45_8 : decode (am_b 45) 8 = .ok (.istore_n 2, 1) := by decide +kernel
theorem d_45_9 : decode (am_b 45) 9 = .ok (.iload_n 2, 1) := by decide +kernel
theorem d_45_10 : decode (am_b 45) 10 = .ok (.bipush 6, 2) := by decide +kernel
theorem d_45_12 : decode (am_b 45) 12 = .ok (.if_icmp .ge 27, 3) := by decide +kernel
theorem d_45_15 : decode (am_b 45) 15 = .ok (.aload_n 0, 1) := by decide +kernel
theorem d_45_16 : decode (am_b 45) 16 = .ok (.getfield 31, 3) := by decide +kernel
theorem d_45_19 : decode (am_b 45) 19 = .ok (.iload_n 2, 1) := by decide +kernel
theorem d_45_20 : decode (am_b 45) 20 = .ok (.iload_n 2, 1) := by decide +kernel
theorem d_45_21 : decode (am_b 45) 21 = .ok (.iload_n 1, 1) := by decide +kernel
theorem d_45_22 : decode (am_b 45) 22 = .ok (.if_icmp .gt 9, 3) := by decide +kernel
theorem d_45_25 : decode (am_b 45) 25 = .ok (.iload_n 2, 1) := by decide +kernel
theorem d_45_26 : decode (am_b 45) 26 = .ok (.iconst 1, 1) := by decide +kernel
theorem d_45_27 : decode (am_b 45) 27 = .ok (.isub, 1) := by decide +kernel
theorem d_45_28 : decode (am_b 45) 28 = .ok (.goto 4, 3) := by decide +kernel
theorem d_45_31 : decode (am_b 45) 31 = .ok (.iload_n 2, 1) := by decide +kernel
theorem d_45_32 : decode (am_b 45) 32 = .ok (.iastore, 1) := by decide +kernel
theorem d_45_33 : decode (am_b 45) 33 = .ok (.iinc 2 1, 3) := by decide +kernel
theorem d_45_36 : decode (am_b 45) 36 = .ok (.goto (-27), 3) := by decide +kernel
theorem d_45_39 : decode (am_b 45) 39 = .ok (.return_, 1) := by decide +kernel
theorem d_46_0 : decode (am_b 46) 0 = .ok (.aload_n 0, 1) := by decide +kernel
theorem d_46_1 : decode (am_b 46) 1 = .ok (.iload_n 1, 1) := by decide +kernel
theorem d_46_2 : decode (am_b 46) 2 = .ok (.invokestatic 33, 3) := by decide +kernel
theorem d_46_5 : decode (am_b 46) 5 = .ok (.ifCond .eq 23, 3) := by decide +kernel
theorem d_46_8 : decode (am_b 46) 8 = .ok (.aload_n 0, 1) := by decide +kernel
theorem d_46_9 : decode (am_b 46) 9 = .ok (.iload_n 1, 1) := by decide +kernel
theorem d_46_10 : decode (am_b 46) 10 = .ok (.invokestatic 37, 3) := by decide +kernel
theorem d_46_13 : decode (am_b 46) 13 = .ok (.ifCond .eq 15, 3) := by decide +kernel
theorem d_46_16 : decode (am_b 46) 16 = .ok (.aload_n 0, 1) := by decide +kernel
theorem d_46_17 : decode (am_b 46) 17 = .ok (.iload_n 1, 1) := by decide +kernel
theorem d_46_18 : decode (am_b 46) 18 = .ok (.invokestatic 40, 3) := by decide +kernel
theorem d_46_21 : decode (am_b 46) 21 = .ok (.ifCond .eq 7, 3) := by decide +kernel
theorem d_46_24 : decode (am_b 46) 24 = .ok (.iconst 1, 1) := by decide +kernel
theorem d_46_25 : decode (am_b 46) 25 = .ok (.goto 4, 3) := by decide +kernel
theorem d_46_28 : decode (am_b 46) 28 = .ok (.iconst 0, 1) := by decide +kernel
theorem d_46_29 : decode (am_b 46) 29 = .ok (.ireturn, 1) := by decide +kernel
theorem d_47_0 : decode (am_b 47) 0 = .ok (.aload_n 0, 1) := by decide +kernel
theorem d_47_1 : decode (am_b 47) 1 = .ok (.iload_n 1, 1) := by decide +kernel
theorem d_47_2 : decode (am_b 47) 2 = .ok (.invokevirtual 9, 3) := by decide +kernel
theorem d_47_5 : decode (am_b 47) 5 = .ok (.ifCond .eq 16, 3) := by decide +kernel
theorem d_47_8 : decode (am_b 47) 8 = .ok (.aload_n 0, 1) := by decide +kernel
theorem d_47_9 : decode (am_b 47) 9 = .ok (.iload_n 1, 1) := by decide +kernel
theorem d_47_10 : decode (am_b 47) 10 = .ok (.invokestatic 15, 3) := by decide +kernel
theorem d_47_13 : decode (am_b 47) 13 = .ok (.iload_n 1, 1) := by decide +kernel
theorem d_47_14 : decode (am_b 47) 14 = .ok (.if_icmp .ne 7, 3) := by decide +kernel
theorem d_47_17 : decode (am_b 47) 17 = .ok (.iconst 1, 1) := by decide +kernel
theorem d_47_18 : decode (am_b 47) 18 = .ok (.goto 4, 3) := by decide +kernel
theorem d_47_21 : decode (am_b 47) 21 = .ok (.iconst 0, 1) := by decide +kernel
theorem d_47_22 : decode (am_b 47) 22 = .ok (.ireturn, 1) := by decide +kernel
theorem d_48_0 : decode (am_b 48) 0 = .ok (.iload_n 1, 1) := by decide +kernel
theorem d_48_1 : decode (am_b 48) 1 = .ok (.istore_n 2, 1) := by decide +kernel
theorem d_48_2 : decode (am_b 48) 2 = .ok (.iconst 0, 1) := by decide +kernel
theorem d_48_3 : decode (am_b 48) 3 = .ok (.istore_n 3, 1) := by decide +kernel
theorem d_48_4 : decode (am_b 48) 4 = .ok (.iload_n 3, 1) := by decide +kernel
theorem d_48_5 : decode (am_b 48) 5 = .ok (.aload_n 0, 1) := by decide +kernel
theorem d_48_6 : decode (am_b 48) 6 = .ok (.getfield 21, 3) := by decide +kernel
theorem d_48_9 : decode (am_b 48) 9 = .ok (.if_icmp .ge 26, 3) := by decide +kernel
theorem d_48_12 : decode (am_b 48) 12 = .ok (.iload_n 1, 1) := by decide +kernel
theorem d_48_13 : decode (am_b 48) 13 = .ok (.iload_n 3, 1) := by decide +kernel
theorem d_48_14 : decode (am_b 48) 14 = .ok (.ishr, 1) := by decide +kernel
theorem d_48_15 : decode (am_b 48) 15 = .ok (.iconst 1, 1) := by decide +kernel
theorem d_48_16 : decode (am_b 48) 16 = .ok (.iand, 1) := by decide +kernel
theorem d_48_17 : decode (am_b 48) 17 = .ok (.ifCond .eq 12, 3) := by decide +kernel
theorem d_48_20 : decode (am_b 48) 20 = .ok (.iload_n 2, 1) := by decide +kernel
theorem d_48_21 : decode (am_b 48) 21 = .ok (.aload_n 0, 1) := by decide +kernel
theorem d_48_22 : decode (am_b 48) 22 = .ok (.iload_n 3, 1) := by decide +kernel
theorem d_48_23 : decode (am_b 48) 23 = .ok (.iload_n 1, 1) := by decide +kernel
theorem d_48_24 : decode (am_b 48) 24 = .ok (.invokestatic 25, 3) := by decide +kernel
theorem d_48_27 : decode (am_b 48) 27 = .ok (.ior, 1) := by decide +kernel
theorem d_48_28 : decode (am_b 48) 28 = .ok (.istore_n 2, 1) := by decide +kernel
theorem d_48_29 : decode (am_b 48) 29 = .ok (.iinc 3 1, 3) := by decide +kernel
theorem d_48_32 : decode (am_b 48) 32 = .ok (.goto (-28), 3) := by decide +kernel
theorem d_48_35 : decode (am_b 48) 35 = .ok (.iload_n 2, 1) := by decide +kernel
theorem d_48_36 : decode (am_b 48) 36 = .ok (.ireturn, 1) := by decide +kernel
theorem d_49_0 : decode (am_b 49) 0 = .ok (.iconst 0, 1) := by decide +kernel
theorem d_49_1 : decode (am_b 49) 1 = .ok (.istore_n 3, 1) := by decide +kernel
theorem d_49_2 : decode (am_b 49) 2 = .ok (.iconst 0, 1) := by decide +kernel
theorem d_49_3 : decode (am_b 49) 3 = .ok (.istore 4, 2) := by decide +kernel
theorem d_49_5 : decode (am_b 49) 5 = .ok (.iload 4, 2) := by decide +kernel
theorem d_49_7 : decode (am_b 49) 7 = .ok (.aload_n 0, 1) := by decide +kernel
theorem d_49_8 : decode (am_b 49) 8 = .ok (.getfield 21, 3) := by decide +kernel
theorem d_49_11 : decode (am_b 49) 11 = .ok (.if_icmp .ge 30, 3) := by decide +kernel
theorem d_49_14 : decode (am_b 49) 14 = .ok (.iload_n 2, 1) := by decide +kernel
theorem d_49_15 : decode (am_b 49) 15 = .ok (.iload 4, 2) := by decide +kernel
theorem d_49_17 : decode (am_b 49) 17 = .ok (.ishr, 1) := by decide +kernel
theorem d_49_18 : decode (am_b 49) 18 = .ok (.iconst 1, 1) := by decide +kernel
theorem d_49_19 : decode (am_b 49) 19 = .ok (.iand, 1) := by decide +kernel
theorem d_49_20 : decode (am_b 49) 20 = .ok (.ifCond .eq 15, 3) := by decide +kernel
theorem d_49_23 : decode (am_b 49) 23 = .ok (.iload_n 3, 1) := by decide +kernel
theorem d_49_24 : decode (am_b 49) 24 = .ok (.iconst 1, 1) := by decide +kernel
theorem d_49_25 : decode (am_b 49) 25 = .ok (.aload_n 0, 1) := by decide +kernel
theorem d_49_26 : decode (am_b 49) 26 = .ok (.iload_n 1, 1) := by decide +kernel
theorem d_49_27 : decode (am_b 49) 27 = .ok (.iload 4, 2) := by decide +kernel
theorem d_49_29 : decode (am_b 49) 29 = .ok (.invokevirtual 29, 3) := by decide +kernel
theorem d_49_32 : decode (am_b 49) 32 = .ok (.ishl, 1) := by decide +kernel
theorem d_49_33 : decode (am_b 49) 33 = .ok (.ior, 1) := by decide +kernel
theorem d_49_34 : decode (am_b 49) 34 = .ok (.istore_n 3, 1) := by decide +kernel
theorem d_49_35 : decode (am_b 49) 35 = .ok (.iinc 4 1, 3) := by decide +kernel
theorem d_49_38 : decode (am_b 49) 38 = .ok (.goto (-33), 3) := by decide +kernel
theorem d_49_41 : decode (am_b 49) 41 = .ok (.iload_n 3, 1) := by decide +kernel
theorem d_49_42 : decode (am_b 49) 42 = .ok (.ireturn, 1) := by decide +kernel
theorem d_50_0 : decode (am_b 50) 0 = .ok (.iconst 0, 1) := by decide +kernel
theorem d_50_1 : decode (am_b 50) 1 = .ok (.istore_n 2, 1) := by decide +kernel
theorem d_50_2 : decode (am_b 50) 2 = .ok (.iload_n 2, 1) := by decide +kernel
theorem d_50_3 : decode (am_b 50) 3 = .ok (.aload_n 0, 1) := by decide +kernel
theorem d_50_4 : decode (am_b 50) 4 = .ok (.getfield 21, 3) := by decide +kernel
theorem d_50_7 : decode (am_b 50) 7 = .ok (.if_icmp .ge 55, 3) := by decide +kernel
theorem d_50_10 : decode (am_b 50) 10 = .ok (.aload_n 0, 1) := by decide +kernel
theorem d_50_11 : decode (am_b 50) 11 = .ok (.iload_n 2, 1) := by decide +kernel
theorem d_50_12 : decode (am_b 50) 12 = .ok (.iload_n 1, 1) := by decide +kernel
theorem d_50_13 : decode (am_b 50) 13 = .ok (.invokestatic 25, 3) := by decide +kernel
theorem d_50_16 : decode (am_b 50) 16 = .ok (.istore_n 3, 1) := by decide +kernel
theorem d_50_17 : decode (am_b 50) 17 = .ok (.iconst 0, 1) := by decide +kernel
theorem d_50_18 : decode (am_b 50) 18 = .ok (.istore 4, 2) := by decide +kernel
theorem d_50_20 : decode (am_b 50) 20 = .ok (.iload 4, 2) := by decide +kernel
theorem d_50_22 : decode (am_b 50) 22 = .ok (.iload_n 2, 1) := by decide +kernel
theorem d_50_23 : decode (am_b 50) 23 = .ok (.if_icmp .ge 33, 3) := by decide +kernel
theorem d_50_26 : decode (am_b 50) 26 = .ok (.aload_n 0, 1) := by decide +kernel
theorem d_50_27 : decode (am_b 50) 27 = .ok (.iload 4, 2) := by decide +kernel
theorem d_50_29 : decode (am_b 50) 29 = .ok (.iload_n 1, 1) := by decide +kernel
theorem d_50_30 : decode (am_b 50) 30 = .ok (.invokestatic 25, 3) := by decide +kernel
theorem d_50_33 : decode (am_b 50) 33 = .ok (.istore 5, 2) := by decide +kernel
theorem d_50_35 : decode (am_b 50) 35 = .ok (.iload_n 3, 1) := by decide +kernel
theorem d_50_36 : decode (am_b 50) 36 = .ok (.iload 5, 2) := by decide +kernel
theorem d_50_38 : decode (am_b 50) 38 = .ok (.if_icmp .eq 12, 3) := by decide +kernel
theorem d_50_41 : decode (am_b 50) 41 = .ok (.iload_n 3, 1) := by decide +kernel
theorem d_50_42 : decode (am_b 50) 42 = .ok (.iload 5, 2) := by decide +kernel
theorem d_50_44 : decode (am_b 50) 44 = .ok (.iand, 1) := by decide +kernel
theorem d_50_45 : decode (am_b 50) 45 = .ok (.ifCond .eq 5, 3) := by decide +kernel
theorem d_50_48 : decode (am_b 50) 48 = .ok (.iconst 0, 1) := by decide +kernel
theorem d_50_49 : decode (am_b 50) 49 = .ok (.ireturn, 1) := by decide +kernel
theorem d_50_50 : decode (am_b 50) 50 = .ok (.iinc 4 1, 3) := by decide +kernel
theorem d_50_53 : decode (am_b 50) 53 = .ok (.goto (-33), 3) := by decide +kernel
theorem d_50_56 : decode (am_b 50) 56 = .ok (.iinc 2 1, 3) := by decide +kernel
theorem d_50_59 : decode (am_b 50) 59 = .ok (.goto (-57), 3) := by decide +kernel
theorem d_50_62 : decode (am_b 50) 62 = .ok (.iconst 1, 1) := by decide +kernel
theorem d_50_63 : decode (am_b 50) 63 = .ok (.ireturn, 1) := by decide +kernel
theorem d_51_0 : decode (am_b 51) 0 = .ok (.iconst 0, 1) := by decide +kernel
theorem d_51_1 : decode (am_b 51) 1 = .ok (.istore_n 2, 1) := by decide +kernel
theorem d_51_2 : decode (am_b 51) 2 = .ok (.iload_n 2, 1) := by decide +kernel
theorem d_51_3 : decode (am_b 51) 3 = .ok (.aload_n 0, 1) := by decide +kernel
theorem d_51_4 : decode (am_b 51) 4 = .ok (.getfield 21, 3) := by decide +kernel
theorem d_51_7 : decode (am_b 51) 7 = .ok (.if_icmp .ge 72, 3) := by decide +kernel
theorem d_51_10 : decode (am_b 51) 10 = .ok (.aload_n 0, 1) := by decide +kernel
theorem d_51_11 : decode (am_b 51) 11 = .ok (.iload_n 2, 1) := by decide +kernel
theorem d_51_12 : decode (am_b 51) 12 = .ok (.iload_n 1, 1) := by decide +kernel
theorem d_51_13 : decode (am_b 51) 13 = .ok (.invokestatic 43, 3) := by decide +kernel
theorem d_51_16 : decode (am_b 51) 16 = .ok (.istore_n 3, 1) := by decide +kernel
theorem d_51_17 : decode (am_b 51) 17 = .ok (.iconst 0, 1) := by decide +kernel
theorem d_51_18 : decode (am_b 51) 18 = .ok (.istore 4, 2) := by decide +kernel
theorem d_51_20 : decode (am_b 51) 20 = .ok (.iload 4, 2) := by decide +kernel
theorem d_51_22 : decode (am_b 51) 22 = .ok (.aload_n 0, 1) := by decide +kernel
theorem d_51_23 : decode (am_b 51) 23 = .ok (.getfield 21, 3) := by decide +kernel
theorem d_51_26 : decode (am_b 51) 26 = .ok (.if_icmp .ge 47, 3) := by decide +kernel
theorem d_51_29 : decode (am_b 51) 29 = .ok (.aload_n 0, 1) := by decide +kernel
theorem d_51_30 : decode (am_b 51) 30 = .ok (.iload_n 3, 1) := by decide +kernel
theorem d_51_31 : decode (am_b 51) 31 = .ok (.aload_n 0, 1) := by decide +kernel
theorem d_51_32 : decode (am_b 51) 32 = .ok (.iload 4, 2) := by decide +kernel
theorem d_51_34 : decode (am_b 51) 34 = .ok (.iload_n 1, 1) := by decide +kernel
theorem d_51_35 : decode (am_b 51) 35 = .ok (.invokestatic 43, 3) := by decide +kernel
theorem d_51_38 : decode (am_b 51) 38 = .ok (.invokevirtual 29, 3) := by decide +kernel
theorem d_51_41 : decode (am_b 51) 41 = .ok (.istore 5, 2) := by decide +kernel
theorem d_51_43 : decode (am_b 51) 43 = .ok (.aload_n 0, 1) := by decide +kernel
theorem d_51_44 : decode (am_b 51) 44 = .ok (.aload_n 0, 1) := by decide +kernel
theorem d_51_45 : decode (am_b 51) 45 = .ok (.iload_n 2, 1) := by decide +kernel
theorem d_51_46 : decode (am_b 51) 46 = .ok (.iload 4, 2) := by decide +kernel
theorem d_51_48 : decode (am_b 51) 48 = .ok (.invokevirtual 29, 3) := by decide +kernel
theorem d_51_51 : decode (am_b 51) 51 = .ok (.iload_n 1, 1) := by decide +kernel
theorem d_51_52 : decode (am_b 51) 52 = .ok (.invokestatic 43, 3) := by decide +kernel
theorem d_51_55 : decode (am_b 51) 55 = .ok (.aload_n 0, 1) := by decide +kernel
theorem d_51_56 : decode (am_b 51) 56 = .ok (.iload 5, 2) := by decide +kernel
theorem d_51_58 : decode (am_b 51) 58 = .ok (.iload_n 1, 1) := by decide +kernel
theorem d_51_59 : decode (am_b 51) 59 = .ok (.invokestatic 43, 3) := by decide +kernel
theorem d_51_62 : decode (am_b 51) 62 = .ok (.if_icmp .eq 5, 3) := by decide +kernel
theorem d_51_65 : decode (am_b 51) 65 = .ok (.iconst 0, 1) := by decide +kernel
theorem d_51_66 : decode (am_b 51) 66 = .ok (.ireturn, 1) := by decide +kernel
theorem d_51_67 : decode (am_b 51) 67 = .ok (.iinc 4 1, 3) := by decide +kernel
theorem d_51_70 : decode (am_b 51) 70 = .ok (.goto (-50), 3) := by decide +kernel
theorem d_51_73 : decode (am_b 51) 73 = .ok (.iinc 2 1, 3) := by decide +kernel
theorem d_51_76 : decode (am_b 51) 76 = .ok (.goto (-74), 3) := by decide +kernel
theorem d_51_79 : decode (am_b 51) 79 = .ok (.iconst 1, 1) := by decide +kernel
theorem d_51_80 : decode (am_b 51) 80 = .ok (.ireturn, 1) := by decide +kernel
theorem d_52_0 : decode (am_b 52) 0 = .ok (.aload_n 0, 1) := by decide +kernel
theorem d_52_1 : decode (am_b 52) 1 = .ok (.iload_n 1, 1) := by decide +kernel
theorem d_52_2 : decode (am_b 52) 2 = .ok (.iload_n 2, 1) := by decide +kernel
theorem d_52_3 : decode (am_b 52) 3 = .ok (.invokestatic 25, 3) := by decide +kernel
theorem d_52_6 : decode (am_b 52) 6 = .ok (.invokestatic 46, 3) := by decide +kernel
theorem d_52_9 : decode (am_b 52) 9 = .ok (.ireturn, 1) := by decide +kernel
theorem d_53_0 : decode (am_b 53) 0 = .ok (.iconst 0, 1) := by decide +kernel
theorem d_53_1 : decode (am_b 53) 1 = .ok (.istore_n 3, 1) := by decide +kernel
theorem d_53_2 : decode (am_b 53) 2 = .ok (.iconst 0, 1) := by decide +kernel
theorem d_53_3 : decode (am_b 53) 3 = .ok (.istore 4, 2) := by decide +kernel
theorem d_53_5 : decode (am_b 53) 5 = .ok (.iload 4, 2) := by decide +kernel
theorem d_53_7 : decode (am_b 53) 7 = .ok (.aload_n 1, 1) := by decide +kernel
theorem d_53_8 : decode (am_b 53) 8 = .ok (.getfield 21, 3) := by decide +kernel
theorem d_53_11 : decode (am_b 53) 11 = .ok (.if_icmp .ge 21, 3) := by decide +kernel
theorem d_53_14 : decode (am_b 53) 14 = .ok (.iload_n 3, 1) := by decide +kernel
theorem d_53_15 : decode (am_b 53) 15 = .ok (.iconst 1, 1) := by decide +kernel
theorem d_53_16 : decode (am_b 53) 16 = .ok (.aload_n 1, 1) := by decide +kernel
theorem d_53_17 : decode (am_b 53) 17 = .ok (.iload 4, 2) := by decide +kernel
theorem d_53_19 : decode (am_b 53) 19 = .ok (.iload_n 2, 1) := by decide +kernel
theorem d_53_20 : decode (am_b 53) 20 = .ok (.invokestatic 43, 3) := by decide +kernel
theorem d_53_23 : decode (am_b 53) 23 = .ok (.ishl, 1) := by decide +kernel
theorem d_53_24 : decode (am_b 53) 24 = .ok (.ior, 1) := by decide +kernel
theorem d_53_25 : decode (am_b 53) 25 = .ok (.istore_n 3, 1) := by decide +kernel
theorem d_53_26 : decode (am_b 53) 26 = .ok (.iinc 4 1, 3) := by decide +kernel
theorem d_53_29 : decode (am_b 53) 29 = .ok (.goto (-24), 3) := by decide +kernel
theorem d_53_32 : decode (am_b 53) 32 = .ok (.aload_n 0, 1) := by decide +kernel
theorem d_53_33 : decode (am_b 53) 33 = .ok (.iload_n 3, 1) := by decide +kernel
theorem d_53_34 : decode (am_b 53) 34 = .ok (.invokestatic 52, 3) := by decide +kernel
theorem d_53_37 : decode (am_b 53) 37 = .ok (.putfield 21, 3) := by decide +kernel
theorem d_53_40 : decode (am_b 53) 40 = .ok (.iconst 0, 1) := by decide +kernel
theorem d_53_41 : decode (am_b 53) 41 = .ok (.istore 4, 2) := by decide +kernel
theorem d_53_43 : decode (am_b 53) 43 = .ok (.iload 4, 2) := by decide +kernel
theorem d_53_45 : decode (am_b 53) 45 = .ok (.aload_n 1, 1) := by decide +kernel
theorem d_53_46 : decode (am_b 53) 46 = .ok (.getfield 21, 3) := by decide +kernel
theorem d_53_49 : decode (am_b 53) 49 = .ok (.if_icmp .ge 65, 3) := by decide +kernel
theorem d_53_52 : decode (am_b 53) 52 = .ok (.iconst 0, 1) := by decide +kernel
theorem d_53_53 : decode (am_b 53) 53 = .ok (.istore 5, 2) := by decide +kernel
theorem d_53_55 : decode (am_b 53) 55 = .ok (.iload 5, 2) := by decide +kernel
theorem d_53_57 : decode (am_b 53) 57 = .ok (.aload_n 1, 1) := by decide +kernel
theorem d_53_58 : decode (am_b 53) 58 = .ok (.getfield 21, 3) := by decide +kernel
theorem d_53_61 : decode (am_b 53) 61 = .ok (.if_icmp .ge 47, 3) := by decide +kernel
theorem d_53_64 : decode (am_b 53) 64 = .ok (.aload_n 1, 1) := by decide +kernel
theorem d_53_65 : decode (am_b 53) 65 = .ok (.iload 4, 2) := by decide +kernel
theorem d_53_67 : decode (am_b 53) 67 = .ok (.iload 5, 2) := by decide +kernel
theorem d_53_69 : decode (am_b 53) 69 = .ok (.invokevirtual 29, 3) := by decide +kernel
theorem d_53_72 : decode (am_b 53) 72 = .ok (.istore 6, 2) := by decide +kernel
theorem d_53_74 : decode (am_b 53) 74 = .ok (.aload_n 0, 1) := by decide +kernel
theorem d_53_75 : decode (am_b 53) 75 = .ok (.aload_n 1, 1) := by decide +kernel
theorem d_53_76 : decode (am_b 53) 76 = .ok (.iload 4, 2) := by decide +kernel
theorem d_53_78 : decode (am_b 53) 78 = .ok (.iload_n 2, 1) := by decide +kernel
theorem d_53_79 : decode (am_b 53) 79 = .ok (.iload_n 3, 1) := by decide +kernel
theorem d_53_80 : decode (am_b 53) 80 = .ok (.invokestatic 55, 3) := by decide +kernel
theorem d_53_83 : decode (am_b 53) 83 = .ok (.aload_n 1, 1) := by decide +kernel
theorem d_53_84 : decode (am_b 53) 84 = .ok (.iload 5, 2) := by decide +kernel
theorem d_53_86 : decode (am_b 53) 86 = .ok (.iload_n 2, 1) := by decide +kernel
theorem d_53_87 : decode (am_b 53) 87 = .ok (.iload_n 3, 1) := by decide +kernel
theorem d_53_88 : decode (am_b 53) 88 = .ok (.invokestatic 55, 3) := by decide +kernel
theorem d_53_91 : decode (am_b 53) 91 = .ok (.aload_n 1, 1) := by decide +kernel
theorem d_53_92 : decode (am_b 53) 92 = .ok (.iload 6, 2) := by decide +kernel
theorem d_53_94 : decode (am_b 53) 94 = .ok (.iload_n 2, 1) := by decide +kernel
theorem d_53_95 : decode (am_b 53) 95 = .ok (.iload_n 3, 1) := by decide +kernel
theorem d_53_96 : decode (am_b 53) 96 = .ok (.invokestatic 55, 3) := by decide +kernel
theorem d_53_99 : decode (am_b 53) 99 = .ok (.invokevirtual 59, 3) := by decide +kernel
theorem d_53_102 : decode (am_b 53) 102 = .ok (.iinc 5 1, 3) := by decide +kernel
theorem d_53_105 : decode (am_b 53) 105 = .ok (.goto (-50), 3) := by decide +kernel
theorem d_53_108 : decode (am_b 53) 108 = .ok (.iinc 4 1, 3) := by decide +kernel
theorem d_53_111 : decode (am_b 53) 111 = .ok (.goto (-68), 3) := by decide +kernel
theorem d_53_114 : decode (am_b 53) 114 = .ok (.return_, 1) := by decide +kernel
theorem d_54_0 : decode (am_b 54) 0 = .ok (.iconst 1, 1) := by decide +kernel
theorem d_54_1 : decode (am_b 54) 1 = .ok (.aload_n 0, 1) := by decide +kernel
theorem d_54_2 : decode (am_b 54) 2 = .ok (.iload_n 1, 1) := by decide +kernel
theorem d_54_3 : decode (am_b 54) 3 = .ok (.iload_n 2, 1) := by decide +kernel
theorem d_54_4 : decode (am_b 54) 4 = .ok (.invokestatic 43, 3) := by decide +kernel
theorem d_54_7 : decode (am_b 54) 7 = .ok (.ishl, 1) := by decide +kernel
theorem d_54_8 : decode (am_b 54) 8 = .ok (.iconst 1, 1) := by decide +kernel
theorem d_54_9 : decode (am_b 54) 9 = .ok (.isub, 1) := by decide +kernel
theorem d_54_10 : decode (am_b 54) 10 = .ok (.istore 4, 2) := by decide +kernel
theorem d_54_12 : decode (am_b 54) 12 = .ok (.iload_n 3, 1) := by decide +kernel
theorem d_54_13 : decode (am_b 54) 13 = .ok (.iload 4, 2) := by decide +kernel
theorem d_54_15 : decode (am_b 54) 15 = .ok (.iand, 1) := by decide +kernel
theorem d_54_16 : decode (am_b 54) 16 = .ok (.invokestatic 52, 3) := by decide +kernel
theorem d_54_19 : decode (am_b 54) 19 = .ok (.ireturn, 1) := by decide +kernel
theorem d_55_0 : decode (am_b 55) 0 = .ok (.iload_n 1, 1) := by decide +kernel
theorem d_55_1 : decode (am_b 55) 1 = .ok (.tableswitch 65 0 5 #[39, 39, 39, 45, 50, 55], 39) := by decide +kernel
theorem d_55_40 : decode (am_b 55) 40 = .ok (.aload_n 0, 1) := by decide +kernel
theorem d_55_41 : decode (am_b 55) 41 = .ok (.iload_n 1, 1) := by decide +kernel
theorem d_55_42 : decode (am_b 55) 42 = .ok (.invokestatic 69, 3) := by decide +kernel
theorem d_55_45 : decode (am_b 55) 45 = .ok (.ireturn, 1) := by decide +kernel
theorem d_55_46 : decode (am_b 55) 46 = .ok (.aload_n 0, 1) := by decide +kernel
theorem d_55_47 : decode (am_b 55) 47 = .ok (.invokestatic 72, 3) := by decide +kernel
theorem d_55_50 : decode (am_b 55) 50 = .ok (.ireturn, 1) := by decide +kernel
theorem d_55_51 : decode (am_b 55) 51 = .ok (.aload_n 0, 1) := by decide +kernel
theorem d_55_52 : decode (am_b 55) 52 = .ok (.invokestatic 76, 3) := by decide +kernel
theorem d_55_55 : decode (am_b 55) 55 = .ok (.ireturn, 1) := by decide +kernel
theorem d_55_56 : decode (am_b 55) 56 = .ok (.aload_n 0, 1) := by decide +kernel
theorem d_55_57 : decode (am_b 55) 57 = .ok (.invokestatic 72, 3) := by decide +kernel
theorem d_55_60 : decode (am_b 55) 60 = .ok (.aload_n 0, 1) := by decide +kernel
theorem d_55_61 : decode (am_b 55) 61 = .ok (.invokestatic 76, 3) := by decide +kernel
theorem d_55_64 : decode (am_b 55) 64 = .ok (.iand, 1) := by decide +kernel
theorem d_55_65 : decode (am_b 55) 65 = .ok (.ireturn, 1) := by decide +kernel
theorem d_55_66 : decode (am_b 55) 66 = .ok (.iconst (-1), 1) := by decide +kernel
theorem d_55_67 : decode (am_b 55) 67 = .ok (.ireturn, 1) := by decide +kernel
theorem d_56_0 : decode (am_b 56) 0 = .ok (.iconst 0, 1) := by decide +kernel
theorem d_56_1 : decode (am_b 56) 1 = .ok (.istore_n 2, 1) := by decide +kernel
theorem d_56_2 : decode (am_b 56) 2 = .ok (.iconst 0, 1) := by decide +kernel
theorem d_56_3 : decode (am_b 56) 3 = .ok (.istore_n 3, 1) := by decide +kernel
theorem d_56_4 : decode (am_b 56) 4 = .ok (.iload_n 3, 1) := by decide +kernel
theorem d_56_5 : decode (am_b 56) 5 = .ok (.aload_n 0, 1) := by decide +kernel
theorem d_56_6 : decode (am_b 56) 6 = .ok (.getfield 21, 3) := by decide +kernel
theorem d_56_9 : decode (am_b 56) 9 = .ok (.if_icmp .ge 24, 3) := by decide +kernel
theorem d_56_12 : decode (am_b 56) 12 = .ok (.aload_n 0, 1) := by decide +kernel
theorem d_56_13 : decode (am_b 56) 13 = .ok (.iload_n 1, 1) := by decide +kernel
theorem d_56_14 : decode (am_b 56) 14 = .ok (.iload_n 3, 1) := by decide +kernel
theorem d_56_15 : decode (am_b 56) 15 = .ok (.invokestatic 79, 3) := by decide +kernel
theorem d_56_18 : decode (am_b 56) 18 = .ok (.ifCond .eq 9, 3) := by decide +kernel
theorem d_56_21 : decode (am_b 56) 21 = .ok (.iload_n 2, 1) := by decide +kernel
theorem d_56_22 : decode (am_b 56) 22 = .ok (.iconst 1, 1) := by decide +kernel
theorem d_56_23 : decode (am_b 56) 23 = .ok (.iload_n 3, 1) := by decide +kernel
theorem d_56_24 : decode (am_b 56) 24 = .ok (.ishl, 1) := by decide +kernel
theorem d_56_25 : decode (am_b 56) 25 = .ok (.ior, 1) := by decide +kernel
theorem d_56_26 : decode (am_b 56) 26 = .ok (.istore_n 2, 1) := by decide +kernel
theorem d_56_27 : decode (am_b 56) 27 = .ok (.iinc 3 1, 3) := by decide +kernel
theorem d_56_30 : decode (am_b 56) 30 = .ok (.goto (-26), 3) := by decide +kernel
theorem d_56_33 : decode (am_b 56) 33 = .ok (.iload_n 2, 1) := by decide +kernel
theorem d_56_34 : decode (am_b 56) 34 = .ok (.ireturn, 1) := by decide +kernel
theorem d_57_0 : decode (am_b 57) 0 = .ok (.iconst 0, 1) := by decide +kernel
theorem d_57_1 : decode (am_b 57) 1 = .ok (.istore_n 3, 1) := by decide +kernel
theorem d_57_2 : decode (am_b 57) 2 = .ok (.iload_n 3, 1) := by decide +kernel
theorem d_57_3 : decode (am_b 57) 3 = .ok (.aload_n 0, 1) := by decide +kernel
theorem d_57_4 : decode (am_b 57) 4 = .ok (.getfield 21, 3) := by decide +kernel
theorem d_57_7 : decode (am_b 57) 7 = .ok (.if_icmp .ge 75, 3) := by decide +kernel
theorem d_57_10 : decode (am_b 57) 10 = .ok (.iconst 0, 1) := by decide +kernel
theorem d_57_11 : decode (am_b 57) 11 = .ok (.istore 4, 2) := by decide +kernel
theorem d_57_13 : decode (am_b 57) 13 = .ok (.iload 4, 2) := by decide +kernel
theorem d_57_15 : decode (am_b 57) 15 = .ok (.aload_n 0, 1) := by decide +kernel
theorem d_57_16 : decode (am_b 57) 16 = .ok (.getfield 21, 3) := by decide +kernel
theorem d_57_19 : decode (am_b 57) 19 = .ok (.if_icmp .ge 57, 3) := by decide +kernel
theorem d_57_22 : decode (am_b 57) 22 = .ok (.iload_n 1, 1) := by decide +kernel
theorem d_57_23 : decode (am_b 57) 23 = .ok (.ifCond .ne 14, 3) := by decide +kernel
theorem d_57_26 : decode (am_b 57) 26 = .ok (.aload_n 0, 1) := by decide +kernel
theorem d_57_27 : decode (am_b 57) 27 = .ok (.iload_n 2, 1) := by decide +kernel
theorem d_57_28 : decode (am_b 57) 28 = .ok (.iload_n 3, 1) := by decide +kernel
theorem d_57_29 : decode (am_b 57) 29 = .ok (.iload 4, 2) := by decide +kernel
theorem d_57_31 : decode (am_b 57) 31 = .ok (.invokestatic 83, 3) := by decide +kernel
theorem d_57_34 : decode (am_b 57) 34 = .ok (.goto 27, 3) := by decide +kernel
theorem d_57_37 : decode (am_b 57) 37 = .ok (.iload_n 1, 1) := by decide +kernel
theorem d_57_38 : decode (am_b 57) 38 = .ok (.iconst 1, 1) := by decide +kernel
theorem d_57_39 : decode (am_b 57) 39 = .ok (.if_icmp .ne 14, 3) := by decide +kernel
theorem d_57_42 : decode (am_b 57) 42 = .ok (.aload_n 0, 1) := by decide +kernel
theorem d_57_43 : decode (am_b 57) 43 = .ok (.iload_n 3, 1) := by decide +kernel
theorem d_57_44 : decode (am_b 57) 44 = .ok (.iload_n 2, 1) := by decide +kernel
theorem d_57_45 : decode (am_b 57) 45 = .ok (.iload 4, 2) := by decide +kernel
theorem d_57_47 : decode (am_b 57) 47 = .ok (.invokestatic 83, 3) := by decide +kernel
theorem d_57_50 : decode (am_b 57) 50 = .ok (.goto 11, 3) := by decide +kernel
theorem d_57_53 : decode (am_b 57) 53 = .ok (.aload_n 0, 1) := by decide +kernel
theorem d_57_54 : decode (am_b 57) 54 = .ok (.iload_n 3, 1) := by decide +kernel
theorem d_57_55 : decode (am_b 57) 55 = .ok (.iload 4, 2) := by decide +kernel
theorem d_57_57 : decode (am_b 57) 57 = .ok (.iload_n 2, 1) := by decide +kernel
theorem d_57_58 : decode (am_b 57) 58 = .ok (.invokestatic 83, 3) := by decide +kernel
theorem d_57_61 : decode (am_b 57) 61 = .ok (.istore 5, 2) := by decide +kernel
theorem d_57_63 : decode (am_b 57) 63 = .ok (.iload 5, 2) := by decide +kernel
theorem d_57_65 : decode (am_b 57) 65 = .ok (.ifCond .ne 5, 3) := by decide +kernel
theorem d_57_68 : decode (am_b 57) 68 = .ok (.iconst 0, 1) := by decide +kernel
theorem d_57_69 : decode (am_b 57) 69 = .ok (.ireturn, 1) := by decide +kernel
theorem d_57_70 : decode (am_b 57) 70 = .ok (.iinc 4 1, 3) := by decide +kernel
theorem d_57_73 : decode (am_b 57) 73 = .ok (.goto (-60), 3) := by decide +kernel
theorem d_57_76 : decode (am_b 57) 76 = .ok (.iinc 3 1, 3) := by decide +kernel
theorem d_57_79 : decode (am_b 57) 79 = .ok (.goto (-77), 3) := by decide +kernel
theorem d_57_82 : decode (am_b 57) 82 = .ok (.iconst 1, 1) := by decide +kernel
theorem d_57_83 : decode (am_b 57) 83 = .ok (.ireturn, 1) := by decide +kernel
theorem d_58_0 : decode (am_b 58) 0 = .ok (.aload_n 0, 1) := by decide +kernel
theorem d_58_1 : decode (am_b 58) 1 = .ok (.iload_n 1, 1) := by decide +kernel
theorem d_58_2 : decode (am_b 58) 2 = .ok (.aload_n 0, 1) := by decide +kernel
theorem d_58_3 : decode (am_b 58) 3 = .ok (.iload_n 2, 1) := by decide +kernel
theorem d_58_4 : decode (am_b 58) 4 = .ok (.iload_n 3, 1) := by decide +kernel
theorem d_58_5 : decode (am_b 58) 5 = .ok (.invokevirtual 29, 3) := by decide +kernel
theorem d_58_8 : decode (am_b 58) 8 = .ok (.invokevirtual 29, 3) := by decide +kernel
theorem d_58_11 : decode (am_b 58) 11 = .ok (.aload_n 0, 1) := by decide +kernel
theorem d_58_12 : decode (am_b 58) 12 = .ok (.aload_n 0, 1) := by decide +kernel
theorem d_58_13 : decode (am_b 58) 13 = .ok (.iload_n 1, 1) := by decide +kernel
theorem d_58_14 : decode (am_b 58) 14 = .ok (.iload_n 2, 1) := by decide +kernel
theorem d_58_15 : decode (am_b 58) 15 = .ok (.invokevirtual 29, 3) := by decide +kernel
theorem d_58_18 : decode (am_b 58) 18 = .ok (.iload_n 3, 1) := by decide +kernel
theorem d_58_19 : decode (am_b 58) 19 = .ok (.invokevirtual 29, 3) := by decide +kernel
theorem d_58_22 : decode (am_b 58) 22 = .ok (.if_icmp .ne 7, 3) := by decide +kernel
theorem d_58_25 : decode (am_b 58) 25 = .ok (.iconst 1, 1) := by decide +kernel
theorem d_58_26 : decode (am_b 58) 26 = .ok (.goto 4, 3) := by decide +kernel
theorem d_58_29 : decode (am_b 58) 29 = .ok (.iconst 0, 1) := by decide +kernel
theorem d_58_30 : decode (am_b 58) 30 = .ok (.ireturn, 1) := by decide +kernel
theorem d_59_0 : decode (am_b 59) 0 = .ok (.aload_n 0, 1) := by decide +kernel
theorem d_59_1 : decode (am_b 59) 1 = .ok (.iconst 0, 1) := by decide +kernel
theorem d_59_2 : decode (am_b 59) 2 = .ok (.invokestatic 69, 3) := by decide +kernel
theorem d_59_5 : decode (am_b 59) 5 = .ok (.aload_n 0, 1) := by decide +kernel
theorem d_59_6 : decode (am_b 59) 6 = .ok (.iconst 1, 1) := by decide +kernel
theorem d_59_7 : decode (am_b 59) 7 = .ok (.invokestatic 69, 3) := by decide +kernel
theorem d_59_10 : decode (am_b 59) 10 = .ok (.iand, 1) := by decide +kernel
theorem d_59_11 : decode (am_b 59) 11 = .ok (.aload_n 0, 1) := by decide +kernel
theorem d_59_12 : decode (am_b 59) 12 = .ok (.iconst 2, 1) := by decide +kernel
theorem d_59_13 : decode (am_b 59) 13 = .ok (.invokestatic 69, 3) := by decide +kernel
theorem d_59_16 : decode (am_b 59) 16 = .ok (.iand, 1) := by decide +kernel
theorem d_59_17 : decode (am_b 59) 17 = .ok (.ireturn, 1) := by decide +kernel
theorem d_60_0 : decode (am_b 60) 0 = .ok (.iconst 0, 1) := by decide +kernel
theorem d_60_1 : decode (am_b 60) 1 = .ok (.istore_n 1, 1) := by decide +kernel
theorem d_60_2 : decode (am_b 60) 2 = .ok (.iconst 0, 1) := by decide +kernel
theorem d_60_3 : decode (am_b 60) 3 = .ok (.istore_n 2, 1) := by decide +kernel
theorem d_60_4 : decode (am_b 60) 4 = .ok (.iload_n 2, 1) := by decide +kernel
theorem d_60_5 : decode (am_b 60) 5 = .ok (.aload_n 0, 1) := by decide +kernel
theorem d_60_6 : decode (am_b 60) 6 = .ok (.getfield 21, 3) := by decide +kernel
theorem d_60_9 : decode (am_b 60) 9 = .ok (.if_icmp .ge 54, 3) := by decide +kernel
theorem d_60_12 : decode (am_b 60) 12 = .ok (.iconst 0, 1) := by decide +kernel
theorem d_60_13 : decode (am_b 60) 13 = .ok (.istore_n 3, 1) := by decide +kernel
theorem d_60_14 : decode (am_b 60) 14 = .ok (.iload_n 3, 1) := by decide +kernel
theorem d_60_15 : decode (am_b 60) 15 = .ok (.aload_n 0, 1) := by decide +kernel
theorem d_60_16 : decode (am_b 60) 16 = .ok (.getfield 21, 3) := by decide +kernel
theorem d_60_19 : decode (am_b 60) 19 = .ok (.if_icmp .ge 24, 3) := by decide +kernel
theorem d_60_22 : decode (am_b 60) 22 = .ok (.aload_n 0, 1) := by decide +kernel
theorem d_60_23 : decode (am_b 60) 23 = .ok (.iload_n 2, 1) := by decide +kernel
theorem d_60_24 : decode (am_b 60) 24 = .ok (.iload_n 3, 1) := by decide +kernel
theorem d_60_25 : decode (am_b 60) 25 = .ok (.invokevirtual 29, 3) := by decide +kernel
theorem d_60_28 : decode (am_b 60) 28 = .ok (.aload_n 0, 1) := by decide +kernel
theorem d_60_29 : decode (am_b 60) 29 = .ok (.iload_n 3, 1) := by decide +kernel
theorem d_60_30 : decode (am_b 60) 30 = .ok (.iload_n 2, 1) := by decide +kernel
theorem d_60_31 : decode (am_b 60) 31 = .ok (.invokevirtual 29, 3) := by decide +kernel
theorem d_60_34 : decode (am_b 60) 34 = .ok (.if_icmp .ne 9, 3) := by decide +kernel
theorem d_60_37 : decode (am_b 60) 37 = .ok (.iinc 3 1, 3) := by decide +kernel
theorem d_60_40 : decode (am_b 60) 40 = .ok (.goto (-26), 3) := by decide +kernel
theorem d_60_43 : decode (am_b 60) 43 = .ok (.iload_n 3, 1) := by decide +kernel
theorem d_60_44 : decode (am_b 60) 44 = .ok (.aload_n 0, 1) := by decide +kernel
theorem d_60_45 : decode (am_b 60) 45 = .ok (.getfield 21, 3) := by decide +kernel
theorem d_60_48 : decode (am_b 60) 48 = .ok (.if_icmp .ne 9, 3) := by decide +kernel
theorem d_60_51 : decode (am_b 60) 51 = .ok (.iload_n 1, 1) := by decide +kernel
theorem d_60_52 : decode (am_b 60) 52 = .ok (.iconst 1, 1) := by decide +kernel
theorem d_60_53 : decode (am_b 60) 53 = .ok (.iload_n 2, 1) := by decide +kernel
theorem d_60_54 : decode (am_b 60) 54 = .ok (.ishl, 1) := by decide +kernel
theorem d_60_55 : decode (am_b 60) 55 = .ok (.ior, 1) := by decide +kernel
theorem d_60_56 : decode (am_b 60) 56 = .ok (.istore_n 1, 1) := by decide +kernel
theorem d_60_57 : decode (am_b 60) 57 = .ok (.iinc 2 1, 3) := by decide +kernel
theorem d_60_60 : decode (am_b 60) 60 = .ok (.goto (-56), 3) := by decide +kernel
theorem d_60_63 : decode (am_b 60) 63 = .ok (.iload_n 1, 1) := by decide +kernel
theorem d_60_64 : decode (am_b 60) 64 = .ok (.ireturn, 1) := by decide +kernel
theorem d_61_0 : decode (am_b 61) 0 = .ok (.iconst 0, 1) := by decide +kernel
theorem d_61_1 : decode (am_b 61) 1 = .ok (.istore_n 1, 1) := by decide +kernel
theorem d_61_2 : decode (am_b 61) 2 = .ok (.iconst 0, 1) := by decide +kernel
theorem d_61_3 : decode (am_b 61) 3 = .ok (.istore_n 2, 1) := by decide +kernel
theorem d_61_4 : decode (am_b 61) 4 = .ok (.iload_n 2, 1) := by decide +kernel
theorem d_61_5 : decode (am_b 61) 5 = .ok (.aload_n 0, 1) := by decide +kernel
theorem d_61_6 : decode (am_b 61) 6 = .ok (.getfield 21, 3) := by decide +kernel
theorem d_61_9 : decode (am_b 61) 9 = .ok (.if_icmp .ge 57, 3) := by decide +kernel
theorem d_61_12 : decode (am_b 61) 12 = .ok (.iconst 0, 1) := by decide +kernel
theorem d_61_13 : decode (am_b 61) 13 = .ok (.istore_n 3, 1) := by decide +kernel
theorem d_61_14 : decode (am_b 61) 14 = .ok (.iload_n 3, 1) := by decide +kernel
theorem d_61_15 : decode (am_b 61) 15 = .ok (.aload_n 0, 1) := by decide +kernel
theorem d_61_16 : decode (am_b 61) 16 = .ok (.getfield 21, 3) := by decide +kernel
theorem d_61_19 : decode (am_b 61) 19 = .ok (.if_icmp .ge 41, 3) := by decide +kernel
theorem d_61_22 : decode (am_b 61) 22 = .ok (.iconst 0, 1) := by decide +kernel
theorem d_61_23 : decode (am_b 61) 23 = .ok (.istore 4, 2) := by decide +kernel
theorem d_61_25 : decode (am_b 61) 25 = .ok (.iload 4, 2) := by decide +kernel
theorem d_61_27 : decode (am_b 61) 27 = .ok (.aload_n 0, 1) := by decide +kernel
theorem d_61_28 : decode (am_b 61) 28 = .ok (.getfield 21, 3) := by decide +kernel
theorem d_61_31 : decode (am_b 61) 31 = .ok (.if_icmp .ge 23, 3) := by decide +kernel
theorem d_61_34 : decode (am_b 61) 34 = .ok (.aload_n 0, 1) := by decide +kernel
theorem d_61_35 : decode (am_b 61) 35 = .ok (.iload_n 2, 1) := by decide +kernel
theorem d_61_36 : decode (am_b 61) 36 = .ok (.iload_n 3, 1) := by decide +kernel
theorem d_61_37 : decode (am_b 61) 37 = .ok (.iload 4, 2) := by decide +kernel
theorem d_61_39 : decode (am_b 61) 39 = .ok (.invokestatic 83, 3) := by decide +kernel
theorem d_61_42 : decode (am_b 61) 42 = .ok (.ifCond .eq 6, 3) := by decide +kernel
theorem d_61_45 : decode (am_b 61) 45 = .ok (.iinc 1 1, 3) := by decide +kernel
theorem d_61_48 : decode (am_b 61) 48 = .ok (.iinc 4 1, 3) := by decide +kernel
theorem d_61_51 : decode (am_b 61) 51 = .ok (.goto (-26), 3) := by decide +kernel
theorem d_61_54 : decode (am_b 61) 54 = .ok (.iinc 3 1, 3) := by decide +kernel
theorem d_61_57 : decode (am_b 61) 57 = .ok (.goto (-43), 3) := by decide +kernel
theorem d_61_60 : decode (am_b 61) 60 = .ok (.iinc 2 1, 3) := by decide +kernel
theorem d_61_63 : decode (am_b 61) 63 = .ok (.goto (-59), 3) := by decide +kernel
theorem d_61_66 : decode (am_b 61) 66 = .ok (.iload_n 1, 1) := by decide +kernel
theorem d_61_67 : decode (am_b 61) 67 = .ok (.ireturn, 1) := by decide +kernel
theorem d_62_0 : decode (am_b 62) 0 = .ok (.iconst 0, 1) := by decide +kernel
theorem d_62_1 : decode (am_b 62) 1 = .ok (.istore_n 1, 1) := by decide +kernel
theorem d_62_2 : decode (am_b 62) 2 = .ok (.iconst 0, 1) := by decide +kernel
theorem d_62_3 : decode (am_b 62) 3 = .ok (.istore_n 2, 1) := by decide +kernel
theorem d_62_4 : decode (am_b 62) 4 = .ok (.iload_n 2, 1) := by decide +kernel
theorem d_62_5 : decode (am_b 62) 5 = .ok (.aload_n 0, 1) := by decide +kernel
theorem d_62_6 : decode (am_b 62) 6 = .ok (.getfield 21, 3) := by decide +kernel
theorem d_62_9 : decode (am_b 62) 9 = .ok (.if_icmp .ge 43, 3) := by decide +kernel
theorem d_62_12 : decode (am_b 62) 12 = .ok (.iconst 0, 1) := by decide +kernel
theorem d_62_13 : decode (am_b 62) 13 = .ok (.istore_n 3, 1) := by decide +kernel
theorem d_62_14 : decode (am_b 62) 14 = .ok (.iload_n 3, 1) := by decide +kernel
theorem d_62_15 : decode (am_b 62) 15 = .ok (.aload_n 0, 1) := by decide +kernel
theorem d_62_16 : decode (am_b 62) 16 = .ok (.getfield 21, 3) := by decide +kernel
theorem d_62_19 : decode (am_b 62) 19 = .ok (.if_icmp .ge 27, 3) := by decide +kernel
theorem d_62_22 : decode (am_b 62) 22 = .ok (.aload_n 0, 1) := by decide +kernel
theorem d_62_23 : decode (am_b 62) 23 = .ok (.iload_n 2, 1) := by decide +kernel
theorem d_62_24 : decode (am_b 62) 24 = .ok (.iload_n 3, 1) := by decide +kernel
theorem d_62_25 : decode (am_b 62) 25 = .ok (.invokevirtual 29, 3) := by decide +kernel
theorem d_62_28 : decode (am_b 62) 28 = .ok (.aload_n 0, 1) := by decide +kernel
theorem d_62_29 : decode (am_b 62) 29 = .ok (.iload_n 3, 1) := by decide +kernel
theorem d_62_30 : decode (am_b 62) 30 = .ok (.iload_n 2, 1) := by decide +kernel
theorem d_62_31 : decode (am_b 62) 31 = .ok (.invokevirtual 29, 3) := by decide +kernel
theorem d_62_34 : decode (am_b 62) 34 = .ok (.if_icmp .ne 6, 3) := by decide +kernel
theorem d_62_37 : decode (am_b 62) 37 = .ok (.iinc 1 1, 3) := by decide +kernel
theorem d_62_40 : decode (am_b 62) 40 = .ok (.iinc 3 1, 3) := by decide +kernel
theorem d_62_43 : decode (am_b 62) 43 = .ok (.goto (-29), 3) := by decide +kernel
theorem d_62_46 : decode (am_b 62) 46 = .ok (.iinc 2 1, 3) := by decide +kernel
theorem d_62_49 : decode (am_b 62) 49 = .ok (.goto (-45), 3) := by decide +kernel
theorem d_62_52 : decode (am_b 62) 52 = .ok (.iload_n 1, 1) := by decide +kernel
theorem d_62_53 : decode (am_b 62) 53 = .ok (.ireturn, 1) := by decide +kernel
theorem d_63_0 : decode (am_b 63) 0 = .ok (.iload_n 1, 1) := by decide +kernel
theorem d_63_1 : decode (am_b 63) 1 = .ok (.istore_n 2, 1) := by decide +kernel
theorem d_63_2 : decode (am_b 63) 2 = .ok (.iconst 0, 1) := by decide +kernel
theorem d_63_3 : decode (am_b 63) 3 = .ok (.istore_n 3, 1) := by decide +kernel
theorem d_63_4 : decode (am_b 63) 4 = .ok (.iload_n 3, 1) := by decide +kernel
theorem d_63_5 : decode (am_b 63) 5 = .ok (.aload_n 0, 1) := by decide +kernel
theorem d_63_6 : decode (am_b 63) 6 = .ok (.getfield 21, 3) := by decide +kernel
theorem d_63_9 : decode (am_b 63) 9 = .ok (.if_icmp .ge 15, 3) := by decide +kernel
theorem d_63_12 : decode (am_b 63) 12 = .ok (.aload_n 0, 1) := by decide +kernel
theorem d_63_13 : decode (am_b 63) 13 = .ok (.iload_n 2, 1) := by decide +kernel
theorem d_63_14 : decode (am_b 63) 14 = .ok (.invokestatic 15, 3) := by decide +kernel
theorem d_63_17 : decode (am_b 63) 17 = .ok (.istore_n 2, 1) := by decide +kernel
theorem d_63_18 : decode (am_b 63) 18 = .ok (.iinc 3 1, 3) := by decide +kernel
theorem d_63_21 : decode (am_b 63) 21 = .ok (.goto (-17), 3) := by decide +kernel
theorem d_63_24 : decode (am_b 63) 24 = .ok (.iload_n 2, 1) := by decide +kernel
theorem d_63_25 : decode (am_b 63) 25 = .ok (.ireturn, 1) := by decide +kernel
theorem d_64_0 : decode (am_b 64) 0 = .ok (.iconst 0, 1) := by decide +kernel
theorem d_64_1 : decode (am_b 64) 1 = .ok (.istore_n 2, 1) := by decide +kernel
theorem d_64_2 : decode (am_b 64) 2 = .ok (.iconst 1, 1) := by decide +kernel
theorem d_64_3 : decode (am_b 64) 3 = .ok (.istore_n 3, 1) := by decide +kernel
theorem d_64_4 : decode (am_b 64) 4 = .ok (.iload_n 3, 1) := by decide +kernel
theorem d_64_5 : decode (am_b 64) 5 = .ok (.iconst 1, 1) := by decide +kernel
theorem d_64_6 : decode (am_b 64) 6 = .ok (.aload_n 0, 1) := by decide +kernel
theorem d_64_7 : decode (am_b 64) 7 = .ok (.getfield 21, 3) := by decide +kernel
theorem d_64_10 : decode (am_b 64) 10 = .ok (.ishl, 1) := by decide +kernel
theorem d_64_11 : decode (am_b 64) 11 = .ok (.if_icmp .ge 35, 3) := by decide +kernel
theorem d_64_14 : decode (am_b 64) 14 = .ok (.iload_n 1, 1) := by decide +kernel
theorem d_64_15 : decode (am_b 64) 15 = .ok (.ifCond .eq 14, 3) := by decide +kernel
theorem d_64_18 : decode (am_b 64) 18 = .ok (.aload_n 0, 1) := by decide +kernel
theorem d_64_19 : decode (am_b 64) 19 = .ok (.iload_n 3, 1) := by decide +kernel
theorem d_64_20 : decode (am_b 64) 20 = .ok (.invokestatic 63, 3) := by decide +kernel
theorem d_64_23 : decode (am_b 64) 23 = .ok (.ifCond .eq 17, 3) := by decide +kernel
theorem d_64_26 : decode (am_b 64) 26 = .ok (.goto 11, 3) := by decide +kernel
theorem d_64_29 : decode (am_b 64) 29 = .ok (.aload_n 0, 1) := by decide +kernel
theorem d_64_30 : decode (am_b 64) 30 = .ok (.iload_n 3, 1) := by decide +kernel
theorem d_64_31 : decode (am_b 64) 31 = .ok (.invokestatic 33, 3) := by decide +kernel
theorem d_64_34 : decode (am_b 64) 34 = .ok (.ifCond .eq 6, 3) := by decide +kernel
theorem d_64_37 : decode (am_b 64) 37 = .ok (.iinc 2 1, 3) := by decide +kernel
theorem d_64_40 : decode (am_b 64) 40 = .ok (.iinc 3 1, 3) := by decide +kernel
theorem d_64_43 : decode (am_b 64) 43 = .ok (.goto (-39), 3) := by decide +kernel
theorem d_64_46 : decode (am_b 64) 46 = .ok (.iload_n 2, 1) := by decide +kernel
theorem d_64_47 : decode (am_b 64) 47 = .ok (.ireturn, 1) := by decide +kernel
theorem d_65_0 : decode (am_b 65) 0 = .ok (.iconst 1, 1) := by decide +kernel
theorem d_65_1 : decode (am_b 65) 1 = .ok (.aload_n 0, 1) := by decide +kernel
theorem d_65_2 : decode (am_b 65) 2 = .ok (.getfield 21, 3) := by decide +kernel
theorem d_65_5 : decode (am_b 65) 5 = .ok (.ishl, 1) := by decide +kernel
theorem d_65_6 : decode (am_b 65) 6 = .ok (.iconst 1, 1) := by decide +kernel
theorem d_65_7 : decode (am_b 65) 7 = .ok (.isub, 1) := by decide +kernel
theorem d_65_8 : decode (am_b 65) 8 = .ok (.istore_n 1, 1) := by decide +kernel
theorem d_65_9 : decode (am_b 65) 9 = .ok (.iload_n 1, 1) := by decide +kernel
theorem d_65_10 : decode (am_b 65) 10 = .ok (.istore_n 2, 1) := by decide +kernel
theorem d_65_11 : decode (am_b 65) 11 = .ok (.iconst 1, 1) := by decide +kernel
theorem d_65_12 : decode (am_b 65) 12 = .ok (.istore_n 3, 1) := by decide +kernel
theorem d_65_13 : decode (am_b 65) 13 = .ok (.iload_n 3, 1) := by decide +kernel
theorem d_65_14 : decode (am_b 65) 14 = .ok (.iload_n 1, 1) := by decide +kernel
theorem d_65_15 : decode (am_b 65) 15 = .ok (.if_icmp .ge 43, 3) := by decide +kernel
theorem d_65_18 : decode (am_b 65) 18 = .ok (.iload_n 3, 1) := by decide +kernel
theorem d_65_19 : decode (am_b 65) 19 = .ok (.invokestatic 52, 3) := by decide +kernel
theorem d_65_22 : decode (am_b 65) 22 = .ok (.iload_n 2, 1) := by decide +kernel
theorem d_65_23 : decode (am_b 65) 23 = .ok (.invokestatic 52, 3) := by decide +kernel
theorem d_65_26 : decode (am_b 65) 26 = .ok (.if_icmp .ge 7, 3) := by decide +kernel
theorem d_65_29 : decode (am_b 65) 29 = .ok (.iconst 1, 1) := by decide +kernel
theorem d_65_30 : decode (am_b 65) 30 = .ok (.goto 4, 3) := by decide +kernel
theorem d_65_33 : decode (am_b 65) 33 = .ok (.iconst 0, 1) := by decide +kernel
theorem d_65_34 : decode (am_b 65) 34 = .ok (.istore 4, 2) := by decide +kernel
theorem d_65_36 : decode (am_b 65) 36 = .ok (.iload 4, 2) := by decide +kernel
theorem d_65_38 : decode (am_b 65) 38 = .ok (.ifCond .eq 14, 3) := by decide +kernel
theorem d_65_41 : decode (am_b 65) 41 = .ok (.aload_n 0, 1) := by decide +kernel
theorem d_65_42 : decode (am_b 65) 42 = .ok (.iload_n 3, 1) := by decide +kernel
theorem d_65_43 : decode (am_b 65) 43 = .ok (.invokestatic 66, 3) := by decide +kernel
theorem d_65_46 : decode (am_b 65) 46 = .ok (.iload_n 1, 1) := by decide +kernel
theorem d_65_47 : decode (am_b 65) 47 = .ok (.if_icmp .ne 5, 3) := by decide +kernel
theorem d_65_50 : decode (am_b 65) 50 = .ok (.iload_n 3, 1) := by decide +kernel
theorem d_65_51 : decode (am_b 65) 51 = .ok (.istore_n 2, 1) := by decide +kernel
theorem d_65_52 : decode (am_b 65) 52 = .ok (.iinc 3 1, 3) := by decide +kernel
theorem d_65_55 : decode (am_b 65) 55 = .ok (.goto (-42), 3) := by decide +kernel
theorem d_65_58 : decode (am_b 65) 58 = .ok (.iload_n 2, 1) := by decide +kernel
theorem d_65_59 : decode (am_b 65) 59 = .ok (.ireturn, 1) := by decide +kernel
theorem d_66_0 : decode (am_b 66) 0 = .ok (.aload_n 0, 1) := by decide +kernel
theorem d_66_1 : decode (am_b 66) 1 = .ok (.invokespecial 3, 3) := by decide +kernel
theorem d_66_4 : decode (am_b 66) 4 = .ok (.aload_n 0, 1) := by decide +kernel
theorem d_66_5 : decode (am_b 66) 5 = .ok (.new 9, 3) := by decide +kernel
theorem d_66_8 : decode (am_b 66) 8 = .ok (.dup, 1) := by decide +kernel
theorem d_66_9 : decode (am_b 66) 9 = .ok (.invokespecial 11, 3) := by decide +kernel
theorem d_66_12 : decode (am_b 66) 12 = .ok (.putfield 12, 3) := by decide +kernel
theorem d_66_15 : decode (am_b 66) 15 = .ok (.aload_n 0, 1) := by decide +kernel
theorem d_66_16 : decode (am_b 66) 16 = .ok (.bipush 6, 2) := by decide +kernel
theorem d_66_18 : decode (am_b 66) 18 = .ok (.newarray .int, 2) := by decide +kernel
theorem d_66_20 : decode (am_b 66) 20 = .ok (.putfield 18, 3) := by decide +kernel
theorem d_66_23 : decode (am_b 66) 23 = .ok (.aload_n 0, 1) := by decide +kernel
theorem d_66_24 : decode (am_b 66) 24 = .ok (.bipush 6, 2) := by decide +kernel
theorem d_66_26 : decode (am_b 66) 26 = .ok (.newarray .int, 2) := by decide +kernel
theorem d_66_28 : decode (am_b 66) 28 = .ok (.putfield 22, 3) := by decide +kernel
theorem d_66_31 : decode (am_b 66) 31 = .ok (.aload_n 0, 1) := by decide +kernel
theorem d_66_32 : decode (am_b 66) 32 = .ok (.bipush 6, 2) := by decide +kernel
theorem d_66_34 : decode (am_b 66) 34 = .ok (.newarray .int, 2) := by decide +kernel
theorem d_66_36 : decode (am_b 66) 36 = .ok (.putfield 25, 3) := by decide +kernel
theorem d_66_39 : decode (am_b 66) 39 = .ok (.aload_n 0, 1) := by decide +kernel
theorem d_66_40 : decode (am_b 66) 40 = .ok (.sipush 720, 3) := by decide +kernel
theorem d_66_43 : decode (am_b 66) 43 = .ok (.newarray .int, 2) := by decide +kernel
theorem d_66_45 : decode (am_b 66) 45 = .ok (.putfield 28, 3) := by decide +kernel
theorem d_66_48 : decode (am_b 66) 48 = .ok (.aload_n 0, 1) := by decide +kernel
theorem d_66_49 : decode (am_b 66) 49 = .ok (.sipush 720, 3) := by decide +kernel
theorem d_66_52 : decode (am_b 66) 52 = .ok (.newarray .int, 2) := by decide +kernel
theorem d_66_54 : decode (am_b 66) 54 = .ok (.putfield 31, 3) := by decide +kernel
theorem d_66_57 : decode (am_b 66) 57 = .ok (.return_, 1) := by decide +kernel
theorem d_67_0 : decode (am_b 67) 0 = .ok (.aload_n 2, 1) := by decide +kernel
theorem d_67_1 : decode (am_b 67) 1 = .ok (.getfield 34, 3) := by decide +kernel
theorem d_67_4 : decode (am_b 67) 4 = .ok (.istore 4, 2) := by decide +kernel
theorem d_67_6 : decode (am_b 67) 6 = .ok (.aload_n 0, 1) := by decide +kernel
theorem d_67_7 : decode (am_b 67) 7 = .ok (.iload_n 3, 1) := by decide +kernel
theorem d_67_8 : decode (am_b 67) 8 = .ok (.iload 4, 2) := by decide +kernel
theorem d_67_10 : decode (am_b 67) 10 = .ok (.invokevirtual 38, 3) := by decide +kernel
theorem d_67_13 : decode (am_b 67) 13 = .ok (.aload_n 1, 1) := by decide +kernel
theorem d_67_14 : decode (am_b 67) 14 = .ok (.iload 4, 2) := by decide +kernel
theorem d_67_16 : decode (am_b 67) 16 = .ok (.putfield 34, 3) := by decide +kernel
theorem d_67_19 : decode (am_b 67) 19 = .ok (.iconst 0, 1) := by decide +kernel
theorem d_67_20 : decode (am_b 67) 20 = .ok (.istore 5, 2) := by decide +kernel
theorem d_67_22 : decode (am_b 67) 22 = .ok (.iload 5, 2) := by decide +kernel
theorem d_67_24 : decode (am_b 67) 24 = .ok (.iload 4, 2) := by decide +kernel
theorem d_67_26 : decode (am_b 67) 26 = .ok (.if_icmp .ge 56, 3) := by decide +kernel
theorem d_67_29 : decode (am_b 67) 29 = .ok (.iconst 0, 1) := by decide +kernel
theorem d_67_30 : decode (am_b 67) 30 = .ok (.istore 6, 2) := by decide +kernel
theorem d_67_32 : decode (am_b 67) 32 = .ok (.iload 6, 2) := by decide +kernel
theorem d_67_34 : decode (am_b 67) 34 = .ok (.iload 4, 2) := by decide +kernel
theorem d_67_36 : decode (am_b 67) 36 = .ok (.if_icmp .ge 40, 3) := by decide +kernel
theorem d_67_39 : decode (am_b 67) 39 = .ok (.aload_n 1, 1) := by decide +kernel
theorem d_67_40 : decode (am_b 67) 40 = .ok (.aload_n 0, 1) := by decide +kernel
theorem d_67_41 : decode (am_b 67) 41 = .ok (.getfield 18, 3) := by decide +kernel
theorem d_67_44 : decode (am_b 67) 44 = .ok (.iload 5, 2) := by decide +kernel
theorem d_67_46 : decode (am_b 67) 46 = .ok (.iaload, 1) := by decide +kernel
theorem d_67_47 : decode (am_b 67) 47 = .ok (.aload_n 0, 1) := by decide +kernel
theorem d_67_48 : decode (am_b 67) 48 = .ok (.getfield 18, 3) := by decide +kernel
theorem d_67_51 : decode (am_b 67) 51 = .ok (.iload 6, 2) := by decide +kernel
theorem d_67_53 : decode (am_b 67) 53 = .ok (.iaload, 1) := by decide +kernel
theorem d_67_54 : decode (am_b 67) 54 = .ok (.aload_n 0, 1) := by decide +kernel
theorem d_67_55 : decode (am_b 67) 55 = .ok (.getfield 18, 3) := by decide +kernel
theorem d_67_58 : decode (am_b 67) 58 = .ok (.aload_n 2, 1) := by decide +kernel
theorem d_67_59 : decode (am_b 67) 59 = .ok (.iload 5, 2) := by decide +kernel
theorem d_67_61 : decode (am_b 67) 61 = .ok (.iload 6, 2) := by decide +kernel
theorem d_67_63 : decode (am_b 67) 63 = .ok (.invokevirtual 42, 3) := by decide +kernel
theorem d_67_66 : decode (am_b 67) 66 = .ok (.iaload, 1) := by decide +kernel
theorem d_67_67 : decode (am_b 67) 67 = .ok (.invokevirtual 46, 3) := by decide +kernel
theorem d_67_70 : decode (am_b 67) 70 = .ok (.iinc 6 1, 3) := by decide +kernel
theorem d_67_73 : decode (am_b 67) 73 = .ok (.goto (-41), 3) := by decide +kernel
theorem d_67_76 : decode (am_b 67) 76 = .ok (.iinc 5 1, 3) := by decide +kernel
theorem d_67_79 : decode (am_b 67) 79 = .ok (.goto (-57), 3) := by decide +kernel
theorem d_67_82 : decode (am_b 67) 82 = .ok (.return_, 1) := by decide +kernel
theorem d_68_0 : decode (am_b 68) 0 = .ok (.iload_n 1, 1) := by decide +kernel
theorem d_68_1 : decode (am_b 68) 1 = .ok (.istore_n 3, 1) := by decide +kernel
theorem d_68_2 : decode (am_b 68) 2 = .ok (.iconst 0, 1) := by decide +kernel
theorem d_68_3 : decode (am_b 68) 3 = .ok (.istore 4, 2) := by decide +kernel
theorem d_68_5 : decode (am_b 68) 5 = .ok (.iload 4, 2) := by decide +kernel
theorem d_68_7 : decode (am_b 68) 7 = .ok (.iload_n 2, 1) := by decide +kernel
theorem d_68_8 : decode (am_b 68) 8 = .ok (.if_icmp .ge 41, 3) := by decide +kernel
theorem d_68_11 : decode (am_b 68) 11 = .ok (.aload_n 0, 1) := by decide +kernel
theorem d_68_12 : decode (am_b 68) 12 = .ok (.getfield 18, 3) := by decide +kernel
theorem d_68_15 : decode (am_b 68) 15 = .ok (.iload 4, 2) := by decide +kernel
theorem d_68_17 : decode (am_b 68) 17 = .ok (.iload_n 3, 1) := by decide +kernel
theorem d_68_18 : decode (am_b 68) 18 = .ok (.getstatic 54, 3) := by decide +kernel
theorem d_68_21 : decode (am_b 68) 21 = .ok (.iload_n 2, 1) := by decide +kernel
theorem d_68_22 : decode (am_b 68) 22 = .ok (.iconst 1, 1) := by decide +kernel
theorem d_68_23 : decode (am_b 68) 23 = .ok (.isub, 1) := by decide +kernel
theorem d_68_24 : decode (am_b 68) 24 = .ok (.iload 4, 2) := by decide +kernel
theorem d_68_26 : decode (am_b 68) 26 = .ok (.isub, 1) := by decide +kernel
theorem d_68_27 : decode (am_b 68) 27 = .ok (.iaload, 1) := by decide +kernel
theorem d_68_28 : decode (am_b 68) 28 = .ok (.idiv, 1) := by decide +kernel
theorem d_68_29 : decode (am_b 68) 29 = .ok (.iastore, 1) := by decide +kernel
theorem d_68_30 : decode (am_b 68) 30 = .ok (.iload_n 3, 1) := by decide +kernel
theorem d_68_31 : decode (am_b 68) 31 = .ok (.getstatic 54, 3) := by decide +kernel
theorem d_68_34 : decode (am_b 68) 34 = .ok (.iload_n 2, 1) := by decide +kernel
theorem d_68_35 : decode (am_b 68) 35 = .ok (.iconst 1, 1) := by decide +kernel
theorem d_68_36 : decode (am_b 68) 36 = .ok (.isub, 1) := by decide +kernel
theorem d_68_37 : decode (am_b 68) 37 = .ok (.iload 4, 2) := by decide +kernel
theorem d_68_39 : decode (am_b 68) 39 = .ok (.isub, 1) := by decide +kernel
theorem d_68_40 : decode (am_b 68) 40 = .ok (.iaload, 1) := by decide +kernel
theorem d_68_41 : decode (am_b 68) 41 = .ok (.irem, 1) := by decide +kernel
theorem d_68_42 : decode (am_b 68) 42 = .ok (.istore_n 3, 1) := by decide +kernel
theorem d_68_43 : decode (am_b 68) 43 = .ok (.iinc 4 1, 3) := by decide +kernel
theorem d_68_46 : decode (am_b 68) 46 = .ok (.goto (-41), 3) := by decide +kernel
theorem d_68_49 : decode (am_b 68) 49 = .ok (.iload_n 2, 1) := by decide +kernel
theorem d_68_50 : decode (am_b 68) 50 = .ok (.iconst 2, 1) := by decide +kernel
theorem d_68_51 : decode (am_b 68) 51 = .ok (.isub, 1) := by decide +kernel
theorem d_68_52 : decode (am_b 68) 52 = .ok (.istore 4, 2) := by decide +kernel
theorem d_68_54 : decode (am_b 68) 54 = .ok (.iload 4, 2) := by decide +kernel
theorem d_68_56 : decode (am_b 68) 56 = .ok (.ifCond .lt 55, 3) := by decide +kernel
theorem d_68_59 : decode (am_b 68) 59 = .ok (.iload 4, 2) := by decide +kernel
theorem d_68_61 : decode (am_b 68) 61 = .ok (.iconst 1, 1) := by decide +kernel
theorem d_68_62 : decode (am_b 68) 62 = .ok (.iadd, 1) := by decide +kernel
theorem d_68_63 : decode (am_b 68) 63 = .ok (.istore 5, 2) := by decide +kernel
theorem d_68_65 : decode (am_b 68) 65 = .ok (.iload 5, 2) := by decide +kernel
theorem d_68_67 : decode (am_b 68) 67 = .ok (.iload_n 2, 1) := by decide +kernel
theorem d_68_68 : decode (am_b 68) 68 = .ok (.if_icmp .ge 37, 3) := by decide +kernel
theorem d_68_71 : decode (am_b 68) 71 = .ok (.aload_n 0, 1) := by decide +kernel
theorem d_68_72 : decode (am_b 68) 72 = .ok (.getfield 18, 3) := by decide +kernel
theorem d_68_75 : decode (am_b 68) 75 = .ok (.iload 5, 2) := by decide +kernel
theorem d_68_77 : decode (am_b 68) 77 = .ok (.iaload, 1) := by decide +kernel
theorem d_68_78 : decode (am_b 68) 78 = .ok (.aload_n 0, 1) := by decide +kernel
theorem d_68_79 : decode (am_b 68) 79 = .ok (.getfield 18, 3) := by decide +kernel
theorem d_68_82 : decode (am_b 68) 82 = .ok (.iload 4, 2) := by decide +kernel
theorem d_68_84 : decode (am_b 68) 84 = .ok (.iaload, 1) := by decide +kernel
theorem d_68_85 : decode (am_b 68) 85 = .ok (.if_icmp .lt 14, 3) := by decide +kernel
theorem d_68_88 : decode (am_b 68) 88 = .ok (.aload_n 0, 1) := by decide +kernel
theorem d_68_89 : decode (am_b 68) 89 = .ok (.getfield 18, 3) := by decide +kernel
theorem d_68_92 : decode (am_b 68) 92 = .ok (.iload 5, 2) := by decide +kernel
theorem d_68_94 : decode (am_b 68) 94 = .ok (.dup2, 1) := by decide +kernel
theorem d_68_95 : decode (am_b 68) 95 = .ok (.iaload, 1) := by decide +kernel
theorem d_68_96 : decode (am_b 68) 96 = .ok (.iconst 1, 1) := by decide +kernel
theorem d_68_97 : decode (am_b 68) 97 = .ok (.iadd, 1) := by decide +kernel
theorem d_68_98 : decode (am_b 68) 98 = .ok (.iastore, 1) := by decide +kernel
theorem d_68_99 : decode (am_b 68) 99 = .ok (.iinc 5 1, 3) := by decide +kernel
theorem d_68_102 : decode (am_b 68) 102 = .ok (.goto (-37), 3) := by decide +kernel
theorem d_68_105 : decode (am_b 68) 105 = .ok (.iinc 4 (-1), 3) := by decide +kernel
theorem d_68_108 : decode (am_b 68) 108 = .ok (.goto (-54), 3) := by decide +kernel
theorem d_68_111 : decode (am_b 68) 111 = .ok (.return_, 1) := by decide +kernel
theorem d_69_0 : decode (am_b 69) 0 = .ok (.aload_n 1, 1) := by decide +kernel
theorem d_69_1 : decode (am_b 69) 1 = .ok (.getfield 34, 3) := by decide +kernel
theorem d_69_4 : decode (am_b 69) 4 = .ok (.istore 4, 2) := by decide +kernel
theorem d_69_6 : decode (am_b 69) 6 = .ok (.aload_n 0, 1) := by decide +kernel
theorem d_69_7 : decode (am_b 69) 7 = .ok (.getfield 28, 3) := by decide +kernel
theorem d_69_10 : decode (am_b 69) 10 = .ok (.iconst 0, 1) := by decide +kernel
theorem d_69_11 : decode (am_b 69) 11 = .ok (.invokestatic 98, 3) := by decide +kernel
theorem d_69_14 : decode (am_b 69) 14 = .ok (.aload_n 0, 1) := by decide +kernel
theorem d_69_15 : decode (am_b 69) 15 = .ok (.iconst 0, 1) := by decide +kernel
theorem d_69_16 : decode (am_b 69) 16 = .ok (.putfield 104, 3) := by decide +kernel
theorem d_69_19 : decode (am_b 69) 19 = .ok (.aload_n 0, 1) := by decide +kernel
theorem d_69_20 : decode (am_b 69) 20 = .ok (.getfield 22, 3) := by decide +kernel
theorem d_69_23 : decode (am_b 69) 23 = .ok (.invokestatic 50, 3) := by decide +kernel
theorem d_69_26 : decode (am_b 69) 26 = .ok (.aload_n 0, 1) := by decide +kernel
theorem d_69_27 : decode (am_b 69) 27 = .ok (.iload 4, 2) := by decide +kernel
theorem d_69_29 : decode (am_b 69) 29 = .ok (.invokevirtual 107, 3) := by decide +kernel
theorem d_69_32 : decode (am_b 69) 32 = .ok (.iconst 0, 1) := by decide +kernel
theorem d_69_33 : decode (am_b 69) 33 = .ok (.istore 5, 2) := by decide +kernel
theorem d_69_35 : decode (am_b 69) 35 = .ok (.iload 5, 2) := by decide +kernel
theorem d_69_37 : decode (am_b 69) 37 = .ok (.aload_n 0, 1) := by decide +kernel
theorem d_69_38 : decode (am_b 69) 38 = .ok (.getfield 31, 3) := by decide +kernel
theorem d_69_41 : decode (am_b 69) 41 = .ok (.arraylength, 1) := by decide +kernel
theorem d_69_42 : decode (am_b 69) 42 = .ok (.if_icmp .ge 81, 3) := by decide +kernel
theorem d_69_45 : decode (am_b 69) 45 = .ok (.iload 5, 2) := by decide +kernel
theorem d_69_47 : decode (am_b 69) 47 = .ok (.aload_n 0, 1) := by decide +kernel
theorem d_69_48 : decode (am_b 69) 48 = .ok (.getfield 104, 3) := by decide +kernel
theorem d_69_51 : decode (am_b 69) 51 = .ok (.if_icmp .ge 72, 3) := by decide +kernel
theorem d_69_54 : decode (am_b 69) 54 = .ok (.aload_n 0, 1) := by decide +kernel
theorem d_69_55 : decode (am_b 69) 55 = .ok (.aload_n 0, 1) := by decide +kernel
theorem d_69_56 : decode (am_b 69) 56 = .ok (.getfield 31, 3) := by decide +kernel
theorem d_69_59 : decode (am_b 69) 59 = .ok (.iload 5, 2) := by decide +kernel
theorem d_69_61 : decode (am_b 69) 61 = .ok (.iaload, 1) := by decide +kernel
theorem d_69_62 : decode (am_b 69) 62 = .ok (.iload 4, 2) := by decide +kernel
theorem d_69_64 : decode (am_b 69) 64 = .ok (.invokevirtual 38, 3) := by decide +kernel
theorem d_69_67 : decode (am_b 69) 67 = .ok (.iconst 0, 1) := by decide +kernel
theorem d_69_68 : decode (am_b 69) 68 = .ok (.istore 6, 2) := by decide +kernel
theorem d_69_70 : decode (am_b 69) 70 = .ok (.iload 6, 2) := by decide +kernel
theorem d_69_72 : decode (am_b 69) 72 = .ok (.iload 4, 2) := by decide +kernel
theorem d_69_74 : decode (am_b 69) 74 = .ok (.if_icmp .ge 43, 3) := by decide +kernel
theorem d_69_77 : decode (am_b 69) 77 = .ok (.iload_n 2, 1) := by decide +kernel
theorem d_69_78 : decode (am_b 69) 78 = .ok (.ifCond .eq 16, 3) := by decide +kernel
theorem d_69_81 : decode (am_b 69) 81 = .ok (.aload_n 0, 1) := by decide +kernel
theorem d_69_82 : decode (am_b 69) 82 = .ok (.aload_n 1, 1) := by decide +kernel
theorem d_69_83 : decode (am_b 69) 83 = .ok (.iload 6, 2) := by decide +kernel
theorem d_69_85 : decode (am_b 69) 85 = .ok (.invokevirtual 110, 3) := by decide +kernel
theorem d_69_88 : decode (am_b 69) 88 = .ok (.aload_n 0, 1) := by decide +kernel
theorem d_69_89 : decode (am_b 69) 89 = .ok (.iload 4, 2) := by decide +kernel
theorem d_69_91 : decode (am_b 69) 91 = .ok (.invokevirtual 107, 3) := by decide +kernel
theorem d_69_94 : decode (am_b 69) 94 = .ok (.iload_n 3, 1) := by decide +kernel
theorem d_69_95 : decode (am_b 69) 95 = .ok (.ifCond .eq 16, 3) := by decide +kernel
theorem d_69_98 : decode (am_b 69) 98 = .ok (.aload_n 0, 1) := by decide +kernel
theorem d_69_99 : decode (am_b 69) 99 = .ok (.aload_n 1, 1) := by decide +kernel
theorem d_69_100 : decode (am_b 69) 100 = .ok (.iload 6, 2) := by decide +kernel
theorem d_69_102 : decode (am_b 69) 102 = .ok (.invokevirtual 114, 3) := by decide +kernel
theorem d_69_105 : decode (am_b 69) 105 = .ok (.aload_n 0, 1) := by decide +kernel
theorem d_69_106 : decode (am_b 69) 106 = .ok (.iload 4, 2) := by decide +kernel
theorem d_69_108 : decode (am_b 69) 108 = .ok (.invokevirtual 107, 3) := by decide +kernel
theorem d_69_111 : decode (am_b 69) 111 = .ok (.iinc 6 1, 3) := by decide +kernel
theorem d_69_114 : decode (am_b 69) 114 = .ok (.goto (-44), 3) := by decide +kernel
theorem d_69_117 : decode (am_b 69) 117 = .ok (.iinc 5 1, 3) := by decide +kernel
theorem d_69_120 : decode (am_b 69) 120 = .ok (.goto (-85), 3) := by decide +kernel
theorem d_69_123 : decode (am_b 69) 123 = .ok (.aload_n 0, 1) := by decide +kernel
theorem d_69_124 : decode (am_b 69) 124 = .ok (.getfield 104, 3) := by decide +kernel
theorem d_69_127 : decode (am_b 69) 127 = .ok (.ireturn, 1) := by decide +kernel
theorem d_70_0 : decode (am_b 70) 0 = .ok (.aload_n 0, 1) := by decide +kernel
theorem d_70_1 : decode (am_b 70) 1 = .ok (.iload_n 1, 1) := by decide +kernel
theorem d_70_2 : decode (am_b 70) 2 = .ok (.invokevirtual 117, 3) := by decide +kernel
theorem d_70_5 : decode (am_b 70) 5 = .ok (.istore_n 2, 1) := by decide +kernel
theorem d_70_6 : decode (am_b 70) 6 = .ok (.aload_n 0, 1) := by decide +kernel
theorem d_70_7 : decode (am_b 70) 7 = .ok (.getfield 28, 3) := by decide +kernel
theorem d_70_10 : decode (am_b 70) 10 = .ok (.iload_n 2, 1) := by decide +kernel
theorem d_70_11 : decode (am_b 70) 11 = .ok (.iaload, 1) := by decide +kernel
theorem d_70_12 : decode (am_b 70) 12 = .ok (.ifCond .ne 42, 3) := by decide +kernel
theorem d_70_15 : decode (am_b 70) 15 = .ok (.aload_n 0, 1) := by decide +kernel
theorem d_70_16 : decode (am_b 70) 16 = .ok (.getfield 104, 3) := by decide +kernel
theorem d_70_19 : decode (am_b 70) 19 = .ok (.aload_n 0, 1) := by decide +kernel
theorem d_70_20 : decode (am_b 70) 20 = .ok (.getfield 31, 3) := by decide +kernel
theorem d_70_23 : decode (am_b 70) 23 = .ok (.arraylength, 1) := by decide +kernel
theorem d_70_24 : decode (am_b 70) 24 = .ok (.if_icmp .ge 30, 3) := by decide +kernel
theorem d_70_27 : decode (am_b 70) 27 = .ok (.aload_n 0, 1) := by decide +kernel
theorem d_70_28 : decode (am_b 70) 28 = .ok (.getfield 28, 3) := by decide +kernel
theorem d_70_31 : decode (am_b 70) 31 = .ok (.iload_n 2, 1) := by decide +kernel
theorem d_70_32 : decode (am_b 70) 32 = .ok (.iconst 1, 1) := by decide +kernel
theorem d_70_33 : decode (am_b 70) 33 = .ok (.iastore, 1) := by decide +kernel
theorem d_70_34 : decode (am_b 70) 34 = .ok (.aload_n 0, 1) := by decide +kernel
theorem d_70_35 : decode (am_b 70) 35 = .ok (.getfield 31, 3) := by decide +kernel
theorem d_70_38 : decode (am_b 70) 38 = .ok (.aload_n 0, 1) := by decide +kernel
theorem d_70_39 : decode (am_b 70) 39 = .ok (.getfield 104, 3) := by decide +kernel
theorem d_70_42 : decode (am_b 70) 42 = .ok (.iload_n 2, 1) := by decide +kernel
theorem d_70_43 : decode (am_b 70) 43 = .ok (.iastore, 1) := by decide +kernel
theorem d_70_44 : decode (am_b 70) 44 = .ok (.aload_n 0, 1) := by decide +kernel
theorem d_70_45 : decode (am_b 70) 45 = .ok (.dup, 1) := by decide +kernel
theorem d_70_46 : decode (am_b 70) 46 = .ok (.getfield 104, 3) := by decide +kernel
theorem d_70_49 : decode (am_b 70) 49 = .ok (.iconst 1, 1) := by decide +kernel
theorem d_70_50 : decode (am_b 70) 50 = .ok (.iadd, 1) := by decide +kernel
theorem d_70_51 : decode (am_b 70) 51 = .ok (.putfield 104, 3) := by decide +kernel
theorem d_70_54 : decode (am_b 70) 54 = .ok (.return_, 1) := by decide +kernel
theorem d_71_0 : decode (am_b 71) 0 = .ok (.iconst 0, 1) := by decide +kernel
theorem d_71_1 : decode (am_b 71) 1 = .ok (.istore_n 2, 1) := by decide +kernel
theorem d_71_2 : decode (am_b 71) 2 = .ok (.iconst 0, 1) := by decide +kernel
theorem d_71_3 : decode (am_b 71) 3 = .ok (.istore_n 3, 1) := by decide +kernel
theorem d_71_4 : decode (am_b 71) 4 = .ok (.iconst 0, 1) := by decide +kernel
theorem d_71_5 : decode (am_b 71) 5 = .ok (.istore 4, 2) := by decide +kernel
theorem d_71_7 : decode (am_b 71) 7 = .ok (.iload 4, 2) := by decide +kernel
theorem d_71_9 : decode (am_b 71) 9 = .ok (.iload_n 1, 1) := by decide +kernel
theorem d_71_10 : decode (am_b 71) 10 = .ok (.if_icmp .ge 60, 3) := by decide +kernel
theorem d_71_13 : decode (am_b 71) 13 = .ok (.iconst 1, 1) := by decide +kernel
theorem d_71_14 : decode (am_b 71) 14 = .ok (.aload_n 0, 1) := by decide +kernel
theorem d_71_15 : decode (am_b 71) 15 = .ok (.getfield 22, 3) := by decide +kernel
theorem d_71_18 : decode (am_b 71) 18 = .ok (.iload 4, 2) := by decide +kernel
theorem d_71_20 : decode (am_b 71) 20 = .ok (.iaload, 1) := by decide +kernel
theorem d_71_21 : decode (am_b 71) 21 = .ok (.ishl, 1) := by decide +kernel
theorem d_71_22 : decode (am_b 71) 22 = .ok (.istore 5, 2) := by decide +kernel
theorem d_71_24 : decode (am_b 71) 24 = .ok (.aload_n 0, 1) := by decide +kernel
theorem d_71_25 : decode (am_b 71) 25 = .ok (.getfield 22, 3) := by decide +kernel
theorem d_71_28 : decode (am_b 71) 28 = .ok (.iload 4, 2) := by decide +kernel
theorem d_71_30 : decode (am_b 71) 30 = .ok (.iaload, 1) := by decide +kernel
theorem d_71_31 : decode (am_b 71) 31 = .ok (.iload_n 3, 1) := by decide +kernel
theorem d_71_32 : decode (am_b 71) 32 = .ok (.iload 5, 2) := by decide +kernel
theorem d_71_34 : decode (am_b 71) 34 = .ok (.iconst 1, 1) := by decide +kernel
theorem d_71_35 : decode (am_b 71) 35 = .ok (.isub, 1) := by decide +kernel
theorem d_71_36 : decode (am_b 71) 36 = .ok (.iand, 1) := by decide +kernel
theorem d_71_37 : decode (am_b 71) 37 = .ok (.invokestatic 121, 3) := by decide +kernel
theorem d_71_40 : decode (am_b 71) 40 = .ok (.isub, 1) := by decide +kernel
theorem d_71_41 : decode (am_b 71) 41 = .ok (.istore 6, 2) := by decide +kernel
theorem d_71_43 : decode (am_b 71) 43 = .ok (.iload_n 2, 1) := by decide +kernel
theorem d_71_44 : decode (am_b 71) 44 = .ok (.iload 6, 2) := by decide +kernel
theorem d_71_46 : decode (am_b 71) 46 = .ok (.getstatic 54, 3) := by decide +kernel
theorem d_71_49 : decode (am_b 71) 49 = .ok (.iload_n 1, 1) := by decide +kernel
theorem d_71_50 : decode (am_b 71) 50 = .ok (.iconst 1, 1) := by decide +kernel
theorem d_71_51 : decode (am_b 71) 51 = .ok (.isub, 1) := by decide +kernel
theorem d_71_52 : decode (am_b 71) 52 = .ok (.iload 4, 2) := by decide +kernel
theorem d_71_54 : decode (am_b 71) 54 = .ok (.isub, 1) := by decide +kernel
theorem d_71_55 : decode (am_b 71) 55 = .ok (.iaload, 1) := by decide +kernel
theorem d_71_56 : decode (am_b 71) 56 = .ok (.imul, 1) := by decide +kernel
theorem d_71_57 : decode (am_b 71) 57 = .ok (.iadd, 1) := by decide +kernel
theorem d_71_58 : decode (am_b 71) 58 = .ok (.istore_n 2, 1) := by decide +kernel
theorem d_71_59 : decode (am_b 71) 59 = .ok (.iload_n 3, 1) := by decide +kernel
theorem d_71_60 : decode (am_b 71) 60 = .ok (.iload 5, 2) := by decide +kernel
theorem d_71_62 : decode (am_b 71) 62 = .ok (.ior, 1) := by decide +kernel
theorem d_71_63 : decode (am_b 71) 63 = .ok (.istore_n 3, 1) := by decide +kernel
theorem d_71_64 : decode (am_b 71) 64 = .ok (.iinc 4 1, 3) := by decide +kernel
theorem d_71_67 : decode (am_b 71) 67 = .ok (.goto (-60), 3) := by decide +kernel
theorem d_71_70 : decode (am_b 71) 70 = .ok (.iload_n 2, 1) := by decide +kernel
theorem d_71_71 : decode (am_b 71) 71 = .ok (.ireturn, 1) := by decide +kernel
theorem d_72_0 : decode (am_b 72) 0 = .ok (.iconst 0, 1) := by decide +kernel
theorem d_72_1 : decode (am_b 72) 1 = .ok (.istore_n 3, 1) := by decide +kernel
theorem d_72_2 : decode (am_b 72) 2 = .ok (.iload_n 3, 1) := by decide +kernel
theorem d_72_3 : decode (am_b 72) 3 = .ok (.aload_n 1, 1) := by decide +kernel
theorem d_72_4 : decode (am_b 72) 4 = .ok (.getfield 34, 3) := by decide +kernel
theorem d_72_7 : decode (am_b 72) 7 = .ok (.if_icmp .ge 26, 3) := by decide +kernel
theorem d_72_10 : decode (am_b 72) 10 = .ok (.aload_n 0, 1) := by decide +kernel
theorem d_72_11 : decode (am_b 72) 11 = .ok (.getfield 22, 3) := by decide +kernel
theorem d_72_14 : decode (am_b 72) 14 = .ok (.iload_n 3, 1) := by decide +kernel
theorem d_72_15 : decode (am_b 72) 15 = .ok (.aload_n 1, 1) := by decide +kernel
theorem d_72_16 : decode (am_b 72) 16 = .ok (.iload_n 2, 1) := by decide +kernel
theorem d_72_17 : decode (am_b 72) 17 = .ok (.aload_n 0, 1) := by decide +kernel
theorem d_72_18 : decode (am_b 72) 18 = .ok (.getfield 18, 3) := by decide +kernel
theorem d_72_21 : decode (am_b 72) 21 = .ok (.iload_n 3, 1) := by decide +kernel
theorem d_72_22 : decode (am_b 72) 22 = .ok (.iaload, 1) := by decide +kernel
theorem d_72_23 : decode (am_b 72) 23 = .ok (.invokevirtual 42, 3) := by decide +kernel
theorem d_72_26 : decode (am_b 72) 26 = .ok (.iastore, 1) := by decide +kernel
theorem d_72_27 : decode (am_b 72) 27 = .ok (.iinc 3 1, 3) := by decide +kernel
theorem d_72_30 : decode (am_b 72) 30 = .ok (.goto (-28), 3) := by decide +kernel
theorem d_72_33 : decode (am_b 72) 33 = .ok (.return_, 1) := by decide +kernel
theorem d_73_0 : decode (am_b 73) 0 = .ok (.iconst 0, 1) := by decide +kernel
theorem d_73_1 : decode (am_b 73) 1 = .ok (.istore_n 3, 1) := by decide +kernel
theorem d_73_2 : decode (am_b 73) 2 = .ok (.iload_n 3, 1) := by decide +kernel
theorem d_73_3 : decode (am_b 73) 3 = .ok (.aload_n 1, 1) := by decide +kernel
theorem d_73_4 : decode (am_b 73) 4 = .ok (.getfield 34, 3) := by decide +kernel
theorem d_73_7 : decode (am_b 73) 7 = .ok (.if_icmp .ge 26, 3) := by decide +kernel
theorem d_73_10 : decode (am_b 73) 10 = .ok (.aload_n 0, 1) := by decide +kernel
theorem d_73_11 : decode (am_b 73) 11 = .ok (.getfield 22, 3) := by decide +kernel
theorem d_73_14 : decode (am_b 73) 14 = .ok (.iload_n 3, 1) := by decide +kernel
theorem d_73_15 : decode (am_b 73) 15 = .ok (.aload_n 1, 1) := by decide +kernel
theorem d_73_16 : decode (am_b 73) 16 = .ok (.aload_n 0, 1) := by decide +kernel
theorem d_73_17 : decode (am_b 73) 17 = .ok (.getfield 18, 3) := by decide +kernel
theorem d_73_20 : decode (am_b 73) 20 = .ok (.iload_n 3, 1) := by decide +kernel
theorem d_73_21 : decode (am_b 73) 21 = .ok (.iaload, 1) := by decide +kernel
theorem d_73_22 : decode (am_b 73) 22 = .ok (.iload_n 2, 1) := by decide +kernel
theorem d_73_23 : decode (am_b 73) 23 = .ok (.invokevirtual 42, 3) := by decide +kernel
theorem d_73_26 : decode (am_b 73) 26 = .ok (.iastore, 1) := by decide +kernel
theorem d_73_27 : decode (am_b 73) 27 = .ok (.iinc 3 1, 3) := by decide +kernel
theorem d_73_30 : decode (am_b 73) 30 = .ok (.goto (-28), 3) := by decide +kernel
theorem d_73_33 : decode (am_b 73) 33 = .ok (.return_, 1) := by decide +kernel
theorem d_74_0 : decode (am_b 74) 0 = .ok (.iconst 0, 1) := by decide +kernel
theorem d_74_1 : decode (am_b 74) 1 = .ok (.istore_n 2, 1) := by decide +kernel
theorem d_74_2 : decode (am_b 74) 2 = .ok (.aload_n 0, 1) := by decide +kernel
theorem d_74_3 : decode (am_b 74) 3 = .ok (.getfield 18, 3) := by decide +kernel
theorem d_74_6 : decode (am_b 74) 6 = .ok (.invokestatic 50, 3) := by decide +kernel
theorem d_74_9 : decode (am_b 74) 9 = .ok (.iconst 0, 1) := by decide +kernel
theorem d_74_10 : decode (am_b 74) 10 = .ok (.istore_n 3, 1) := by decide +kernel
theorem d_74_11 : decode (am_b 74) 11 = .ok (.iload_n 3, 1) := by decide +kernel
theorem d_74_12 : decode (am_b 74) 12 = .ok (.getstatic 54, 3) := by decide +kernel
theorem d_74_15 : decode (am_b 74) 15 = .ok (.aload_n 1, 1) := by decide +kernel
theorem d_74_16 : decode (am_b 74) 16 = .ok (.getfield 34, 3) := by decide +kernel
theorem d_74_19 : decode (am_b 74) 19 = .ok (.iaload, 1) := by decide +kernel
theorem d_74_20 : decode (am_b 74) 20 = .ok (.if_icmp .ge 34, 3) := by decide +kernel
theorem d_74_23 : decode (am_b 74) 23 = .ok (.aload_n 0, 1) := by decide +kernel
theorem d_74_24 : decode (am_b 74) 24 = .ok (.aload_n 1, 1) := by decide +kernel
theorem d_74_25 : decode (am_b 74) 25 = .ok (.aload_n 1, 1) := by decide +kernel
theorem d_74_26 : decode (am_b 74) 26 = .ok (.iconst 0, 1) := by decide +kernel
theorem d_74_27 : decode (am_b 74) 27 = .ok (.invokevirtual 57, 3) := by decide +kernel
theorem d_74_30 : decode (am_b 74) 30 = .ok (.ifCond .ne 6, 3) := by decide +kernel
theorem d_74_33 : decode (am_b 74) 33 = .ok (.iinc 2 1, 3) := by decide +kernel
theorem d_74_36 : decode (am_b 74) 36 = .ok (.aload_n 0, 1) := by decide +kernel
theorem d_74_37 : decode (am_b 74) 37 = .ok (.getfield 18, 3) := by decide +kernel
theorem d_74_40 : decode (am_b 74) 40 = .ok (.iconst 0, 1) := by decide +kernel
theorem d_74_41 : decode (am_b 74) 41 = .ok (.aload_n 1, 1) := by decide +kernel
theorem d_74_42 : decode (am_b 74) 42 = .ok (.getfield 34, 3) := by decide +kernel
theorem d_74_45 : decode (am_b 74) 45 = .ok (.invokestatic 61, 3) := by decide +kernel
theorem d_74_48 : decode (am_b 74) 48 = .ok (.iinc 3 1, 3) := by decide +kernel
theorem d_74_51 : decode (am_b 74) 51 = .ok (.goto (-40), 3) := by decide +kernel
theorem d_74_54 : decode (am_b 74) 54 = .ok (.iload_n 2, 1) := by decide +kernel
theorem d_74_55 : decode (am_b 74) 55 = .ok (.ireturn, 1) := by decide +kernel
theorem d_75_0 : decode (am_b 75) 0 = .ok (.iconst 0, 1) := by decide +kernel
theorem d_75_1 : decode (am_b 75) 1 = .ok (.istore 4, 2) := by decide +kernel
theorem d_75_3 : decode (am_b 75) 3 = .ok (.iconst 0, 1) := by decide +kernel
theorem d_75_4 : decode (am_b 75) 4 = .ok (.istore 5, 2) := by decide +kernel
theorem d_75_6 : decode (am_b 75) 6 = .ok (.iload 5, 2) := by decide +kernel
theorem d_75_8 : decode (am_b 75) 8 = .ok (.aload_n 1, 1) := by decide +kernel
theorem d_75_9 : decode (am_b 75) 9 = .ok (.getfield 34, 3) := by decide +kernel
theorem d_75_12 : decode (am_b 75) 12 = .ok (.if_icmp .ge 76, 3) := by decide +kernel
theorem d_75_15 : decode (am_b 75) 15 = .ok (.iload 4, 2) := by decide +kernel
theorem d_75_17 : decode (am_b 75) 17 = .ok (.iload_n 3, 1) := by decide +kernel
theorem d_75_18 : decode (am_b 75) 18 = .ok (.if_icmp .gt 70, 3) := by decide +kernel
theorem d_75_21 : decode (am_b 75) 21 = .ok (.iconst 0, 1) := by decide +kernel
theorem d_75_22 : decode (am_b 75) 22 = .ok (.istore 6, 2) := by decide +kernel
theorem d_75_24 : decode (am_b 75) 24 = .ok (.iload 6, 2) := by decide +kernel
theorem d_75_26 : decode (am_b 75) 26 = .ok (.aload_n 1, 1) := by decide +kernel
theorem d_75_27 : decode (am_b 75) 27 = .ok (.getfield 34, 3) := by decide +kernel
theorem d_75_30 : decode (am_b 75) 30 = .ok (.if_icmp .ge 52, 3) := by decide +kernel
theorem d_75_33 : decode (am_b 75) 33 = .ok (.iload 4, 2) := by decide +kernel
theorem d_75_35 : decode (am_b 75) 35 = .ok (.iload_n 3, 1) := by decide +kernel
theorem d_75_36 : decode (am_b 75) 36 = .ok (.if_icmp .gt 46, 3) := by decide +kernel
theorem d_75_39 : decode (am_b 75) 39 = .ok (.aload_n 0, 1) := by decide +kernel
theorem d_75_40 : decode (am_b 75) 40 = .ok (.getfield 18, 3) := by decide +kernel
theorem d_75_43 : decode (am_b 75) 43 = .ok (.aload_n 1, 1) := by decide +kernel
theorem d_75_44 : decode (am_b 75) 44 = .ok (.iload 5, 2) := by decide +kernel
theorem d_75_46 : decode (am_b 75) 46 = .ok (.iload 6, 2) := by decide +kernel
theorem d_75_48 : decode (am_b 75) 48 = .ok (.invokevirtual 42, 3) := by decide +kernel
theorem d_75_51 : decode (am_b 75) 51 = .ok (.iaload, 1) := by decide +kernel
theorem d_75_52 : decode (am_b 75) 52 = .ok (.aload_n 2, 1) := by decide +kernel
theorem d_75_53 : decode (am_b 75) 53 = .ok (.aload_n 0, 1) := by decide +kernel
theorem d_75_54 : decode (am_b 75) 54 = .ok (.getfield 18, 3) := by decide +kernel
theorem d_75_57 : decode (am_b 75) 57 = .ok (.iload 5, 2) := by decide +kernel
theorem d_75_59 : decode (am_b 75) 59 = .ok (.iaload, 1) := by decide +kernel
theorem d_75_60 : decode (am_b 75) 60 = .ok (.aload_n 0, 1) := by decide +kernel
theorem d_75_61 : decode (am_b 75) 61 = .ok (.getfield 18, 3) := by decide +kernel
theorem d_75_64 : decode (am_b 75) 64 = .ok (.iload 6, 2) := by decide +kernel
theorem d_75_66 : decode (am_b 75) 66 = .ok (.iaload, 1) := by decide +kernel
theorem d_75_67 : decode (am_b 75) 67 = .ok (.invokevirtual 42, 3) := by decide +kernel
theorem d_75_70 : decode (am_b 75) 70 = .ok (.if_icmp .eq 6, 3) := by decide +kernel
theorem d_75_73 : decode (am_b 75) 73 = .ok (.iinc 4 1, 3) := by decide +kernel
theorem d_75_76 : decode (am_b 75) 76 = .ok (.iinc 6 1, 3) := by decide +kernel
theorem d_75_79 : decode (am_b 75) 79 = .ok (.goto (-55), 3) := by decide +kernel
theorem d_75_82 : decode (am_b 75) 82 = .ok (.iinc 5 1, 3) := by decide +kernel
theorem d_75_85 : decode (am_b 75) 85 = .ok (.goto (-79), 3) := by decide +kernel
theorem d_75_88 : decode (am_b 75) 88 = .ok (.iload 4, 2) := by decide +kernel
theorem d_75_90 : decode (am_b 75) 90 = .ok (.ireturn, 1) := by decide +kernel
theorem d_76_0 : decode (am_b 76) 0 = .ok (.iconst 0, 1) := by decide +kernel
theorem d_76_1 : decode (am_b 76) 1 = .ok (.istore_n 2, 1) := by decide +kernel
theorem d_76_2 : decode (am_b 76) 2 = .ok (.aload_n 0, 1) := by decide +kernel
theorem d_76_3 : decode (am_b 76) 3 = .ok (.getfield 18, 3) := by decide +kernel
theorem d_76_6 : decode (am_b 76) 6 = .ok (.invokestatic 50, 3) := by decide +kernel
theorem d_76_9 : decode (am_b 76) 9 = .ok (.iconst 0, 1) := by decide +kernel
theorem d_76_10 : decode (am_b 76) 10 = .ok (.istore_n 3, 1) := by decide +kernel
theorem d_76_11 : decode (am_b 76) 11 = .ok (.iload_n 3, 1) := by decide +kernel
theorem d_76_12 : decode (am_b 76) 12 = .ok (.getstatic 54, 3) := by decide +kernel
theorem d_76_15 : decode (am_b 76) 15 = .ok (.aload_n 1, 1) := by decide +kernel
theorem d_76_16 : decode (am_b 76) 16 = .ok (.getfield 34, 3) := by decide +kernel
theorem d_76_19 : decode (am_b 76) 19 = .ok (.iaload, 1) := by decide +kernel
theorem d_76_20 : decode (am_b 76) 20 = .ok (.if_icmp .ge 52, 3) := by decide +kernel
theorem d_76_23 : decode (am_b 76) 23 = .ok (.iconst 0, 1) := by decide +kernel
theorem d_76_24 : decode (am_b 76) 24 = .ok (.istore 4, 2) := by decide +kernel
theorem d_76_26 : decode (am_b 76) 26 = .ok (.iload 4, 2) := by decide +kernel
theorem d_76_28 : decode (am_b 76) 28 = .ok (.aload_n 1, 1) := by decide +kernel
theorem d_76_29 : decode (am_b 76) 29 = .ok (.getfield 34, 3) := by decide +kernel
theorem d_76_32 : decode (am_b 76) 32 = .ok (.if_icmp .ge 22, 3) := by decide +kernel
theorem d_76_35 : decode (am_b 76) 35 = .ok (.aload_n 0, 1) := by decide +kernel
theorem d_76_36 : decode (am_b 76) 36 = .ok (.aload_n 1, 1) := by decide +kernel
theorem d_76_37 : decode (am_b 76) 37 = .ok (.iload 4, 2) := by decide +kernel
theorem d_76_39 : decode (am_b 76) 39 = .ok (.invokevirtual 65, 3) := by decide +kernel
theorem d_76_42 : decode (am_b 76) 42 = .ok (.ifCond .eq 6, 3) := by decide +kernel
theorem d_76_45 : decode (am_b 76) 45 = .ok (.iinc 2 1, 3) := by decide +kernel
theorem d_76_48 : decode (am_b 76) 48 = .ok (.iinc 4 1, 3) := by decide +kernel
theorem d_76_51 : decode (am_b 76) 51 = .ok (.goto (-25), 3) := by decide +kernel
theorem d_76_54 : decode (am_b 76) 54 = .ok (.aload_n 0, 1) := by decide +kernel
theorem d_76_55 : decode (am_b 76) 55 = .ok (.getfield 18, 3) := by decide +kernel
theorem d_76_58 : decode (am_b 76) 58 = .ok (.iconst 0, 1) := by decide +kernel
theorem d_76_59 : decode (am_b 76) 59 = .ok (.aload_n 1, 1) := by decide +kernel
theorem d_76_60 : decode (am_b 76) 60 = .ok (.getfield 34, 3) := by decide +kernel
theorem d_76_63 : decode (am_b 76) 63 = .ok (.invokestatic 61, 3) := by decide +kernel
theorem d_76_66 : decode (am_b 76) 66 = .ok (.iinc 3 1, 3) := by decide +kernel
theorem d_76_69 : decode (am_b 76) 69 = .ok (.goto (-58), 3) := by decide +kernel
theorem d_76_72 : decode (am_b 76) 72 = .ok (.iload_n 2, 1) := by decide +kernel
theorem d_76_73 : decode (am_b 76) 73 = .ok (.ireturn, 1) := by decide +kernel
theorem d_77_0 : decode (am_b 77) 0 = .ok (.aload_n 1, 1) := by decide +kernel
theorem d_77_1 : decode (am_b 77) 1 = .ok (.getfield 34, 3) := by decide +kernel
theorem d_77_4 : decode (am_b 77) 4 = .ok (.istore_n 3, 1) := by decide +kernel
theorem d_77_5 : decode (am_b 77) 5 = .ok (.iconst 0, 1) := by decide +kernel
theorem d_77_6 : decode (am_b 77) 6 = .ok (.istore 4, 2) := by decide +kernel
theorem d_77_8 : decode (am_b 77) 8 = .ok (.iload 4, 2) := by decide +kernel
theorem d_77_10 : decode (am_b 77) 10 = .ok (.iload_n 3, 1) := by decide +kernel
theorem d_77_11 : decode (am_b 77) 11 = .ok (.if_icmp .ge 33, 3) := by decide +kernel
theorem d_77_14 : decode (am_b 77) 14 = .ok (.aload_n 0, 1) := by decide +kernel
theorem d_77_15 : decode (am_b 77) 15 = .ok (.getfield 25, 3) := by decide +kernel
theorem d_77_18 : decode (am_b 77) 18 = .ok (.aload_n 1, 1) := by decide +kernel
theorem d_77_19 : decode (am_b 77) 19 = .ok (.iload 4, 2) := by decide +kernel
theorem d_77_21 : decode (am_b 77) 21 = .ok (.iconst 0, 1) := by decide +kernel
theorem d_77_22 : decode (am_b 77) 22 = .ok (.invokevirtual 42, 3) := by decide +kernel
theorem d_77_25 : decode (am_b 77) 25 = .ok (.aload_n 1, 1) := by decide +kernel
theorem d_77_26 : decode (am_b 77) 26 = .ok (.aload_n 0, 1) := by decide +kernel
theorem d_77_27 : decode (am_b 77) 27 = .ok (.getfield 18, 3) := by decide +kernel
theorem d_77_30 : decode (am_b 77) 30 = .ok (.iload 4, 2) := by decide +kernel
theorem d_77_32 : decode (am_b 77) 32 = .ok (.iaload, 1) := by decide +kernel
theorem d_77_33 : decode (am_b 77) 33 = .ok (.iload_n 2, 1) := by decide +kernel
theorem d_77_34 : decode (am_b 77) 34 = .ok (.invokevirtual 42, 3) := by decide +kernel
theorem d_77_37 : decode (am_b 77) 37 = .ok (.iastore, 1) := by decide +kernel
theorem d_77_38 : decode (am_b 77) 38 = .ok (.iinc 4 1, 3) := by decide +kernel
theorem d_77_41 : decode (am_b 77) 41 = .ok (.goto (-33), 3) := by decide +kernel
theorem d_77_44 : decode (am_b 77) 44 = .ok (.iconst 0, 1) := by decide +kernel
theorem d_77_45 : decode (am_b 77) 45 = .ok (.istore 4, 2) := by decide +kernel
theorem d_77_47 : decode (am_b 77) 47 = .ok (.iload 4, 2) := by decide +kernel
theorem d_77_49 : decode (am_b 77) 49 = .ok (.iload_n 3, 1) := by decide +kernel
theorem d_77_50 : decode (am_b 77) 50 = .ok (.if_icmp .ge 38, 3) := by decide +kernel
theorem d_77_53 : decode (am_b 77) 53 = .ok (.aload_n 0, 1) := by decide +kernel
theorem d_77_54 : decode (am_b 77) 54 = .ok (.getfield 22, 3) := by decide +kernel
theorem d_77_57 : decode (am_b 77) 57 = .ok (.iload 4, 2) := by decide +kernel
theorem d_77_59 : decode (am_b 77) 59 = .ok (.aload_n 1, 1) := by decide +kernel
theorem d_77_60 : decode (am_b 77) 60 = .ok (.aload_n 0, 1) := by decide +kernel
theorem d_77_61 : decode (am_b 77) 61 = .ok (.getfield 18, 3) := by decide +kernel
theorem d_77_64 : decode (am_b 77) 64 = .ok (.iconst 0, 1) := by decide +kernel
theorem d_77_65 : decode (am_b 77) 65 = .ok (.iaload, 1) := by decide +kernel
theorem d_77_66 : decode (am_b 77) 66 = .ok (.aload_n 0, 1) := by decide +kernel
theorem d_77_67 : decode (am_b 77) 67 = .ok (.getfield 25, 3) := by decide +kernel
theorem d_77_70 : decode (am_b 77) 70 = .ok (.aload_n 1, 1) := by decide +kernel
theorem d_77_71 : decode (am_b 77) 71 = .ok (.iconst 0, 1) := by decide +kernel
theorem d_77_72 : decode (am_b 77) 72 = .ok (.iload 4, 2) := by decide +kernel
theorem d_77_74 : decode (am_b 77) 74 = .ok (.invokevirtual 42, 3) := by decide +kernel
theorem d_77_77 : decode (am_b 77) 77 = .ok (.iaload, 1) := by decide +kernel
theorem d_77_78 : decode (am_b 77) 78 = .ok (.invokevirtual 69, 3) := by decide +kernel
theorem d_77_81 : decode (am_b 77) 81 = .ok (.iastore, 1) := by decide +kernel
theorem d_77_82 : decode (am_b 77) 82 = .ok (.iinc 4 1, 3) := by decide +kernel
theorem d_77_85 : decode (am_b 77) 85 = .ok (.goto (-38), 3) := by decide +kernel
theorem d_77_88 : decode (am_b 77) 88 = .ok (.iconst 1, 1) := by decide +kernel
theorem d_77_89 : decode (am_b 77) 89 = .ok (.istore 4, 2) := by decide +kernel
theorem d_77_91 : decode (am_b 77) 91 = .ok (.iload 4, 2) := by decide +kernel
theorem d_77_93 : decode (am_b 77) 93 = .ok (.iload_n 3, 1) := by decide +kernel
theorem d_77_94 : decode (am_b 77) 94 = .ok (.if_icmp .ge 60, 3) := by decide +kernel
theorem d_77_97 : decode (am_b 77) 97 = .ok (.iconst 1, 1) := by decide +kernel
theorem d_77_98 : decode (am_b 77) 98 = .ok (.istore 5, 2) := by decide +kernel
theorem d_77_100 : decode (am_b 77) 100 = .ok (.iload 5, 2) := by decide +kernel
theorem d_77_102 : decode (am_b 77) 102 = .ok (.iload_n 3, 1) := by decide +kernel
theorem d_77_103 : decode (am_b 77) 103 = .ok (.if_icmp .ge 45, 3) := by decide +kernel
theorem d_77_106 : decode (am_b 77) 106 = .ok (.aload_n 0, 1) := by decide +kernel
theorem d_77_107 : decode (am_b 77) 107 = .ok (.getfield 25, 3) := by decide +kernel
theorem d_77_110 : decode (am_b 77) 110 = .ok (.aload_n 1, 1) := by decide +kernel
theorem d_77_111 : decode (am_b 77) 111 = .ok (.iload 4, 2) := by decide +kernel
theorem d_77_113 : decode (am_b 77) 113 = .ok (.iload 5, 2) := by decide +kernel
theorem d_77_115 : decode (am_b 77) 115 = .ok (.invokevirtual 42, 3) := by decide +kernel
theorem d_77_118 : decode (am_b 77) 118 = .ok (.iaload, 1) := by decide +kernel
theorem d_77_119 : decode (am_b 77) 119 = .ok (.aload_n 1, 1) := by decide +kernel
theorem d_77_120 : decode (am_b 77) 120 = .ok (.aload_n 0, 1) := by decide +kernel
theorem d_77_121 : decode (am_b 77) 121 = .ok (.getfield 18, 3) := by decide +kernel
theorem d_77_124 : decode (am_b 77) 124 = .ok (.iload 4, 2) := by decide +kernel
theorem d_77_126 : decode (am_b 77) 126 = .ok (.iaload, 1) := by decide +kernel
theorem d_77_127 : decode (am_b 77) 127 = .ok (.aload_n 0, 1) := by decide +kernel
theorem d_77_128 : decode (am_b 77) 128 = .ok (.getfield 22, 3) := by decide +kernel
theorem d_77_131 : decode (am_b 77) 131 = .ok (.iload 5, 2) := by decide +kernel
theorem d_77_133 : decode (am_b 77) 133 = .ok (.iaload, 1) := by decide +kernel
theorem d_77_134 : decode (am_b 77) 134 = .ok (.invokevirtual 42, 3) := by decide +kernel
theorem d_77_137 : decode (am_b 77) 137 = .ok (.if_icmp .eq 5, 3) := by decide +kernel
theorem d_77_140 : decode (am_b 77) 140 = .ok (.iconst 0, 1) := by decide +kernel
theorem d_77_141 : decode (am_b 77) 141 = .ok (.ireturn, 1) := by decide +kernel
theorem d_77_142 : decode (am_b 77) 142 = .ok (.iinc 5 1, 3) := by decide +kernel
theorem d_77_145 : decode (am_b 77) 145 = .ok (.goto (-45), 3) := by decide +kernel
theorem d_77_148 : decode (am_b 77) 148 = .ok (.iinc 4 1, 3) := by decide +kernel
theorem d_77_151 : decode (am_b 77) 151 = .ok (.goto (-60), 3) := by decide +kernel
theorem d_77_154 : decode (am_b 77) 154 = .ok (.iconst 1, 1) := by decide +kernel
theorem d_77_155 : decode (am_b 77) 155 = .ok (.ireturn, 1) := by decide +kernel
theorem d_78_0 : decode (am_b 78) 0 = .ok (.aload_n 0, 1) := by decide +kernel
theorem d_78_1 : decode (am_b 78) 1 = .ok (.bipush 36, 2) := by decide +kernel
theorem d_78_3 : decode (am_b 78) 3 = .ok (.putfield 72, 3) := by decide +kernel
theorem d_78_6 : decode (am_b 78) 6 = .ok (.aload_n 0, 1) := by decide +kernel
theorem d_78_7 : decode (am_b 78) 7 = .ok (.iconst 0, 1) := by decide +kernel
theorem d_78_8 : decode (am_b 78) 8 = .ok (.putfield 75, 3) := by decide +kernel
theorem d_78_11 : decode (am_b 78) 11 = .ok (.aload_n 0, 1) := by decide +kernel
theorem d_78_12 : decode (am_b 78) 12 = .ok (.getfield 12, 3) := by decide +kernel
theorem d_78_15 : decode (am_b 78) 15 = .ok (.aload_n 1, 1) := by decide +kernel
theorem d_78_16 : decode (am_b 78) 16 = .ok (.getfield 34, 3) := by decide +kernel
theorem d_78_19 : decode (am_b 78) 19 = .ok (.invokevirtual 78, 3) := by decide +kernel
theorem d_78_22 : decode (am_b 78) 22 = .ok (.aload_n 0, 1) := by decide +kernel
theorem d_78_23 : decode (am_b 78) 23 = .ok (.aload_n 1, 1) := by decide +kernel
theorem d_78_24 : decode (am_b 78) 24 = .ok (.invokevirtual 82, 3) := by decide +kernel
theorem d_78_27 : decode (am_b 78) 27 = .ok (.aload_n 1, 1) := by decide +kernel
theorem d_78_28 : decode (am_b 78) 28 = .ok (.getfield 34, 3) := by decide +kernel
theorem d_78_31 : decode (am_b 78) 31 = .ok (.iconst 4, 1) := by decide +kernel
theorem d_78_32 : decode (am_b 78) 32 = .ok (.if_icmp .eq 12, 3) := by decide +kernel
theorem d_78_35 : decode (am_b 78) 35 = .ok (.aload_n 1, 1) := by decide +kernel
theorem d_78_36 : decode (am_b 78) 36 = .ok (.getfield 34, 3) := by decide +kernel
theorem d_78_39 : decode (am_b 78) 39 = .ok (.bipush 6, 2) := by decide +kernel
theorem d_78_41 : decode (am_b 78) 41 = .ok (.if_icmp .ne 19, 3) := by decide +kernel
theorem d_78_44 : decode (am_b 78) 44 = .ok (.aload_n 0, 1) := by decide +kernel
theorem d_78_45 : decode (am_b 78) 45 = .ok (.getfield 12, 3) := by decide +kernel
theorem d_78_48 : decode (am_b 78) 48 = .ok (.aload_n 1, 1) := by decide +kernel
theorem d_78_49 : decode (am_b 78) 49 = .ok (.getfield 34, 3) := by decide +kernel
theorem d_78_52 : decode (am_b 78) 52 = .ok (.invokevirtual 86, 3) := by decide +kernel
theorem d_78_55 : decode (am_b 78) 55 = .ok (.aload_n 0, 1) := by decide +kernel
theorem d_78_56 : decode (am_b 78) 56 = .ok (.aload_n 1, 1) := by decide +kernel
theorem d_78_57 : decode (am_b 78) 57 = .ok (.invokevirtual 82, 3) := by decide +kernel
theorem d_78_60 : decode (am_b 78) 60 = .ok (.return_, 1) := by decide +kernel
theorem d_79_0 : decode (am_b 79) 0 = .ok (.aload_n 0, 1) := by decide +kernel
theorem d_79_1 : decode (am_b 79) 1 = .ok (.aload_n 0, 1) := by decide +kernel
theorem d_79_2 : decode (am_b 79) 2 = .ok (.getfield 12, 3) := by decide +kernel
theorem d_79_5 : decode (am_b 79) 5 = .ok (.invokevirtual 89, 3) := by decide +kernel
theorem d_79_8 : decode (am_b 79) 8 = .ok (.iconst 1, 1) := by decide +kernel
theorem d_79_9 : decode (am_b 79) 9 = .ok (.invokestatic 93, 3) := by decide +kernel
theorem d_79_12 : decode (am_b 79) 12 = .ok (.istore_n 2, 1) := by decide +kernel
theorem d_79_13 : decode (am_b 79) 13 = .ok (.bipush 36, 2) := by decide +kernel
theorem d_79_15 : decode (am_b 79) 15 = .ok (.istore_n 3, 1) := by decide +kernel
theorem d_79_16 : decode (am_b 79) 16 = .ok (.iconst 0, 1) := by decide +kernel
theorem d_79_17 : decode (am_b 79) 17 = .ok (.istore 4, 2) := by decide +kernel
theorem d_79_19 : decode (am_b 79) 19 = .ok (.aload_n 0, 1) := by decide +kernel
theorem d_79_20 : decode (am_b 79) 20 = .ok (.getfield 18, 3) := by decide +kernel
theorem d_79_23 : decode (am_b 79) 23 = .ok (.invokestatic 50, 3) := by decide +kernel
theorem d_79_26 : decode (am_b 79) 26 = .ok (.iconst 0, 1) := by decide +kernel
theorem d_79_27 : decode (am_b 79) 27 = .ok (.istore 5, 2) := by decide +kernel
theorem d_79_29 : decode (am_b 79) 29 = .ok (.iload 5, 2) := by decide +kernel
theorem d_79_31 : decode (am_b 79) 31 = .ok (.getstatic 54, 3) := by decide +kernel
theorem d_79_34 : decode (am_b 79) 34 = .ok (.aload_n 1, 1) := by decide +kernel
theorem d_79_35 : decode (am_b 79) 35 = .ok (.getfield 34, 3) := by decide +kernel
theorem d_79_38 : decode (am_b 79) 38 = .ok (.iaload, 1) := by decide +kernel
theorem d_79_39 : decode (am_b 79) 39 = .ok (.if_icmp .ge 54, 3) := by decide +kernel
theorem d_79_42 : decode (am_b 79) 42 = .ok (.aload_n 0, 1) := by decide +kernel
theorem d_79_43 : decode (am_b 79) 43 = .ok (.aload_n 0, 1) := by decide +kernel
theorem d_79_44 : decode (am_b 79) 44 = .ok (.getfield 12, 3) := by decide +kernel
theorem d_79_47 : decode (am_b 79) 47 = .ok (.aload_n 1, 1) := by decide +kernel
theorem d_79_48 : decode (am_b 79) 48 = .ok (.iload_n 3, 1) := by decide +kernel
theorem d_79_49 : decode (am_b 79) 49 = .ok (.invokevirtual 57, 3) := by decide +kernel
theorem d_79_52 : decode (am_b 79) 52 = .ok (.istore 6, 2) := by decide +kernel
theorem d_79_54 : decode (am_b 79) 54 = .ok (.iload 6, 2) := by decide +kernel
theorem d_79_56 : decode (am_b 79) 56 = .ok (.iload_n 3, 1) := by decide +kernel
theorem d_79_57 : decode (am_b 79) 57 = .ok (.if_icmp .ge 9, 3) := by decide +kernel
theorem d_79_60 : decode (am_b 79) 60 = .ok (.iload 6, 2) := by decide +kernel
theorem d_79_62 : decode (am_b 79) 62 = .ok (.istore_n 3, 1) := by decide +kernel
theorem d_79_63 : decode (am_b 79) 63 = .ok (.iconst 0, 1) := by decide +kernel
theorem d_79_64 : decode (am_b 79) 64 = .ok (.istore 4, 2) := by decide +kernel
theorem d_79_66 : decode (am_b 79) 66 = .ok (.iload 6, 2) := by decide +kernel
theorem d_79_68 : decode (am_b 79) 68 = .ok (.iload_n 3, 1) := by decide +kernel
theorem d_79_69 : decode (am_b 79) 69 = .ok (.if_icmp .ne 6, 3) := by decide +kernel
theorem d_79_72 : decode (am_b 79) 72 = .ok (.iinc 4 1, 3) := by decide +kernel
theorem d_79_75 : decode (am_b 79) 75 = .ok (.aload_n 0, 1) := by decide +kernel
theorem d_79_76 : decode (am_b 79) 76 = .ok (.getfield 18, 3) := by decide +kernel
theorem d_79_79 : decode (am_b 79) 79 = .ok (.iconst 0, 1) := by decide +kernel
theorem d_79_80 : decode (am_b 79) 80 = .ok (.aload_n 1, 1) := by decide +kernel
theorem d_79_81 : decode (am_b 79) 81 = .ok (.getfield 34, 3) := by decide +kernel
theorem d_79_84 : decode (am_b 79) 84 = .ok (.invokestatic 61, 3) := by decide +kernel
theorem d_79_87 : decode (am_b 79) 87 = .ok (.iinc 5 1, 3) := by decide +kernel
theorem d_79_90 : decode (am_b 79) 90 = .ok (.goto (-61), 3) := by decide +kernel
theorem d_79_93 : decode (am_b 79) 93 = .ok (.iload_n 3, 1) := by decide +kernel
theorem d_79_94 : decode (am_b 79) 94 = .ok (.aload_n 0, 1) := by decide +kernel
theorem d_79_95 : decode (am_b 79) 95 = .ok (.getfield 72, 3) := by decide +kernel
theorem d_79_98 : decode (am_b 79) 98 = .ok (.if_icmp .ge 13, 3) := by decide +kernel
theorem d_79_101 : decode (am_b 79) 101 = .ok (.aload_n 0, 1) := by decide +kernel
theorem d_79_102 : decode (am_b 79) 102 = .ok (.iload_n 3, 1) := by decide +kernel
theorem d_79_103 : decode (am_b 79) 103 = .ok (.putfield 72, 3) := by decide +kernel
theorem d_79_106 : decode (am_b 79) 106 = .ok (.aload_n 0, 1) := by decide +kernel
theorem d_79_107 : decode (am_b 79) 107 = .ok (.iconst 0, 1) := by decide +kernel
theorem d_79_108 : decode (am_b 79) 108 = .ok (.putfield 75, 3) := by decide +kernel
theorem d_79_111 : decode (am_b 79) 111 = .ok (.iload_n 3, 1) := by decide +kernel
theorem d_79_112 : decode (am_b 79) 112 = .ok (.aload_n 0, 1) := by decide +kernel
theorem d_79_113 : decode (am_b 79) 113 = .ok (.getfield 72, 3) := by decide +kernel
theorem d_79_116 : decode (am_b 79) 116 = .ok (.if_icmp .ne 16, 3) := by decide +kernel
theorem d_79_119 : decode (am_b 79) 119 = .ok (.aload_n 0, 1) := by decide +kernel
theorem d_79_120 : decode (am_b 79) 120 = .ok (.dup, 1) := by decide +kernel
theorem d_79_121 : decode (am_b 79) 121 = .ok (.getfield 75, 3) := by decide +kernel
theorem d_79_124 : decode (am_b 79) 124 = .ok (.iload 4, 2) := by decide +kernel
theorem d_79_126 : decode (am_b 79) 126 = .ok (.iload_n 2, 1) := by decide +kernel
theorem d_79_127 : decode (am_b 79) 127 = .ok (.idiv, 1) := by decide +kernel
theorem d_79_128 : decode (am_b 79) 128 = .ok (.iadd, 1) := by decide +kernel
theorem d_79_129 : decode (am_b 79) 129 = .ok (.putfield 75, 3) := by decide +kernel
theorem d_79_132 : decode (am_b 79) 132 = .ok (.return_, 1) := by decide +kernel
theorem d_80_0 : decode (am_b 80) 0 = .ok (.aload_n 0, 1) := by decide +kernel
theorem d_80_1 : decode (am_b 80) 1 = .ok (.invokespecial 3, 3) := by decide +kernel
theorem d_80_4 : decode (am_b 80) 4 = .ok (.aload_n 0, 1) := by decide +kernel
theorem d_80_5 : decode (am_b 80) 5 = .ok (.bipush 6, 2) := by decide +kernel
theorem d_80_7 : decode (am_b 80) 7 = .ok (.anewarray 9, 3) := by decide +kernel
theorem d_80_10 : decode (am_b 80) 10 = .ok (.putfield 11, 3) := by decide +kernel
theorem d_80_13 : decode (am_b 80) 13 = .ok (.aload_n 0, 1) := by decide +kernel
theorem d_80_14 : decode (am_b 80) 14 = .ok (.bipush 8, 2) := by decide +kernel
theorem d_80_16 : decode (am_b 80) 16 = .ok (.anewarray 17, 3) := by decide +kernel
theorem d_80_19 : decode (am_b 80) 19 = .ok (.putfield 19, 3) := by decide +kernel
theorem d_80_22 : decode (am_b 80) 22 = .ok (.aload_n 0, 1) := by decide +kernel
theorem d_80_23 : decode (am_b 80) 23 = .ok (.bipush 36, 2) := by decide +kernel
theorem d_80_25 : decode (am_b 80) 25 = .ok (.newarray .int, 2) := by decide +kernel
theorem d_80_27 : decode (am_b 80) 27 = .ok (.putfield 23, 3) := by decide +kernel
theorem d_80_30 : decode (am_b 80) 30 = .ok (.aload_n 0, 1) := by decide +kernel
theorem d_80_31 : decode (am_b 80) 31 = .ok (.bipush 30, 2) := by decide +kernel
theorem d_80_33 : decode (am_b 80) 33 = .ok (.newarray .int, 2) := by decide +kernel
theorem d_80_35 : decode (am_b 80) 35 = .ok (.putfield 27, 3) := by decide +kernel
theorem d_80_38 : decode (am_b 80) 38 = .ok (.aload_n 0, 1) := by decide +kernel
theorem d_80_39 : decode (am_b 80) 39 = .ok (.bipush 30, 2) := by decide +kernel
theorem d_80_41 : decode (am_b 80) 41 = .ok (.anewarray 9, 3) := by decide +kernel
theorem d_80_44 : decode (am_b 80) 44 = .ok (.putfield 30, 3) := by decide +kernel
theorem d_80_47 : decode (am_b 80) 47 = .ok (.iconst 0, 1) := by decide +kernel
theorem d_80_48 : decode (am_b 80) 48 = .ok (.istore_n 1, 1) := by decide +kernel
theorem d_80_49 : decode (am_b 80) 49 = .ok (.iload_n 1, 1) := by decide +kernel
theorem d_80_50 : decode (am_b 80) 50 = .ok (.bipush 6, 2) := by decide +kernel
theorem d_80_52 : decode (am_b 80) 52 = .ok (.if_icmp .ge 22, 3) := by decide +kernel
theorem d_80_55 : decode (am_b 80) 55 = .ok (.aload_n 0, 1) := by decide +kernel
theorem d_80_56 : decode (am_b 80) 56 = .ok (.getfield 11, 3) := by decide +kernel
theorem d_80_59 : decode (am_b 80) 59 = .ok (.iload_n 1, 1) := by decide +kernel
theorem d_80_60 : decode (am_b 80) 60 = .ok (.new 9, 3) := by decide +kernel
theorem d_80_63 : decode (am_b 80) 63 = .ok (.dup, 1) := by decide +kernel
theorem d_80_64 : decode (am_b 80) 64 = .ok (.invokespecial 33, 3) := by decide +kernel
theorem d_80_67 : decode (am_b 80) 67 = .ok (.aastore, 1) := by decide +kernel
theorem d_80_68 : decode (am_b 80) 68 = .ok (.iinc 1 1, 3) := by decide +kernel
theorem d_80_71 : decode (am_b 80) 71 = .ok (.goto (-22), 3) := by decide +kernel
theorem d_80_74 : decode (am_b 80) 74 = .ok (.iconst 0, 1) := by decide +kernel
theorem d_80_75 : decode (am_b 80) 75 = .ok (.istore_n 1, 1) := by decide +kernel
theorem d_80_76 : decode (am_b 80) 76 = .ok (.iload_n 1, 1) := by decide +kernel
theorem d_80_77 : decode (am_b 80) 77 = .ok (.bipush 30, 2) := by decide +kernel
theorem d_80_79 : decode (am_b 80) 79 = .ok (.if_icmp .ge 22, 3) := by decide +kernel
theorem d_80_82 : decode (am_b 80) 82 = .ok (.aload_n 0, 1) := by decide +kernel
theorem d_80_83 : decode (am_b 80) 83 = .ok (.getfield 30, 3) := by decide +kernel
theorem d_80_86 : decode (am_b 80) 86 = .ok (.iload_n 1, 1) := by decide +kernel
theorem d_80_87 : decode (am_b 80) 87 = .ok (.new 9, 3) := by decide +kernel
theorem d_80_90 : decode (am_b 80) 90 = .ok (.dup, 1) := by decide +kernel
theorem d_80_91 : decode (am_b 80) 91 = .ok (.invokespecial 33, 3) := by decide +kernel
theorem d_80_94 : decode (am_b 80) 94 = .ok (.aastore, 1) := by decide +kernel
theorem d_80_95 : decode (am_b 80) 95 = .ok (.iinc 1 1, 3) := by decide +kernel
theorem d_80_98 : decode (am_b 80) 98 = .ok (.goto (-22), 3) := by decide +kernel
theorem d_80_101 : decode (am_b 80) 101 = .ok (.return_, 1) := by decide +kernel
theorem d_81_0 : decode (am_b 81) 0 = .ok (.aload_n 0, 1) := by decide +kernel
theorem d_81_1 : decode (am_b 81) 1 = .ok (.getfield 51, 3) := by decide +kernel
theorem d_81_4 : decode (am_b 81) 4 = .ok (.bipush 30, 2) := by decide +kernel
theorem d_81_6 : decode (am_b 81) 6 = .ok (.if_icmp .ne 7, 3) := by decide +kernel
theorem d_81_9 : decode (am_b 81) 9 = .ok (.aload_n 0, 1) := by decide +kernel
theorem d_81_10 : decode (am_b 81) 10 = .ok (.invokevirtual 57, 3) := by decide +kernel
theorem d_81_13 : decode (am_b 81) 13 = .ok (.aload_n 0, 1) := by decide +kernel
theorem d_81_14 : decode (am_b 81) 14 = .ok (.getfield 27, 3) := by decide +kernel
theorem d_81_17 : decode (am_b 81) 17 = .ok (.aload_n 0, 1) := by decide +kernel
theorem d_81_18 : decode (am_b 81) 18 = .ok (.getfield 51, 3) := by decide +kernel
theorem d_81_21 : decode (am_b 81) 21 = .ok (.iload_n 1, 1) := by decide +kernel
theorem d_81_22 : decode (am_b 81) 22 = .ok (.iastore, 1) := by decide +kernel
theorem d_81_23 : decode (am_b 81) 23 = .ok (.aload_n 0, 1) := by decide +kernel
theorem d_81_24 : decode (am_b 81) 24 = .ok (.getfield 30, 3) := by decide +kernel
theorem d_81_27 : decode (am_b 81) 27 = .ok (.aload_n 0, 1) := by decide +kernel
theorem d_81_28 : decode (am_b 81) 28 = .ok (.getfield 51, 3) := by decide +kernel
theorem d_81_31 : decode (am_b 81) 31 = .ok (.aaload, 1) := by decide +kernel
theorem d_81_32 : decode (am_b 81) 32 = .ok (.aload_n 2, 1) := by decide +kernel
theorem d_81_33 : decode (am_b 81) 33 = .ok (.invokevirtual 34, 3) := by decide +kernel
theorem d_81_36 : decode (am_b 81) 36 = .ok (.aload_n 0, 1) := by decide +kernel
theorem d_81_37 : decode (am_b 81) 37 = .ok (.dup, 1) := by decide +kernel
theorem d_81_38 : decode (am_b 81) 38 = .ok (.getfield 51, 3) := by decide +kernel
theorem d_81_41 : decode (am_b 81) 41 = .ok (.iconst 1, 1) := by decide +kernel
theorem d_81_42 : decode (am_b 81) 42 = .ok (.iadd, 1) := by decide +kernel
theorem d_81_43 : decode (am_b 81) 43 = .ok (.putfield 51, 3) := by decide +kernel
theorem d_81_46 : decode (am_b 81) 46 = .ok (.aload_n 0, 1) := by decide +kernel
theorem d_81_47 : decode (am_b 81) 47 = .ok (.iconst 0, 1) := by decide +kernel
theorem d_81_48 : decode (am_b 81) 48 = .ok (.putfield 54, 3) := by decide +kernel
theorem d_81_51 : decode (am_b 81) 51 = .ok (.aload_n 0, 1) := by decide +kernel
theorem d_81_52 : decode (am_b 81) 52 = .ok (.aload_n 0, 1) := by decide +kernel
theorem d_81_53 : decode (am_b 81) 53 = .ok (.getfield 51, 3) := by decide +kernel
theorem d_81_56 : decode (am_b 81) 56 = .ok (.iconst 1, 1) := by decide +kernel
theorem d_81_57 : decode (am_b 81) 57 = .ok (.isub, 1) := by decide +kernel
theorem d_81_58 : decode (am_b 81) 58 = .ok (.invokevirtual 60, 3) := by decide +kernel
theorem d_81_61 : decode (am_b 81) 61 = .ok (.return_, 1) := by decide +kernel
theorem d_82_0 : decode (am_b 82) 0 = .ok (.aload_n 0, 1) := by decide +kernel
theorem d_82_1 : decode (am_b 82) 1 = .ok (.getfield 30, 3) := by decide +kernel
theorem d_82_4 : decode (am_b 82) 4 = .ok (.iconst 0, 1) := by decide +kernel
theorem d_82_5 : decode (am_b 82) 5 = .ok (.aaload, 1) := by decide +kernel
theorem d_82_6 : decode (am_b 82) 6 = .ok (.astore_n 1, 1) := by decide +kernel
theorem d_82_7 : decode (am_b 82) 7 = .ok (.iconst 1, 1) := by decide +kernel
theorem d_82_8 : decode (am_b 82) 8 = .ok (.istore_n 2, 1) := by decide +kernel
theorem d_82_9 : decode (am_b 82) 9 = .ok (.iload_n 2, 1) := by decide +kernel
theorem d_82_10 : decode (am_b 82) 10 = .ok (.bipush 30, 2) := by decide +kernel
theorem d_82_12 : decode (am_b 82) 12 = .ok (.if_icmp .ge 37, 3) := by decide +kernel
theorem d_82_15 : decode (am_b 82) 15 = .ok (.aload_n 0, 1) := by decide +kernel
theorem d_82_16 : decode (am_b 82) 16 = .ok (.getfield 30, 3) := by decide +kernel
theorem d_82_19 : decode (am_b 82) 19 = .ok (.iload_n 2, 1) := by decide +kernel
theorem d_82_20 : decode (am_b 82) 20 = .ok (.iconst 1, 1) := by decide +kernel
theorem d_82_21 : decode (am_b 82) 21 = .ok (.isub, 1) := by decide +kernel
theorem d_82_22 : decode (am_b 82) 22 = .ok (.aload_n 0, 1) := by decide +kernel
theorem d_82_23 : decode (am_b 82) 23 = .ok (.getfield 30, 3) := by decide +kernel
theorem d_82_26 : decode (am_b 82) 26 = .ok (.iload_n 2, 1) := by decide +kernel
theorem d_82_27 : decode (am_b 82) 27 = .ok (.aaload, 1) := by decide +kernel
theorem d_82_28 : decode (am_b 82) 28 = .ok (.aastore, 1) := by decide +kernel
theorem d_82_29 : decode (am_b 82) 29 = .ok (.aload_n 0, 1) := by decide +kernel
theorem d_82_30 : decode (am_b 82) 30 = .ok (.getfield 27, 3) := by decide +kernel
theorem d_82_33 : decode (am_b 82) 33 = .ok (.iload_n 2, 1) := by decide +kernel
theorem d_82_34 : decode (am_b 82) 34 = .ok (.iconst 1, 1) := by decide +kernel
theorem d_82_35 : decode (am_b 82) 35 = .ok (.isub, 1) := by decide +kernel
theorem d_82_36 : decode (am_b 82) 36 = .ok (.aload_n 0, 1) := by decide +kernel
theorem d_82_37 : decode (am_b 82) 37 = .ok (.getfield 27, 3) := by decide +kernel
theorem d_82_40 : decode (am_b 82) 40 = .ok (.iload_n 2, 1) := by decide +kernel
theorem d_82_41 : decode (am_b 82) 41 = .ok (.iaload, 1) := by decide +kernel
theorem d_82_42 : decode (am_b 82) 42 = .ok (.iastore, 1) := by decide +kernel
theorem d_82_43 : decode (am_b 82) 43 = .ok (.iinc 2 1, 3) := by decide +kernel
theorem d_82_46 : decode (am_b 82) 46 = .ok (.goto (-37), 3) := by decide +kernel
theorem d_82_49 : decode (am_b 82) 49 = .ok (.aload_n 0, 1) := by decide +kernel
theorem d_82_50 : decode (am_b 82) 50 = .ok (.getfield 30, 3) := by decide +kernel
theorem d_82_53 : decode (am_b 82) 53 = .ok (.bipush 29, 2) := by decide +kernel
theorem d_82_55 : decode (am_b 82) 55 = .ok (.aload_n 1, 1) := by decide +kernel
theorem d_82_56 : decode (am_b 82) 56 = .ok (.aastore, 1) := by decide +kernel
theorem d_82_57 : decode (am_b 82) 57 = .ok (.aload_n 0, 1) := by decide +kernel
theorem d_82_58 : decode (am_b 82) 58 = .ok (.dup, 1) := by decide +kernel
theorem d_82_59 : decode (am_b 82) 59 = .ok (.getfield 51, 3) := by decide +kernel
theorem d_82_62 : decode (am_b 82) 62 = .ok (.iconst 1, 1) := by decide +kernel
theorem d_82_63 : decode (am_b 82) 63 = .ok (.isub, 1) := by decide +kernel
theorem d_82_64 : decode (am_b 82) 64 = .ok (.putfield 51, 3) := by decide +kernel
theorem d_82_67 : decode (am_b 82) 67 = .ok (.return_, 1) := by decide +kernel
theorem d_83_0 : decode (am_b 83) 0 = .ok (.aload_n 0, 1) := by decide +kernel
theorem d_83_1 : decode (am_b 83) 1 = .ok (.getfield 11, 3) := by decide +kernel
theorem d_83_4 : decode (am_b 83) 4 = .ok (.aload_n 0, 1) := by decide +kernel
theorem d_83_5 : decode (am_b 83) 5 = .ok (.getfield 27, 3) := by decide +kernel
theorem d_83_8 : decode (am_b 83) 8 = .ok (.iload_n 1, 1) := by decide +kernel
theorem d_83_9 : decode (am_b 83) 9 = .ok (.iaload, 1) := by decide +kernel
theorem d_83_10 : decode (am_b 83) 10 = .ok (.aaload, 1) := by decide +kernel
theorem d_83_11 : decode (am_b 83) 11 = .ok (.astore_n 2, 1) := by decide +kernel
theorem d_83_12 : decode (am_b 83) 12 = .ok (.aload_n 0, 1) := by decide +kernel
theorem d_83_13 : decode (am_b 83) 13 = .ok (.getfield 11, 3) := by decide +kernel
theorem d_83_16 : decode (am_b 83) 16 = .ok (.aload_n 0, 1) := by decide +kernel
theorem d_83_17 : decode (am_b 83) 17 = .ok (.getfield 27, 3) := by decide +kernel
theorem d_83_20 : decode (am_b 83) 20 = .ok (.iload_n 1, 1) := by decide +kernel
theorem d_83_21 : decode (am_b 83) 21 = .ok (.iaload, 1) := by decide +kernel
theorem d_83_22 : decode (am_b 83) 22 = .ok (.aload_n 0, 1) := by decide +kernel
theorem d_83_23 : decode (am_b 83) 23 = .ok (.getfield 30, 3) := by decide +kernel
theorem d_83_26 : decode (am_b 83) 26 = .ok (.iload_n 1, 1) := by decide +kernel
theorem d_83_27 : decode (am_b 83) 27 = .ok (.aaload, 1) := by decide +kernel
theorem d_83_28 : decode (am_b 83) 28 = .ok (.aastore, 1) := by decide +kernel
theorem d_83_29 : decode (am_b 83) 29 = .ok (.aload_n 0, 1) := by decide +kernel
theorem d_83_30 : decode (am_b 83) 30 = .ok (.getfield 30, 3) := by decide +kernel
theorem d_83_33 : decode (am_b 83) 33 = .ok (.iload_n 1, 1) := by decide +kernel
theorem d_83_34 : decode (am_b 83) 34 = .ok (.aload_n 2, 1) := by decide +kernel
theorem d_83_35 : decode (am_b 83) 35 = .ok (.aastore, 1) := by decide +kernel
theorem d_83_36 : decode (am_b 83) 36 = .ok (.return_, 1) := by decide +kernel
theorem d_84_0 : decode (am_b 84) 0 = .ok (.aload_n 0, 1) := by decide +kernel
theorem d_84_1 : decode (am_b 84) 1 = .ok (.dup, 1) := by decide +kernel
theorem d_84_2 : decode (am_b 84) 2 = .ok (.getfield 51, 3) := by decide +kernel
theorem d_84_5 : decode (am_b 84) 5 = .ok (.iconst 1, 1) := by decide +kernel
theorem d_84_6 : decode (am_b 84) 6 = .ok (.isub, 1) := by decide +kernel
theorem d_84_7 : decode (am_b 84) 7 = .ok (.putfield 51, 3) := by decide +kernel
theorem d_84_10 : decode (am_b 84) 10 = .ok (.aload_n 0, 1) := by decide +kernel
theorem d_84_11 : decode (am_b 84) 11 = .ok (.dup, 1) := by decide +kernel
theorem d_84_12 : decode (am_b 84) 12 = .ok (.getfield 54, 3) := by decide +kernel
theorem d_84_15 : decode (am_b 84) 15 = .ok (.iconst 1, 1) := by decide +kernel
theorem d_84_16 : decode (am_b 84) 16 = .ok (.iadd, 1) := by decide +kernel
theorem d_84_17 : decode (am_b 84) 17 = .ok (.putfield 54, 3) := by decide +kernel
theorem d_84_20 : decode (am_b 84) 20 = .ok (.aload_n 0, 1) := by decide +kernel
theorem d_84_21 : decode (am_b 84) 21 = .ok (.aload_n 0, 1) := by decide +kernel
theorem d_84_22 : decode (am_b 84) 22 = .ok (.getfield 51, 3) := by decide +kernel
theorem d_84_25 : decode (am_b 84) 25 = .ok (.invokevirtual 60, 3) := by decide +kernel
theorem d_84_28 : decode (am_b 84) 28 = .ok (.return_, 1) := by decide +kernel
theorem d_85_0 : decode (am_b 85) 0 = .ok (.aload_n 0, 1) := by decide +kernel
theorem d_85_1 : decode (am_b 85) 1 = .ok (.aload_n 0, 1) := by decide +kernel
theorem d_85_2 : decode (am_b 85) 2 = .ok (.getfield 51, 3) := by decide +kernel
theorem d_85_5 : decode (am_b 85) 5 = .ok (.invokevirtual 60, 3) := by decide +kernel
theorem d_85_8 : decode (am_b 85) 8 = .ok (.aload_n 0, 1) := by decide +kernel
theorem d_85_9 : decode (am_b 85) 9 = .ok (.dup, 1) := by decide +kernel
theorem d_85_10 : decode (am_b 85) 10 = .ok (.getfield 51, 3) := by decide +kernel
theorem d_85_13 : decode (am_b 85) 13 = .ok (.iconst 1, 1) := by decide +kernel
theorem d_85_14 : decode (am_b 85) 14 = .ok (.iadd, 1) := by decide +kernel
theorem d_85_15 : decode (am_b 85) 15 = .ok (.putfield 51, 3) := by decide +kernel
theorem d_85_18 : decode (am_b 85) 18 = .ok (.aload_n 0, 1) := by decide +kernel
theorem d_85_19 : decode (am_b 85) 19 = .ok (.dup, 1) := by decide +kernel
theorem d_85_20 : decode (am_b 85) 20 = .ok (.getfield 54, 3) := by decide +kernel
theorem d_85_23 : decode (am_b 85) 23 = .ok (.iconst 1, 1) := by decide +kernel
theorem d_85_24 : decode (am_b 85) 24 = .ok (.isub, 1) := by decide +kernel
theorem d_85_25 : decode (am_b 85) 25 = .ok (.putfield 54, 3) := by decide +kernel
theorem d_85_28 : decode (am_b 85) 28 = .ok (.return_, 1) := by decide +kernel
theorem d_86_0 : decode (am_b 86) 0 = .ok (.iconst 0, 1) := by decide +kernel
theorem d_86_1 : decode (am_b 86) 1 = .ok (.istore_n 2, 1) := by decide +kernel
theorem d_86_2 : decode (am_b 86) 2 = .ok (.iload_n 2, 1) := by decide +kernel
theorem d_86_3 : decode (am_b 86) 3 = .ok (.bipush 6, 2) := by decide +kernel
theorem d_86_5 : decode (am_b 86) 5 = .ok (.if_icmp .ge 24, 3) := by decide +kernel
theorem d_86_8 : decode (am_b 86) 8 = .ok (.aload_n 0, 1) := by decide +kernel
theorem d_86_9 : decode (am_b 86) 9 = .ok (.getfield 11, 3) := by decide +kernel
theorem d_86_12 : decode (am_b 86) 12 = .ok (.iload_n 2, 1) := by decide +kernel
theorem d_86_13 : decode (am_b 86) 13 = .ok (.aaload, 1) := by decide +kernel
theorem d_86_14 : decode (am_b 86) 14 = .ok (.aload_n 1, 1) := by decide +kernel
theorem d_86_15 : decode (am_b 86) 15 = .ok (.getfield 11, 3) := by decide +kernel
theorem d_86_18 : decode (am_b 86) 18 = .ok (.iload_n 2, 1) := by decide +kernel
theorem d_86_19 : decode (am_b 86) 19 = .ok (.aaload, 1) := by decide +kernel
theorem d_86_20 : decode (am_b 86) 20 = .ok (.invokevirtual 34, 3) := by decide +kernel
theorem d_86_23 : decode (am_b 86) 23 = .ok (.iinc 2 1, 3) := by decide +kernel
theorem d_86_26 : decode (am_b 86) 26 = .ok (.goto (-24), 3) := by decide +kernel
theorem d_86_29 : decode (am_b 86) 29 = .ok (.iconst 0, 1) := by decide +kernel
theorem d_86_30 : decode (am_b 86) 30 = .ok (.istore_n 2, 1) := by decide +kernel
theorem d_86_31 : decode (am_b 86) 31 = .ok (.iload_n 2, 1) := by decide +kernel
theorem d_86_32 : decode (am_b 86) 32 = .ok (.bipush 8, 2) := by decide +kernel
theorem d_86_34 : decode (am_b 86) 34 = .ok (.if_icmp .ge 21, 3) := by decide +kernel
theorem d_86_37 : decode (am_b 86) 37 = .ok (.aload_n 0, 1) := by decide +kernel
theorem d_86_38 : decode (am_b 86) 38 = .ok (.getfield 19, 3) := by decide +kernel
theorem d_86_41 : decode (am_b 86) 41 = .ok (.iload_n 2, 1) := by decide +kernel
theorem d_86_42 : decode (am_b 86) 42 = .ok (.aload_n 1, 1) := by decide +kernel
theorem d_86_43 : decode (am_b 86) 43 = .ok (.getfield 19, 3) := by decide +kernel
theorem d_86_46 : decode (am_b 86) 46 = .ok (.iload_n 2, 1) := by decide +kernel
theorem d_86_47 : decode (am_b 86) 47 = .ok (.aaload, 1) := by decide +kernel
theorem d_86_48 : decode (am_b 86) 48 = .ok (.aastore, 1) := by decide +kernel
theorem d_86_49 : decode (am_b 86) 49 = .ok (.iinc 2 1, 3) := by decide +kernel
theorem d_86_52 : decode (am_b 86) 52 = .ok (.goto (-21), 3) := by decide +kernel
theorem d_86_55 : decode (am_b 86) 55 = .ok (.aload_n 0, 1) := by decide +kernel
theorem d_86_56 : decode (am_b 86) 56 = .ok (.aload_n 1, 1) := by decide +kernel
theorem d_86_57 : decode (am_b 86) 57 = .ok (.getfield 38, 3) := by decide +kernel
theorem d_86_60 : decode (am_b 86) 60 = .ok (.putfield 38, 3) := by decide +kernel
theorem d_86_63 : decode (am_b 86) 63 = .ok (.aload_n 0, 1) := by decide +kernel
theorem d_86_64 : decode (am_b 86) 64 = .ok (.aload_n 1, 1) := by decide +kernel
theorem d_86_65 : decode (am_b 86) 65 = .ok (.getfield 42, 3) := by decide +kernel
theorem d_86_68 : decode (am_b 86) 68 = .ok (.putfield 42, 3) := by decide +kernel
theorem d_86_71 : decode (am_b 86) 71 = .ok (.aload_n 1, 1) := by decide +kernel
theorem d_86_72 : decode (am_b 86) 72 = .ok (.getfield 23, 3) := by decide +kernel
theorem d_86_75 : decode (am_b 86) 75 = .ok (.iconst 0, 1) := by decide +kernel
theorem d_86_76 : decode (am_b 86) 76 = .ok (.aload_n 0, 1) := by decide +kernel
theorem d_86_77 : decode (am_b 86) 77 = .ok (.getfield 23, 3) := by decide +kernel
theorem d_86_80 : decode (am_b 86) 80 = .ok (.iconst 0, 1) := by decide +kernel
theorem d_86_81 : decode (am_b 86) 81 = .ok (.bipush 36, 2) := by decide +kernel
theorem d_86_83 : decode (am_b 86) 83 = .ok (.invokestatic 45, 3) := by decide +kernel
theorem d_86_86 : decode (am_b 86) 86 = .ok (.aload_n 1, 1) := by decide +kernel
theorem d_86_87 : decode (am_b 86) 87 = .ok (.getfield 27, 3) := by decide +kernel
theorem d_86_90 : decode (am_b 86) 90 = .ok (.iconst 0, 1) := by decide +kernel
theorem d_86_91 : decode (am_b 86) 91 = .ok (.aload_n 0, 1) := by decide +kernel
theorem d_86_92 : decode (am_b 86) 92 = .ok (.getfield 27, 3) := by decide +kernel
theorem d_86_95 : decode (am_b 86) 95 = .ok (.iconst 0, 1) := by decide +kernel
theorem d_86_96 : decode (am_b 86) 96 = .ok (.bipush 30, 2) := by decide +kernel
theorem d_86_98 : decode (am_b 86) 98 = .ok (.invokestatic 45, 3) := by decide +kernel
theorem d_86_101 : decode (am_b 86) 101 = .ok (.iconst 0, 1) := by decide +kernel
theorem d_86_102 : decode (am_b 86) 102 = .ok (.istore_n 2, 1) := by decide +kernel
theorem d_86_103 : decode (am_b 86) 103 = .ok (.iload_n 2, 1) := by decide +kernel
theorem d_86_104 : decode (am_b 86) 104 = .ok (.bipush 30, 2) := by decide +kernel
theorem d_86_106 : decode (am_b 86) 106 = .ok (.if_icmp .ge 24, 3) := by decide +kernel
theorem d_86_109 : decode (am_b 86) 109 = .ok (.aload_n 0, 1) := by decide +kernel
theorem d_86_110 : decode (am_b 86) 110 = .ok (.getfield 30, 3) := by decide +kernel
theorem d_86_113 : decode (am_b 86) 113 = .ok (.iload_n 2, 1) := by decide +kernel
theorem d_86_114 : decode (am_b 86) 114 = .ok (.aaload, 1) := by decide +kernel
theorem d_86_115 : decode (am_b 86) 115 = .ok (.aload_n 1, 1) := by decide +kernel
theorem d_86_116 : decode (am_b 86) 116 = .ok (.getfield 30, 3) := by decide +kernel
theorem d_86_119 : decode (am_b 86) 119 = .ok (.iload_n 2, 1) := by decide +kernel
theorem d_86_120 : decode (am_b 86) 120 = .ok (.aaload, 1) := by decide +kernel
theorem d_86_121 : decode (am_b 86) 121 = .ok (.invokevirtual 34, 3) := by decide +kernel
theorem d_86_124 : decode (am_b 86) 124 = .ok (.iinc 2 1, 3) := by decide +kernel
theorem d_86_127 : decode (am_b 86) 127 = .ok (.goto (-24), 3) := by decide +kernel
theorem d_86_130 : decode (am_b 86) 130 = .ok (.aload_n 0, 1) := by decide +kernel
theorem d_86_131 : decode (am_b 86) 131 = .ok (.aload_n 1, 1) := by decide +kernel
theorem d_86_132 : decode (am_b 86) 132 = .ok (.getfield 51, 3) := by decide +kernel
theorem d_86_135 : decode (am_b 86) 135 = .ok (.putfield 51, 3) := by decide +kernel
theorem d_86_138 : decode (am_b 86) 138 = .ok (.aload_n 0, 1) := by decide +kernel
theorem d_86_139 : decode (am_b 86) 139 = .ok (.aload_n 1, 1) := by decide +kernel
theorem d_86_140 : decode (am_b 86) 140 = .ok (.getfield 54, 3) := by decide +kernel
theorem d_86_143 : decode (am_b 86) 143 = .ok (.putfield 54, 3) := by decide +kernel
theorem d_86_146 : decode (am_b 86) 146 = .ok (.return_, 1) := by decide +kernel
theorem d_87_0 : decode (am_b 87) 0 = .ok (.iconst 0, 1) := by decide +kernel
theorem d_87_1 : decode (am_b 87) 1 = .ok (.istore_n 1, 1) := by decide +kernel
theorem d_87_2 : decode (am_b 87) 2 = .ok (.iconst 0, 1) := by decide +kernel
theorem d_87_3 : decode (am_b 87) 3 = .ok (.istore_n 2, 1) := by decide +kernel
theorem d_87_4 : decode (am_b 87) 4 = .ok (.iload_n 2, 1) := by decide +kernel
theorem d_87_5 : decode (am_b 87) 5 = .ok (.bipush 6, 2) := by decide +kernel
theorem d_87_7 : decode (am_b 87) 7 = .ok (.if_icmp .ge 24, 3) := by decide +kernel
theorem d_87_10 : decode (am_b 87) 10 = .ok (.aload_n 0, 1) := by decide +kernel
theorem d_87_11 : decode (am_b 87) 11 = .ok (.getfield 11, 3) := by decide +kernel
theorem d_87_14 : decode (am_b 87) 14 = .ok (.iload_n 2, 1) := by decide +kernel
theorem d_87_15 : decode (am_b 87) 15 = .ok (.aaload, 1) := by decide +kernel
theorem d_87_16 : decode (am_b 87) 16 = .ok (.getfield 64, 3) := by decide +kernel
theorem d_87_19 : decode (am_b 87) 19 = .ok (.ifCond .le 6, 3) := by decide +kernel
theorem d_87_22 : decode (am_b 87) 22 = .ok (.iinc 1 1, 3) := by decide +kernel
theorem d_87_25 : decode (am_b 87) 25 = .ok (.iinc 2 1, 3) := by decide +kernel
theorem d_87_28 : decode (am_b 87) 28 = .ok (.goto (-24), 3) := by decide +kernel
theorem d_87_31 : decode (am_b 87) 31 = .ok (.iload_n 1, 1) := by decide +kernel
theorem d_87_32 : decode (am_b 87) 32 = .ok (.ireturn, 1) := by decide +kernel
theorem d_88_0 : decode (am_b 88) 0 = .ok (.iconst 0, 1) := by decide +kernel
theorem d_88_1 : decode (am_b 88) 1 = .ok (.istore_n 1, 1) := by decide +kernel
theorem d_88_2 : decode (am_b 88) 2 = .ok (.iconst 0, 1) := by decide +kernel
theorem d_88_3 : decode (am_b 88) 3 = .ok (.istore_n 2, 1) := by decide +kernel
theorem d_88_4 : decode (am_b 88) 4 = .ok (.iload_n 2, 1) := by decide +kernel
theorem d_88_5 : decode (am_b 88) 5 = .ok (.aload_n 0, 1) := by decide +kernel
theorem d_88_6 : decode (am_b 88) 6 = .ok (.getfield 42, 3) := by decide +kernel
theorem d_88_9 : decode (am_b 88) 9 = .ok (.aload_n 0, 1) := by decide +kernel
theorem d_88_10 : decode (am_b 88) 10 = .ok (.getfield 42, 3) := by decide +kernel
theorem d_88_13 : decode (am_b 88) 13 = .ok (.imul, 1) := by decide +kernel
theorem d_88_14 : decode (am_b 88) 14 = .ok (.if_icmp .ge 22, 3) := by decide +kernel
theorem d_88_17 : decode (am_b 88) 17 = .ok (.aload_n 0, 1) := by decide +kernel
theorem d_88_18 : decode (am_b 88) 18 = .ok (.getfield 23, 3) := by decide +kernel
theorem d_88_21 : decode (am_b 88) 21 = .ok (.iload_n 2, 1) := by decide +kernel
theorem d_88_22 : decode (am_b 88) 22 = .ok (.iaload, 1) := by decide +kernel
theorem d_88_23 : decode (am_b 88) 23 = .ok (.iconst (-1), 1) := by decide +kernel
theorem d_88_24 : decode (am_b 88) 24 = .ok (.if_icmp .eq 6, 3) := by decide +kernel
theorem d_88_27 : decode (am_b 88) 27 = .ok (.iinc 1 1, 3) := by decide +kernel
theorem d_88_30 : decode (am_b 88) 30 = .ok (.iinc 2 1, 3) := by decide +kernel
theorem d_88_33 : decode (am_b 88) 33 = .ok (.goto (-29), 3) := by decide +kernel
theorem d_88_36 : decode (am_b 88) 36 = .ok (.iload_n 1, 1) := by decide +kernel
theorem d_88_37 : decode (am_b 88) 37 = .ok (.ireturn, 1) := by decide +kernel
theorem d_89_0 : decode (am_b 89) 0 = .ok (.aload_n 0, 1) := by decide +kernel
theorem d_89_1 : decode (am_b 89) 1 = .ok (.invokespecial 3, 3) := by decide +kernel
theorem d_89_4 : decode (am_b 89) 4 = .ok (.aload_n 0, 1) := by decide +kernel
theorem d_89_5 : decode (am_b 89) 5 = .ok (.bipush 36, 2) := by decide +kernel
theorem d_89_7 : decode (am_b 89) 7 = .ok (.newarray .int, 2) := by decide +kernel
theorem d_89_9 : decode (am_b 89) 9 = .ok (.putfield 9, 3) := by decide +kernel
theorem d_89_12 : decode (am_b 89) 12 = .ok (.return_, 1) := by decide +kernel
