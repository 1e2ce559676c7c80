/-! decode rows, printed by wip/whole/gen_decparts.py -/
theorem d_145_0 : decode (am_b 145) 0 = .ok (.iload_n 1, 1) := by decide +kernel
theorem d_145_1 : decode (am_b 145) 1 = .ok (.invokestatic 119, 3) := by decide +kernel
theorem d_145_4 : decode (am_b 145) 4 = .ok (.ifCond .eq 19, 3) := by decide +kernel
theorem d_145_7 : decode (am_b 145) 7 = .ok (.aload_n 0, 1) := by decide +kernel
theorem d_145_8 : decode (am_b 145) 8 = .ok (.iload_n 2, 1) := by decide +kernel
theorem d_145_9 : decode (am_b 145) 9 = .ok (.invokevirtual 258, 3) := by decide +kernel
theorem d_145_12 : decode (am_b 145) 12 = .ok (.ifCond .eq 11, 3) := by decide +kernel
theorem d_145_15 : decode (am_b 145) 15 = .ok (.aload_n 0, 1) := by decide +kernel
theorem d_145_16 : decode (am_b 145) 16 = .ok (.iload_n 3, 1) := by decide +kernel
theorem d_145_17 : decode (am_b 145) 17 = .ok (.invokevirtual 258, 3) := by decide +kernel
theorem d_145_20 : decode (am_b 145) 20 = .ok (.ifCond .ne 5, 3) := by decide +kernel
theorem d_145_23 : decode (am_b 145) 23 = .ok (.iconst (-1), 1) := by decide +kernel
theorem d_145_24 : decode (am_b 145) 24 = .ok (.ireturn, 1) := by decide +kernel
theorem d_145_25 : decode (am_b 145) 25 = .ok (.aload_n 0, 1) := by decide +kernel
theorem d_145_26 : decode (am_b 145) 26 = .ok (.getfield 55, 3) := by decide +kernel
theorem d_145_29 : decode (am_b 145) 29 = .ok (.aload_n 0, 1) := by decide +kernel
theorem d_145_30 : decode (am_b 145) 30 = .ok (.getfield 10, 3) := by decide +kernel
theorem d_145_33 : decode (am_b 145) 33 = .ok (.getfield 241, 3) := by decide +kernel
theorem d_145_36 : decode (am_b 145) 36 = .ok (.iload_n 2, 1) := by decide +kernel
theorem d_145_37 : decode (am_b 145) 37 = .ok (.iload_n 3, 1) := by decide +kernel
theorem d_145_38 : decode (am_b 145) 38 = .ok (.invokevirtual 261, 3) := by decide +kernel
theorem d_145_41 : decode (am_b 145) 41 = .ok (.aload_n 0, 1) := by decide +kernel
theorem d_145_42 : decode (am_b 145) 42 = .ok (.getfield 55, 3) := by decide +kernel
theorem d_145_45 : decode (am_b 145) 45 = .ok (.iload_n 1, 1) := by decide +kernel
theorem d_145_46 : decode (am_b 145) 46 = .ok (.iconst (-1), 1) := by decide +kernel
theorem d_145_47 : decode (am_b 145) 47 = .ok (.invokevirtual 265, 3) := by decide +kernel
theorem d_145_50 : decode (am_b 145) 50 = .ok (.pop, 1) := by decide +kernel
theorem d_145_51 : decode (am_b 145) 51 = .ok (.aload_n 0, 1) := by decide +kernel
theorem d_145_52 : decode (am_b 145) 52 = .ok (.getfield 55, 3) := by decide +kernel
theorem d_145_55 : decode (am_b 145) 55 = .ok (.getfield 268, 3) := by decide +kernel
theorem d_145_58 : decode (am_b 145) 58 = .ok (.ireturn, 1) := by decide +kernel
theorem d_146_0 : decode (am_b 146) 0 = .ok (.iload_n 1, 1) := by decide +kernel
theorem d_146_1 : decode (am_b 146) 1 = .ok (.ifCond .lt 20, 3) := by decide +kernel
theorem d_146_4 : decode (am_b 146) 4 = .ok (.iload_n 1, 1) := by decide +kernel
theorem d_146_5 : decode (am_b 146) 5 = .ok (.iconst 1, 1) := by decide +kernel
theorem d_146_6 : decode (am_b 146) 6 = .ok (.aload_n 0, 1) := by decide +kernel
theorem d_146_7 : decode (am_b 146) 7 = .ok (.getfield 10, 3) := by decide +kernel
theorem d_146_10 : decode (am_b 146) 10 = .ok (.getfield 231, 3) := by decide +kernel
theorem d_146_13 : decode (am_b 146) 13 = .ok (.ishl, 1) := by decide +kernel
theorem d_146_14 : decode (am_b 146) 14 = .ok (.if_icmp .ge 7, 3) := by decide +kernel
theorem d_146_17 : decode (am_b 146) 17 = .ok (.iconst 1, 1) := by decide +kernel
theorem d_146_18 : decode (am_b 146) 18 = .ok (.goto 4, 3) := by decide +kernel
theorem d_146_21 : decode (am_b 146) 21 = .ok (.iconst 0, 1) := by decide +kernel
theorem d_146_22 : decode (am_b 146) 22 = .ok (.ireturn, 1) := by decide +kernel
theorem d_147_0 : decode (am_b 147) 0 = .ok (.iload_n 1, 1) := by decide +kernel
theorem d_147_1 : decode (am_b 147) 1 = .ok (.invokestatic 100, 3) := by decide +kernel
theorem d_147_4 : decode (am_b 147) 4 = .ok (.ifCond .eq 27, 3) := by decide +kernel
theorem d_147_7 : decode (am_b 147) 7 = .ok (.iload_n 2, 1) := by decide +kernel
theorem d_147_8 : decode (am_b 147) 8 = .ok (.invokestatic 119, 3) := by decide +kernel
theorem d_147_11 : decode (am_b 147) 11 = .ok (.ifCond .eq 20, 3) := by decide +kernel
theorem d_147_14 : decode (am_b 147) 14 = .ok (.aload_n 0, 1) := by decide +kernel
theorem d_147_15 : decode (am_b 147) 15 = .ok (.iload_n 3, 1) := by decide +kernel
theorem d_147_16 : decode (am_b 147) 16 = .ok (.invokevirtual 258, 3) := by decide +kernel
theorem d_147_19 : decode (am_b 147) 19 = .ok (.ifCond .eq 12, 3) := by decide +kernel
theorem d_147_22 : decode (am_b 147) 22 = .ok (.aload_n 0, 1) := by decide +kernel
theorem d_147_23 : decode (am_b 147) 23 = .ok (.iload 4, 2) := by decide +kernel
theorem d_147_25 : decode (am_b 147) 25 = .ok (.invokevirtual 258, 3) := by decide +kernel
theorem d_147_28 : decode (am_b 147) 28 = .ok (.ifCond .ne 9, 3) := by decide +kernel
theorem d_147_31 : decode (am_b 147) 31 = .ok (.aload_n 0, 1) := by decide +kernel
theorem d_147_32 : decode (am_b 147) 32 = .ok (.iconst (-1), 1) := by decide +kernel
theorem d_147_33 : decode (am_b 147) 33 = .ok (.invokevirtual 104, 3) := by decide +kernel
theorem d_147_36 : decode (am_b 147) 36 = .ok (.ireturn, 1) := by decide +kernel
theorem d_147_37 : decode (am_b 147) 37 = .ok (.aload_n 0, 1) := by decide +kernel
theorem d_147_38 : decode (am_b 147) 38 = .ok (.getfield 55, 3) := by decide +kernel
theorem d_147_41 : decode (am_b 147) 41 = .ok (.aload_n 0, 1) := by decide +kernel
theorem d_147_42 : decode (am_b 147) 42 = .ok (.getfield 10, 3) := by decide +kernel
theorem d_147_45 : decode (am_b 147) 45 = .ok (.getfield 241, 3) := by decide +kernel
theorem d_147_48 : decode (am_b 147) 48 = .ok (.iload_n 3, 1) := by decide +kernel
theorem d_147_49 : decode (am_b 147) 49 = .ok (.iload 4, 2) := by decide +kernel
theorem d_147_51 : decode (am_b 147) 51 = .ok (.invokevirtual 261, 3) := by decide +kernel
theorem d_147_54 : decode (am_b 147) 54 = .ok (.iload 5, 2) := by decide +kernel
theorem d_147_56 : decode (am_b 147) 56 = .ok (.ifCond .lt 16, 3) := by decide +kernel
theorem d_147_59 : decode (am_b 147) 59 = .ok (.aload_n 0, 1) := by decide +kernel
theorem d_147_60 : decode (am_b 147) 60 = .ok (.getfield 55, 3) := by decide +kernel
theorem d_147_63 : decode (am_b 147) 63 = .ok (.iload_n 2, 1) := by decide +kernel
theorem d_147_64 : decode (am_b 147) 64 = .ok (.iload 5, 2) := by decide +kernel
theorem d_147_66 : decode (am_b 147) 66 = .ok (.invokevirtual 265, 3) := by decide +kernel
theorem d_147_69 : decode (am_b 147) 69 = .ok (.ifCond .ne 10, 3) := by decide +kernel
theorem d_147_72 : decode (am_b 147) 72 = .ok (.aload_n 0, 1) := by decide +kernel
theorem d_147_73 : decode (am_b 147) 73 = .ok (.bipush (-3), 2) := by decide +kernel
theorem d_147_75 : decode (am_b 147) 75 = .ok (.invokevirtual 104, 3) := by decide +kernel
theorem d_147_78 : decode (am_b 147) 78 = .ok (.ireturn, 1) := by decide +kernel
theorem d_147_79 : decode (am_b 147) 79 = .ok (.aload_n 0, 1) := by decide +kernel
theorem d_147_80 : decode (am_b 147) 80 = .ok (.getfield 38, 3) := by decide +kernel
theorem d_147_83 : decode (am_b 147) 83 = .ok (.aload_n 0, 1) := by decide +kernel
theorem d_147_84 : decode (am_b 147) 84 = .ok (.getfield 55, 3) := by decide +kernel
theorem d_147_87 : decode (am_b 147) 87 = .ok (.getfield 271, 3) := by decide +kernel
theorem d_147_90 : decode (am_b 147) 90 = .ok (.invokevirtual 144, 3) := by decide +kernel
theorem d_147_93 : decode (am_b 147) 93 = .ok (.aload_n 0, 1) := by decide +kernel
theorem d_147_94 : decode (am_b 147) 94 = .ok (.iload_n 1, 1) := by decide +kernel
theorem d_147_95 : decode (am_b 147) 95 = .ok (.iconst 0, 1) := by decide +kernel
theorem d_147_96 : decode (am_b 147) 96 = .ok (.invokevirtual 115, 3) := by decide +kernel
theorem d_147_99 : decode (am_b 147) 99 = .ok (.ireturn, 1) := by decide +kernel
theorem d_148_0 : decode (am_b 148) 0 = .ok (.aload_n 0, 1) := by decide +kernel
theorem d_148_1 : decode (am_b 148) 1 = .ok (.iload_n 1, 1) := by decide +kernel
theorem d_148_2 : decode (am_b 148) 2 = .ok (.invokevirtual 137, 3) := by decide +kernel
theorem d_148_5 : decode (am_b 148) 5 = .ok (.ifCond .eq 19, 3) := by decide +kernel
theorem d_148_8 : decode (am_b 148) 8 = .ok (.aload_n 0, 1) := by decide +kernel
theorem d_148_9 : decode (am_b 148) 9 = .ok (.getfield 10, 3) := by decide +kernel
theorem d_148_12 : decode (am_b 148) 12 = .ok (.getfield 140, 3) := by decide +kernel
theorem d_148_15 : decode (am_b 148) 15 = .ok (.iload_n 1, 1) := by decide +kernel
theorem d_148_16 : decode (am_b 148) 16 = .ok (.aaload, 1) := by decide +kernel
theorem d_148_17 : decode (am_b 148) 17 = .ok (.iload_n 2, 1) := by decide +kernel
theorem d_148_18 : decode (am_b 148) 18 = .ok (.invokestatic 274, 3) := by decide +kernel
theorem d_148_21 : decode (am_b 148) 21 = .ok (.goto 4, 3) := by decide +kernel
theorem d_148_24 : decode (am_b 148) 24 = .ok (.iconst (-1), 1) := by decide +kernel
theorem d_148_25 : decode (am_b 148) 25 = .ok (.ireturn, 1) := by decide +kernel
theorem d_149_0 : decode (am_b 149) 0 = .ok (.aload_n 0, 1) := by decide +kernel
theorem d_149_1 : decode (am_b 149) 1 = .ok (.iload_n 1, 1) := by decide +kernel
theorem d_149_2 : decode (am_b 149) 2 = .ok (.invokevirtual 137, 3) := by decide +kernel
theorem d_149_5 : decode (am_b 149) 5 = .ok (.ifCond .ne 5, 3) := by decide +kernel
theorem d_149_8 : decode (am_b 149) 8 = .ok (.iconst (-1), 1) := by decide +kernel
theorem d_149_9 : decode (am_b 149) 9 = .ok (.ireturn, 1) := by decide +kernel
theorem d_149_10 : decode (am_b 149) 10 = .ok (.iload_n 2, 1) := by decide +kernel
theorem d_149_11 : decode (am_b 149) 11 = .ok (.lookupswitch 51 #[(0, 25), (1, 38)], 25) := by decide +kernel
theorem d_149_36 : decode (am_b 149) 36 = .ok (.aload_n 0, 1) := by decide +kernel
theorem d_149_37 : decode (am_b 149) 37 = .ok (.getfield 10, 3) := by decide +kernel
theorem d_149_40 : decode (am_b 149) 40 = .ok (.getfield 140, 3) := by decide +kernel
theorem d_149_43 : decode (am_b 149) 43 = .ok (.iload_n 1, 1) := by decide +kernel
theorem d_149_44 : decode (am_b 149) 44 = .ok (.aaload, 1) := by decide +kernel
theorem d_149_45 : decode (am_b 149) 45 = .ok (.invokestatic 278, 3) := by decide +kernel
theorem d_149_48 : decode (am_b 149) 48 = .ok (.ireturn, 1) := by decide +kernel
theorem d_149_49 : decode (am_b 149) 49 = .ok (.aload_n 0, 1) := by decide +kernel
theorem d_149_50 : decode (am_b 149) 50 = .ok (.getfield 10, 3) := by decide +kernel
theorem d_149_53 : decode (am_b 149) 53 = .ok (.getfield 140, 3) := by decide +kernel
theorem d_149_56 : decode (am_b 149) 56 = .ok (.iload_n 1, 1) := by decide +kernel
theorem d_149_57 : decode (am_b 149) 57 = .ok (.aaload, 1) := by decide +kernel
theorem d_149_58 : decode (am_b 149) 58 = .ok (.invokestatic 282, 3) := by decide +kernel
theorem d_149_61 : decode (am_b 149) 61 = .ok (.ireturn, 1) := by decide +kernel
theorem d_149_62 : decode (am_b 149) 62 = .ok (.iconst (-1), 1) := by decide +kernel
theorem d_149_63 : decode (am_b 149) 63 = .ok (.ireturn, 1) := by decide +kernel
theorem d_150_0 : decode (am_b 150) 0 = .ok (.aload_n 0, 1) := by decide +kernel
theorem d_150_1 : decode (am_b 150) 1 = .ok (.iload_n 1, 1) := by decide +kernel
theorem d_150_2 : decode (am_b 150) 2 = .ok (.invokevirtual 137, 3) := by decide +kernel
theorem d_150_5 : decode (am_b 150) 5 = .ok (.ifCond .eq 19, 3) := by decide +kernel
theorem d_150_8 : decode (am_b 150) 8 = .ok (.aload_n 0, 1) := by decide +kernel
theorem d_150_9 : decode (am_b 150) 9 = .ok (.getfield 10, 3) := by decide +kernel
theorem d_150_12 : decode (am_b 150) 12 = .ok (.getfield 140, 3) := by decide +kernel
theorem d_150_15 : decode (am_b 150) 15 = .ok (.iload_n 1, 1) := by decide +kernel
theorem d_150_16 : decode (am_b 150) 16 = .ok (.aaload, 1) := by decide +kernel
theorem d_150_17 : decode (am_b 150) 17 = .ok (.iload_n 2, 1) := by decide +kernel
theorem d_150_18 : decode (am_b 150) 18 = .ok (.invokevirtual 285, 3) := by decide +kernel
theorem d_150_21 : decode (am_b 150) 21 = .ok (.ifCond .ne 5, 3) := by decide +kernel
theorem d_150_24 : decode (am_b 150) 24 = .ok (.iconst (-1), 1) := by decide +kernel
theorem d_150_25 : decode (am_b 150) 25 = .ok (.ireturn, 1) := by decide +kernel
theorem d_150_26 : decode (am_b 150) 26 = .ok (.aload_n 0, 1) := by decide +kernel
theorem d_150_27 : decode (am_b 150) 27 = .ok (.getfield 10, 3) := by decide +kernel
theorem d_150_30 : decode (am_b 150) 30 = .ok (.getfield 140, 3) := by decide +kernel
theorem d_150_33 : decode (am_b 150) 33 = .ok (.iload_n 1, 1) := by decide +kernel
theorem d_150_34 : decode (am_b 150) 34 = .ok (.aaload, 1) := by decide +kernel
theorem d_150_35 : decode (am_b 150) 35 = .ok (.iload_n 2, 1) := by decide +kernel
theorem d_150_36 : decode (am_b 150) 36 = .ok (.invokestatic 288, 3) := by decide +kernel
theorem d_150_39 : decode (am_b 150) 39 = .ok (.ireturn, 1) := by decide +kernel
theorem d_151_0 : decode (am_b 151) 0 = .ok (.aload_n 0, 1) := by decide +kernel
theorem d_151_1 : decode (am_b 151) 1 = .ok (.iload_n 1, 1) := by decide +kernel
theorem d_151_2 : decode (am_b 151) 2 = .ok (.invokevirtual 137, 3) := by decide +kernel
theorem d_151_5 : decode (am_b 151) 5 = .ok (.ifCond .eq 12, 3) := by decide +kernel
theorem d_151_8 : decode (am_b 151) 8 = .ok (.iload_n 2, 1) := by decide +kernel
theorem d_151_9 : decode (am_b 151) 9 = .ok (.ifCond .lt 8, 3) := by decide +kernel
theorem d_151_12 : decode (am_b 151) 12 = .ok (.iload_n 2, 1) := by decide +kernel
theorem d_151_13 : decode (am_b 151) 13 = .ok (.iconst 1, 1) := by decide +kernel
theorem d_151_14 : decode (am_b 151) 14 = .ok (.if_icmp .le 5, 3) := by decide +kernel
theorem d_151_17 : decode (am_b 151) 17 = .ok (.iconst (-1), 1) := by decide +kernel
theorem d_151_18 : decode (am_b 151) 18 = .ok (.ireturn, 1) := by decide +kernel
theorem d_151_19 : decode (am_b 151) 19 = .ok (.iload_n 2, 1) := by decide +kernel
theorem d_151_20 : decode (am_b 151) 20 = .ok (.iconst 1, 1) := by decide +kernel
theorem d_151_21 : decode (am_b 151) 21 = .ok (.if_icmp .ne 7, 3) := by decide +kernel
theorem d_151_24 : decode (am_b 151) 24 = .ok (.iconst 1, 1) := by decide +kernel
theorem d_151_25 : decode (am_b 151) 25 = .ok (.goto 4, 3) := by decide +kernel
theorem d_151_28 : decode (am_b 151) 28 = .ok (.iconst 0, 1) := by decide +kernel
theorem d_151_29 : decode (am_b 151) 29 = .ok (.istore_n 3, 1) := by decide +kernel
theorem d_151_30 : decode (am_b 151) 30 = .ok (.iload_n 3, 1) := by decide +kernel
theorem d_151_31 : decode (am_b 151) 31 = .ok (.ifCond .eq 21, 3) := by decide +kernel
theorem d_151_34 : decode (am_b 151) 34 = .ok (.aload_n 0, 1) := by decide +kernel
theorem d_151_35 : decode (am_b 151) 35 = .ok (.getfield 10, 3) := by decide +kernel
theorem d_151_38 : decode (am_b 151) 38 = .ok (.getfield 140, 3) := by decide +kernel
theorem d_151_41 : decode (am_b 151) 41 = .ok (.iload_n 1, 1) := by decide +kernel
theorem d_151_42 : decode (am_b 151) 42 = .ok (.aaload, 1) := by decide +kernel
theorem d_151_43 : decode (am_b 151) 43 = .ok (.invokevirtual 193, 3) := by decide +kernel
theorem d_151_46 : decode (am_b 151) 46 = .ok (.iconst (-1), 1) := by decide +kernel
theorem d_151_47 : decode (am_b 151) 47 = .ok (.if_icmp .ne 5, 3) := by decide +kernel
theorem d_151_50 : decode (am_b 151) 50 = .ok (.iconst (-1), 1) := by decide +kernel
theorem d_151_51 : decode (am_b 151) 51 = .ok (.ireturn, 1) := by decide +kernel
theorem d_151_52 : decode (am_b 151) 52 = .ok (.aload_n 0, 1) := by decide +kernel
theorem d_151_53 : decode (am_b 151) 53 = .ok (.getfield 10, 3) := by decide +kernel
theorem d_151_56 : decode (am_b 151) 56 = .ok (.getfield 140, 3) := by decide +kernel
theorem d_151_59 : decode (am_b 151) 59 = .ok (.iload_n 1, 1) := by decide +kernel
theorem d_151_60 : decode (am_b 151) 60 = .ok (.aaload, 1) := by decide +kernel
theorem d_151_61 : decode (am_b 151) 61 = .ok (.iload_n 3, 1) := by decide +kernel
theorem d_151_62 : decode (am_b 151) 62 = .ok (.invokestatic 291, 3) := by decide +kernel
theorem d_151_65 : decode (am_b 151) 65 = .ok (.ireturn, 1) := by decide +kernel
theorem d_152_0 : decode (am_b 152) 0 = .ok (.aload_n 0, 1) := by decide +kernel
theorem d_152_1 : decode (am_b 152) 1 = .ok (.iload_n 1, 1) := by decide +kernel
theorem d_152_2 : decode (am_b 152) 2 = .ok (.invokevirtual 137, 3) := by decide +kernel
theorem d_152_5 : decode (am_b 152) 5 = .ok (.ifCond .eq 12, 3) := by decide +kernel
theorem d_152_8 : decode (am_b 152) 8 = .ok (.iload_n 2, 1) := by decide +kernel
theorem d_152_9 : decode (am_b 152) 9 = .ok (.ifCond .lt 8, 3) := by decide +kernel
theorem d_152_12 : decode (am_b 152) 12 = .ok (.iload_n 2, 1) := by decide +kernel
theorem d_152_13 : decode (am_b 152) 13 = .ok (.iconst 1, 1) := by decide +kernel
theorem d_152_14 : decode (am_b 152) 14 = .ok (.if_icmp .le 5, 3) := by decide +kernel
theorem d_152_17 : decode (am_b 152) 17 = .ok (.iconst (-1), 1) := by decide +kernel
theorem d_152_18 : decode (am_b 152) 18 = .ok (.ireturn, 1) := by decide +kernel
theorem d_152_19 : decode (am_b 152) 19 = .ok (.aload_n 0, 1) := by decide +kernel
theorem d_152_20 : decode (am_b 152) 20 = .ok (.getfield 10, 3) := by decide +kernel
theorem d_152_23 : decode (am_b 152) 23 = .ok (.getfield 140, 3) := by decide +kernel
theorem d_152_26 : decode (am_b 152) 26 = .ok (.iload_n 1, 1) := by decide +kernel
theorem d_152_27 : decode (am_b 152) 27 = .ok (.aaload, 1) := by decide +kernel
theorem d_152_28 : decode (am_b 152) 28 = .ok (.invokestatic 295, 3) := by decide +kernel
theorem d_152_31 : decode (am_b 152) 31 = .ok (.istore_n 3, 1) := by decide +kernel
theorem d_152_32 : decode (am_b 152) 32 = .ok (.iload_n 2, 1) := by decide +kernel
theorem d_152_33 : decode (am_b 152) 33 = .ok (.ifCond .ne 10, 3) := by decide +kernel
theorem d_152_36 : decode (am_b 152) 36 = .ok (.iload_n 3, 1) := by decide +kernel
theorem d_152_37 : decode (am_b 152) 37 = .ok (.invokestatic 181, 3) := by decide +kernel
theorem d_152_40 : decode (am_b 152) 40 = .ok (.goto 4, 3) := by decide +kernel
theorem d_152_43 : decode (am_b 152) 43 = .ok (.iload_n 3, 1) := by decide +kernel
theorem d_152_44 : decode (am_b 152) 44 = .ok (.ireturn, 1) := by decide +kernel
theorem d_153_0 : decode (am_b 153) 0 = .ok (.aload_n 0, 1) := by decide +kernel
theorem d_153_1 : decode (am_b 153) 1 = .ok (.iload_n 1, 1) := by decide +kernel
theorem d_153_2 : decode (am_b 153) 2 = .ok (.invokevirtual 137, 3) := by decide +kernel
theorem d_153_5 : decode (am_b 153) 5 = .ok (.ifCond .eq 12, 3) := by decide +kernel
theorem d_153_8 : decode (am_b 153) 8 = .ok (.iload_n 2, 1) := by decide +kernel
theorem d_153_9 : decode (am_b 153) 9 = .ok (.ifCond .lt 8, 3) := by decide +kernel
theorem d_153_12 : decode (am_b 153) 12 = .ok (.iload_n 2, 1) := by decide +kernel
theorem d_153_13 : decode (am_b 153) 13 = .ok (.iconst 2, 1) := by decide +kernel
theorem d_153_14 : decode (am_b 153) 14 = .ok (.if_icmp .le 5, 3) := by decide +kernel
theorem d_153_17 : decode (am_b 153) 17 = .ok (.iconst (-1), 1) := by decide +kernel
theorem d_153_18 : decode (am_b 153) 18 = .ok (.ireturn, 1) := by decide +kernel
theorem d_153_19 : decode (am_b 153) 19 = .ok (.aload_n 0, 1) := by decide +kernel
theorem d_153_20 : decode (am_b 153) 20 = .ok (.getfield 79, 3) := by decide +kernel
theorem d_153_23 : decode (am_b 153) 23 = .ok (.aload_n 0, 1) := by decide +kernel
theorem d_153_24 : decode (am_b 153) 24 = .ok (.getfield 10, 3) := by decide +kernel
theorem d_153_27 : decode (am_b 153) 27 = .ok (.getfield 140, 3) := by decide +kernel
theorem d_153_30 : decode (am_b 153) 30 = .ok (.iload_n 1, 1) := by decide +kernel
theorem d_153_31 : decode (am_b 153) 31 = .ok (.aaload, 1) := by decide +kernel
theorem d_153_32 : decode (am_b 153) 32 = .ok (.iload_n 2, 1) := by decide +kernel
theorem d_153_33 : decode (am_b 153) 33 = .ok (.iconst 1, 1) := by decide +kernel
theorem d_153_34 : decode (am_b 153) 34 = .ok (.if_icmp .eq 7, 3) := by decide +kernel
theorem d_153_37 : decode (am_b 153) 37 = .ok (.iconst 1, 1) := by decide +kernel
theorem d_153_38 : decode (am_b 153) 38 = .ok (.goto 4, 3) := by decide +kernel
theorem d_153_41 : decode (am_b 153) 41 = .ok (.iconst 0, 1) := by decide +kernel
theorem d_153_42 : decode (am_b 153) 42 = .ok (.iload_n 2, 1) := by decide +kernel
theorem d_153_43 : decode (am_b 153) 43 = .ok (.ifCond .eq 7, 3) := by decide +kernel
theorem d_153_46 : decode (am_b 153) 46 = .ok (.iconst 1, 1) := by decide +kernel
theorem d_153_47 : decode (am_b 153) 47 = .ok (.goto 4, 3) := by decide +kernel
theorem d_153_50 : decode (am_b 153) 50 = .ok (.iconst 0, 1) := by decide +kernel
theorem d_153_51 : decode (am_b 153) 51 = .ok (.invokevirtual 298, 3) := by decide +kernel
theorem d_153_54 : decode (am_b 153) 54 = .ok (.ireturn, 1) := by decide +kernel
theorem d_154_0 : decode (am_b 154) 0 = .ok (.iconst 0, 1) := by decide +kernel
theorem d_154_1 : decode (am_b 154) 1 = .ok (.istore_n 1, 1) := by decide +kernel
theorem d_154_2 : decode (am_b 154) 2 = .ok (.iload_n 1, 1) := by decide +kernel
theorem d_154_3 : decode (am_b 154) 3 = .ok (.aload_n 0, 1) := by decide +kernel
theorem d_154_4 : decode (am_b 154) 4 = .ok (.arraylength, 1) := by decide +kernel
theorem d_154_5 : decode (am_b 154) 5 = .ok (.if_icmp .ge 13, 3) := by decide +kernel
theorem d_154_8 : decode (am_b 154) 8 = .ok (.aload_n 0, 1) := by decide +kernel
theorem d_154_9 : decode (am_b 154) 9 = .ok (.iload_n 1, 1) := by decide +kernel
theorem d_154_10 : decode (am_b 154) 10 = .ok (.iload_n 1, 1) := by decide +kernel
theorem d_154_11 : decode (am_b 154) 11 = .ok (.iastore, 1) := by decide +kernel
theorem d_154_12 : decode (am_b 154) 12 = .ok (.iinc 1 1, 3) := by decide +kernel
theorem d_154_15 : decode (am_b 154) 15 = .ok (.goto (-13), 3) := by decide +kernel
theorem d_154_18 : decode (am_b 154) 18 = .ok (.return_, 1) := by decide +kernel
theorem d_155_0 : decode (am_b 155) 0 = .ok (.aload_n 0, 1) := by decide +kernel
theorem d_155_1 : decode (am_b 155) 1 = .ok (.iload_n 1, 1) := by decide +kernel
theorem d_155_2 : decode (am_b 155) 2 = .ok (.invokevirtual 137, 3) := by decide +kernel
theorem d_155_5 : decode (am_b 155) 5 = .ok (.ifCond .eq 10, 3) := by decide +kernel
theorem d_155_8 : decode (am_b 155) 8 = .ok (.iload_n 2, 1) := by decide +kernel
theorem d_155_9 : decode (am_b 155) 9 = .ok (.invokestatic 302, 3) := by decide +kernel
theorem d_155_12 : decode (am_b 155) 12 = .ok (.ifCond .ne 5, 3) := by decide +kernel
theorem d_155_15 : decode (am_b 155) 15 = .ok (.iconst (-1), 1) := by decide +kernel
theorem d_155_16 : decode (am_b 155) 16 = .ok (.ireturn, 1) := by decide +kernel
theorem d_155_17 : decode (am_b 155) 17 = .ok (.aload_n 0, 1) := by decide +kernel
theorem d_155_18 : decode (am_b 155) 18 = .ok (.getfield 10, 3) := by decide +kernel
theorem d_155_21 : decode (am_b 155) 21 = .ok (.getfield 140, 3) := by decide +kernel
theorem d_155_24 : decode (am_b 155) 24 = .ok (.iload_n 1, 1) := by decide +kernel
theorem d_155_25 : decode (am_b 155) 25 = .ok (.aaload, 1) := by decide +kernel
theorem d_155_26 : decode (am_b 155) 26 = .ok (.astore 4, 2) := by decide +kernel
theorem d_155_28 : decode (am_b 155) 28 = .ok (.iload_n 3, 1) := by decide +kernel
theorem d_155_29 : decode (am_b 155) 29 = .ok (.ifCond .lt 18, 3) := by decide +kernel
theorem d_155_32 : decode (am_b 155) 32 = .ok (.iload_n 3, 1) := by decide +kernel
theorem d_155_33 : decode (am_b 155) 33 = .ok (.aload 4, 2) := by decide +kernel
theorem d_155_35 : decode (am_b 155) 35 = .ok (.getfield 112, 3) := by decide +kernel
theorem d_155_38 : decode (am_b 155) 38 = .ok (.aload 4, 2) := by decide +kernel
theorem d_155_40 : decode (am_b 155) 40 = .ok (.getfield 112, 3) := by decide +kernel
theorem d_155_43 : decode (am_b 155) 43 = .ok (.imul, 1) := by decide +kernel
theorem d_155_44 : decode (am_b 155) 44 = .ok (.if_icmp .lt 5, 3) := by decide +kernel
theorem d_155_47 : decode (am_b 155) 47 = .ok (.iconst (-1), 1) := by decide +kernel
theorem d_155_48 : decode (am_b 155) 48 = .ok (.ireturn, 1) := by decide +kernel
theorem d_155_49 : decode (am_b 155) 49 = .ok (.aload_n 0, 1) := by decide +kernel
theorem d_155_50 : decode (am_b 155) 50 = .ok (.getfield 69, 3) := by decide +kernel
theorem d_155_53 : decode (am_b 155) 53 = .ok (.aload 4, 2) := by decide +kernel
theorem d_155_55 : decode (am_b 155) 55 = .ok (.iload_n 2, 1) := by decide +kernel
theorem d_155_56 : decode (am_b 155) 56 = .ok (.invokevirtual 305, 3) := by decide +kernel
theorem d_155_59 : decode (am_b 155) 59 = .ok (.getfield 122, 3) := by decide +kernel
theorem d_155_62 : decode (am_b 155) 62 = .ok (.iload_n 3, 1) := by decide +kernel
theorem d_155_63 : decode (am_b 155) 63 = .ok (.iaload, 1) := by decide +kernel
theorem d_155_64 : decode (am_b 155) 64 = .ok (.ireturn, 1) := by decide +kernel
theorem d_156_0 : decode (am_b 156) 0 = .ok (.iload_n 0, 1) := by decide +kernel
theorem d_156_1 : decode (am_b 156) 1 = .ok (.ifCond .lt 12, 3) := by decide +kernel
theorem d_156_4 : decode (am_b 156) 4 = .ok (.iload_n 0, 1) := by decide +kernel
theorem d_156_5 : decode (am_b 156) 5 = .ok (.iconst 2, 1) := by decide +kernel
theorem d_156_6 : decode (am_b 156) 6 = .ok (.if_icmp .gt 7, 3) := by decide +kernel
theorem d_156_9 : decode (am_b 156) 9 = .ok (.iconst 1, 1) := by decide +kernel
theorem d_156_10 : decode (am_b 156) 10 = .ok (.goto 4, 3) := by decide +kernel
theorem d_156_13 : decode (am_b 156) 13 = .ok (.iconst 0, 1) := by decide +kernel
theorem d_156_14 : decode (am_b 156) 14 = .ok (.ireturn, 1) := by decide +kernel
theorem d_157_0 : decode (am_b 157) 0 = .ok (.iload_n 2, 1) := by decide +kernel
theorem d_157_1 : decode (am_b 157) 1 = .ok (.iconst 1, 1) := by decide +kernel
theorem d_157_2 : decode (am_b 157) 2 = .ok (.isub, 1) := by decide +kernel
theorem d_157_3 : decode (am_b 157) 3 = .ok (.istore_n 3, 1) := by decide +kernel
theorem d_157_4 : decode (am_b 157) 4 = .ok (.iload_n 3, 1) := by decide +kernel
theorem d_157_5 : decode (am_b 157) 5 = .ok (.iload_n 1, 1) := by decide +kernel
theorem d_157_6 : decode (am_b 157) 6 = .ok (.if_icmp .le 20, 3) := by decide +kernel
theorem d_157_9 : decode (am_b 157) 9 = .ok (.aload_n 0, 1) := by decide +kernel
theorem d_157_10 : decode (am_b 157) 10 = .ok (.iload_n 3, 1) := by decide +kernel
theorem d_157_11 : decode (am_b 157) 11 = .ok (.iconst 1, 1) := by decide +kernel
theorem d_157_12 : decode (am_b 157) 12 = .ok (.isub, 1) := by decide +kernel
theorem d_157_13 : decode (am_b 157) 13 = .ok (.iaload, 1) := by decide +kernel
theorem d_157_14 : decode (am_b 157) 14 = .ok (.aload_n 0, 1) := by decide +kernel
theorem d_157_15 : decode (am_b 157) 15 = .ok (.iload_n 3, 1) := by decide +kernel
theorem d_157_16 : decode (am_b 157) 16 = .ok (.iaload, 1) := by decide +kernel
theorem d_157_17 : decode (am_b 157) 17 = .ok (.if_icmp .le 9, 3) := by decide +kernel
theorem d_157_20 : decode (am_b 157) 20 = .ok (.iinc 3 (-1), 3) := by decide +kernel
theorem d_157_23 : decode (am_b 157) 23 = .ok (.goto (-19), 3) := by decide +kernel
theorem d_157_26 : decode (am_b 157) 26 = .ok (.iload_n 3, 1) := by decide +kernel
theorem d_157_27 : decode (am_b 157) 27 = .ok (.istore 4, 2) := by decide +kernel
theorem d_157_29 : decode (am_b 157) 29 = .ok (.iload_n 2, 1) := by decide +kernel
theorem d_157_30 : decode (am_b 157) 30 = .ok (.iconst 1, 1) := by decide +kernel
theorem d_157_31 : decode (am_b 157) 31 = .ok (.isub, 1) := by decide +kernel
theorem d_157_32 : decode (am_b 157) 32 = .ok (.istore 5, 2) := by decide +kernel
theorem d_157_34 : decode (am_b 157) 34 = .ok (.iload 4, 2) := by decide +kernel
theorem d_157_36 : decode (am_b 157) 36 = .ok (.iload 5, 2) := by decide +kernel
theorem d_157_38 : decode (am_b 157) 38 = .ok (.if_icmp .ge 20, 3) := by decide +kernel
theorem d_157_41 : decode (am_b 157) 41 = .ok (.aload_n 0, 1) := by decide +kernel
theorem d_157_42 : decode (am_b 157) 42 = .ok (.iload 4, 2) := by decide +kernel
theorem d_157_44 : decode (am_b 157) 44 = .ok (.iload 5, 2) := by decide +kernel
theorem d_157_46 : decode (am_b 157) 46 = .ok (.invokestatic 386, 3) := by decide +kernel
theorem d_157_49 : decode (am_b 157) 49 = .ok (.iinc 4 1, 3) := by decide +kernel
theorem d_157_52 : decode (am_b 157) 52 = .ok (.iinc 5 (-1), 3) := by decide +kernel
theorem d_157_55 : decode (am_b 157) 55 = .ok (.goto (-21), 3) := by decide +kernel
theorem d_157_58 : decode (am_b 157) 58 = .ok (.iload_n 3, 1) := by decide +kernel
theorem d_157_59 : decode (am_b 157) 59 = .ok (.iload_n 1, 1) := by decide +kernel
theorem d_157_60 : decode (am_b 157) 60 = .ok (.if_icmp .gt 4, 3) := by decide +kernel
theorem d_157_63 : decode (am_b 157) 63 = .ok (.return_, 1) := by decide +kernel
theorem d_157_64 : decode (am_b 157) 64 = .ok (.iload_n 3, 1) := by decide +kernel
theorem d_157_65 : decode (am_b 157) 65 = .ok (.istore 4, 2) := by decide +kernel
theorem d_157_67 : decode (am_b 157) 67 = .ok (.iload 4, 2) := by decide +kernel
theorem d_157_69 : decode (am_b 157) 69 = .ok (.iload_n 2, 1) := by decide +kernel
theorem d_157_70 : decode (am_b 157) 70 = .ok (.iconst 1, 1) := by decide +kernel
theorem d_157_71 : decode (am_b 157) 71 = .ok (.isub, 1) := by decide +kernel
theorem d_157_72 : decode (am_b 157) 72 = .ok (.if_icmp .ge 21, 3) := by decide +kernel
theorem d_157_75 : decode (am_b 157) 75 = .ok (.aload_n 0, 1) := by decide +kernel
theorem d_157_76 : decode (am_b 157) 76 = .ok (.iload 4, 2) := by decide +kernel
theorem d_157_78 : decode (am_b 157) 78 = .ok (.iaload, 1) := by decide +kernel
theorem d_157_79 : decode (am_b 157) 79 = .ok (.aload_n 0, 1) := by decide +kernel
theorem d_157_80 : decode (am_b 157) 80 = .ok (.iload_n 3, 1) := by decide +kernel
theorem d_157_81 : decode (am_b 157) 81 = .ok (.iconst 1, 1) := by decide +kernel
theorem d_157_82 : decode (am_b 157) 82 = .ok (.isub, 1) := by decide +kernel
theorem d_157_83 : decode (am_b 157) 83 = .ok (.iaload, 1) := by decide +kernel
theorem d_157_84 : decode (am_b 157) 84 = .ok (.if_icmp .ge 9, 3) := by decide +kernel
theorem d_157_87 : decode (am_b 157) 87 = .ok (.iinc 4 1, 3) := by decide +kernel
theorem d_157_90 : decode (am_b 157) 90 = .ok (.goto (-23), 3) := by decide +kernel
theorem d_157_93 : decode (am_b 157) 93 = .ok (.aload_n 0, 1) := by decide +kernel
theorem d_157_94 : decode (am_b 157) 94 = .ok (.iload_n 3, 1) := by decide +kernel
theorem d_157_95 : decode (am_b 157) 95 = .ok (.iconst 1, 1) := by decide +kernel
theorem d_157_96 : decode (am_b 157) 96 = .ok (.isub, 1) := by decide +kernel
theorem d_157_97 : decode (am_b 157) 97 = .ok (.iload 4, 2) := by decide +kernel
theorem d_157_99 : decode (am_b 157) 99 = .ok (.invokestatic 386, 3) := by decide +kernel
theorem d_157_102 : decode (am_b 157) 102 = .ok (.return_, 1) := by decide +kernel
theorem d_158_0 : decode (am_b 158) 0 = .ok (.aload_n 0, 1) := by decide +kernel
theorem d_158_1 : decode (am_b 158) 1 = .ok (.iload_n 1, 1) := by decide +kernel
theorem d_158_2 : decode (am_b 158) 2 = .ok (.invokevirtual 137, 3) := by decide +kernel
theorem d_158_5 : decode (am_b 158) 5 = .ok (.ifCond .eq 18, 3) := by decide +kernel
theorem d_158_8 : decode (am_b 158) 8 = .ok (.aload_n 0, 1) := by decide +kernel
theorem d_158_9 : decode (am_b 158) 9 = .ok (.iload_n 2, 1) := by decide +kernel
theorem d_158_10 : decode (am_b 158) 10 = .ok (.invokevirtual 137, 3) := by decide +kernel
theorem d_158_13 : decode (am_b 158) 13 = .ok (.ifCond .eq 10, 3) := by decide +kernel
theorem d_158_16 : decode (am_b 158) 16 = .ok (.iload_n 3, 1) := by decide +kernel
theorem d_158_17 : decode (am_b 158) 17 = .ok (.invokestatic 302, 3) := by decide +kernel
theorem d_158_20 : decode (am_b 158) 20 = .ok (.ifCond .ne 5, 3) := by decide +kernel
theorem d_158_23 : decode (am_b 158) 23 = .ok (.iconst (-1), 1) := by decide +kernel
theorem d_158_24 : decode (am_b 158) 24 = .ok (.ireturn, 1) := by decide +kernel
theorem d_158_25 : decode (am_b 158) 25 = .ok (.aload_n 0, 1) := by decide +kernel
theorem d_158_26 : decode (am_b 158) 26 = .ok (.getfield 10, 3) := by decide +kernel
theorem d_158_29 : decode (am_b 158) 29 = .ok (.getfield 140, 3) := by decide +kernel
theorem d_158_32 : decode (am_b 158) 32 = .ok (.iload_n 1, 1) := by decide +kernel
theorem d_158_33 : decode (am_b 158) 33 = .ok (.aaload, 1) := by decide +kernel
theorem d_158_34 : decode (am_b 158) 34 = .ok (.getfield 112, 3) := by decide +kernel
theorem d_158_37 : decode (am_b 158) 37 = .ok (.aload_n 0, 1) := by decide +kernel
theorem d_158_38 : decode (am_b 158) 38 = .ok (.getfield 10, 3) := by decide +kernel
theorem d_158_41 : decode (am_b 158) 41 = .ok (.getfield 140, 3) := by decide +kernel
theorem d_158_44 : decode (am_b 158) 44 = .ok (.iload_n 2, 1) := by decide +kernel
theorem d_158_45 : decode (am_b 158) 45 = .ok (.aaload, 1) := by decide +kernel
theorem d_158_46 : decode (am_b 158) 46 = .ok (.getfield 112, 3) := by decide +kernel
theorem d_158_49 : decode (am_b 158) 49 = .ok (.if_icmp .eq 5, 3) := by decide +kernel
theorem d_158_52 : decode (am_b 158) 52 = .ok (.iconst 0, 1) := by decide +kernel
theorem d_158_53 : decode (am_b 158) 53 = .ok (.ireturn, 1) := by decide +kernel
theorem d_158_54 : decode (am_b 158) 54 = .ok (.aload_n 0, 1) := by decide +kernel
theorem d_158_55 : decode (am_b 158) 55 = .ok (.getfield 69, 3) := by decide +kernel
theorem d_158_58 : decode (am_b 158) 58 = .ok (.aload_n 0, 1) := by decide +kernel
theorem d_158_59 : decode (am_b 158) 59 = .ok (.getfield 10, 3) := by decide +kernel
theorem d_158_62 : decode (am_b 158) 62 = .ok (.getfield 140, 3) := by decide +kernel
theorem d_158_65 : decode (am_b 158) 65 = .ok (.iload_n 1, 1) := by decide +kernel
theorem d_158_66 : decode (am_b 158) 66 = .ok (.aaload, 1) := by decide +kernel
theorem d_158_67 : decode (am_b 158) 67 = .ok (.iload_n 3, 1) := by decide +kernel
theorem d_158_68 : decode (am_b 158) 68 = .ok (.invokevirtual 305, 3) := by decide +kernel
theorem d_158_71 : decode (am_b 158) 71 = .ok (.astore 4, 2) := by decide +kernel
theorem d_158_73 : decode (am_b 158) 73 = .ok (.aload_n 0, 1) := by decide +kernel
theorem d_158_74 : decode (am_b 158) 74 = .ok (.getfield 73, 3) := by decide +kernel
theorem d_158_77 : decode (am_b 158) 77 = .ok (.aload_n 0, 1) := by decide +kernel
theorem d_158_78 : decode (am_b 158) 78 = .ok (.getfield 10, 3) := by decide +kernel
theorem d_158_81 : decode (am_b 158) 81 = .ok (.getfield 140, 3) := by decide +kernel
theorem d_158_84 : decode (am_b 158) 84 = .ok (.iload_n 2, 1) := by decide +kernel
theorem d_158_85 : decode (am_b 158) 85 = .ok (.aaload, 1) := by decide +kernel
theorem d_158_86 : decode (am_b 158) 86 = .ok (.iload_n 3, 1) := by decide +kernel
theorem d_158_87 : decode (am_b 158) 87 = .ok (.invokevirtual 305, 3) := by decide +kernel
theorem d_158_90 : decode (am_b 158) 90 = .ok (.astore 5, 2) := by decide +kernel
theorem d_158_92 : decode (am_b 158) 92 = .ok (.aload 4, 2) := by decide +kernel
theorem d_158_94 : decode (am_b 158) 94 = .ok (.aload 5, 2) := by decide +kernel
theorem d_158_96 : decode (am_b 158) 96 = .ok (.invokevirtual 309, 3) := by decide +kernel
theorem d_158_99 : decode (am_b 158) 99 = .ok (.ifCond .ne 7, 3) := by decide +kernel
theorem d_158_102 : decode (am_b 158) 102 = .ok (.iconst 1, 1) := by decide +kernel
theorem d_158_103 : decode (am_b 158) 103 = .ok (.goto 4, 3) := by decide +kernel
theorem d_158_106 : decode (am_b 158) 106 = .ok (.iconst 0, 1) := by decide +kernel
theorem d_158_107 : decode (am_b 158) 107 = .ok (.ireturn, 1) := by decide +kernel
theorem d_159_0 : decode (am_b 159) 0 = .ok (.aload_n 0, 1) := by decide +kernel
theorem d_159_1 : decode (am_b 159) 1 = .ok (.iload_n 1, 1) := by decide +kernel
theorem d_159_2 : decode (am_b 159) 2 = .ok (.invokevirtual 137, 3) := by decide +kernel
theorem d_159_5 : decode (am_b 159) 5 = .ok (.ifCond .ne 5, 3) := by decide +kernel
theorem d_159_8 : decode (am_b 159) 8 = .ok (.iconst (-1), 1) := by decide +kernel
theorem d_159_9 : decode (am_b 159) 9 = .ok (.ireturn, 1) := by decide +kernel
theorem d_159_10 : decode (am_b 159) 10 = .ok (.iload_n 2, 1) := by decide +kernel
theorem d_159_11 : decode (am_b 159) 11 = .ok (.lookupswitch 59 #[(0, 25), (1, 42)], 25) := by decide +kernel
theorem d_159_36 : decode (am_b 159) 36 = .ok (.aload_n 0, 1) := by decide +kernel
theorem d_159_37 : decode (am_b 159) 37 = .ok (.getfield 79, 3) := by decide +kernel
theorem d_159_40 : decode (am_b 159) 40 = .ok (.aload_n 0, 1) := by decide +kernel
theorem d_159_41 : decode (am_b 159) 41 = .ok (.getfield 10, 3) := by decide +kernel
theorem d_159_44 : decode (am_b 159) 44 = .ok (.getfield 140, 3) := by decide +kernel
theorem d_159_47 : decode (am_b 159) 47 = .ok (.iload_n 1, 1) := by decide +kernel
theorem d_159_48 : decode (am_b 159) 48 = .ok (.aaload, 1) := by decide +kernel
theorem d_159_49 : decode (am_b 159) 49 = .ok (.invokevirtual 312, 3) := by decide +kernel
theorem d_159_52 : decode (am_b 159) 52 = .ok (.ireturn, 1) := by decide +kernel
theorem d_159_53 : decode (am_b 159) 53 = .ok (.aload_n 0, 1) := by decide +kernel
theorem d_159_54 : decode (am_b 159) 54 = .ok (.getfield 79, 3) := by decide +kernel
theorem d_159_57 : decode (am_b 159) 57 = .ok (.aload_n 0, 1) := by decide +kernel
theorem d_159_58 : decode (am_b 159) 58 = .ok (.getfield 10, 3) := by decide +kernel
theorem d_159_61 : decode (am_b 159) 61 = .ok (.getfield 140, 3) := by decide +kernel
theorem d_159_64 : decode (am_b 159) 64 = .ok (.iload_n 1, 1) := by decide +kernel
theorem d_159_65 : decode (am_b 159) 65 = .ok (.aaload, 1) := by decide +kernel
theorem d_159_66 : decode (am_b 159) 66 = .ok (.invokevirtual 315, 3) := by decide +kernel
theorem d_159_69 : decode (am_b 159) 69 = .ok (.ireturn, 1) := by decide +kernel
theorem d_159_70 : decode (am_b 159) 70 = .ok (.iconst (-1), 1) := by decide +kernel
theorem d_159_71 : decode (am_b 159) 71 = .ok (.ireturn, 1) := by decide +kernel
theorem d_160_0 : decode (am_b 160) 0 = .ok (.aload_n 0, 1) := by decide +kernel
theorem d_160_1 : decode (am_b 160) 1 = .ok (.iload_n 1, 1) := by decide +kernel
theorem d_160_2 : decode (am_b 160) 2 = .ok (.invokevirtual 137, 3) := by decide +kernel
theorem d_160_5 : decode (am_b 160) 5 = .ok (.ifCond .ne 5, 3) := by decide +kernel
theorem d_160_8 : decode (am_b 160) 8 = .ok (.iconst (-1), 1) := by decide +kernel
theorem d_160_9 : decode (am_b 160) 9 = .ok (.ireturn, 1) := by decide +kernel
theorem d_160_10 : decode (am_b 160) 10 = .ok (.iload_n 2, 1) := by decide +kernel
theorem d_160_11 : decode (am_b 160) 11 = .ok (.tableswitch 72 0 2 #[25, 42, 59], 25) := by decide +kernel
theorem d_160_36 : decode (am_b 160) 36 = .ok (.aload_n 0, 1) := by decide +kernel
theorem d_160_37 : decode (am_b 160) 37 = .ok (.getfield 86, 3) := by decide +kernel
theorem d_160_40 : decode (am_b 160) 40 = .ok (.aload_n 0, 1) := by decide +kernel
theorem d_160_41 : decode (am_b 160) 41 = .ok (.getfield 10, 3) := by decide +kernel
theorem d_160_44 : decode (am_b 160) 44 = .ok (.getfield 140, 3) := by decide +kernel
theorem d_160_47 : decode (am_b 160) 47 = .ok (.iload_n 1, 1) := by decide +kernel
theorem d_160_48 : decode (am_b 160) 48 = .ok (.aaload, 1) := by decide +kernel
theorem d_160_49 : decode (am_b 160) 49 = .ok (.invokevirtual 318, 3) := by decide +kernel
theorem d_160_52 : decode (am_b 160) 52 = .ok (.ireturn, 1) := by decide +kernel
theorem d_160_53 : decode (am_b 160) 53 = .ok (.aload_n 0, 1) := by decide +kernel
theorem d_160_54 : decode (am_b 160) 54 = .ok (.getfield 86, 3) := by decide +kernel
theorem d_160_57 : decode (am_b 160) 57 = .ok (.aload_n 0, 1) := by decide +kernel
theorem d_160_58 : decode (am_b 160) 58 = .ok (.getfield 10, 3) := by decide +kernel
theorem d_160_61 : decode (am_b 160) 61 = .ok (.getfield 140, 3) := by decide +kernel
theorem d_160_64 : decode (am_b 160) 64 = .ok (.iload_n 1, 1) := by decide +kernel
theorem d_160_65 : decode (am_b 160) 65 = .ok (.aaload, 1) := by decide +kernel
theorem d_160_66 : decode (am_b 160) 66 = .ok (.invokevirtual 321, 3) := by decide +kernel
theorem d_160_69 : decode (am_b 160) 69 = .ok (.ireturn, 1) := by decide +kernel
theorem d_160_70 : decode (am_b 160) 70 = .ok (.aload_n 0, 1) := by decide +kernel
theorem d_160_71 : decode (am_b 160) 71 = .ok (.getfield 10, 3) := by decide +kernel
theorem d_160_74 : decode (am_b 160) 74 = .ok (.getfield 140, 3) := by decide +kernel
theorem d_160_77 : decode (am_b 160) 77 = .ok (.iload_n 1, 1) := by decide +kernel
theorem d_160_78 : decode (am_b 160) 78 = .ok (.aaload, 1) := by decide +kernel
theorem d_160_79 : decode (am_b 160) 79 = .ok (.invokestatic 324, 3) := by decide +kernel
theorem d_160_82 : decode (am_b 160) 82 = .ok (.ireturn, 1) := by decide +kernel
theorem d_160_83 : decode (am_b 160) 83 = .ok (.iconst (-1), 1) := by decide +kernel
theorem d_160_84 : decode (am_b 160) 84 = .ok (.ireturn, 1) := by decide +kernel
theorem d_161_0 : decode (am_b 161) 0 = .ok (.aload_n 0, 1) := by decide +kernel
theorem d_161_1 : decode (am_b 161) 1 = .ok (.iload_n 1, 1) := by decide +kernel
theorem d_161_2 : decode (am_b 161) 2 = .ok (.invokevirtual 137, 3) := by decide +kernel
theorem d_161_5 : decode (am_b 161) 5 = .ok (.ifCond .eq 20, 3) := by decide +kernel
theorem d_161_8 : decode (am_b 161) 8 = .ok (.aload_n 0, 1) := by decide +kernel
theorem d_161_9 : decode (am_b 161) 9 = .ok (.getfield 10, 3) := by decide +kernel
theorem d_161_12 : decode (am_b 161) 12 = .ok (.getfield 140, 3) := by decide +kernel
theorem d_161_15 : decode (am_b 161) 15 = .ok (.iload_n 1, 1) := by decide +kernel
theorem d_161_16 : decode (am_b 161) 16 = .ok (.aaload, 1) := by decide +kernel
theorem d_161_17 : decode (am_b 161) 17 = .ok (.iload_n 2, 1) := by decide +kernel
theorem d_161_18 : decode (am_b 161) 18 = .ok (.iload_n 3, 1) := by decide +kernel
theorem d_161_19 : decode (am_b 161) 19 = .ok (.invokevirtual 169, 3) := by decide +kernel
theorem d_161_22 : decode (am_b 161) 22 = .ok (.ifCond .ne 5, 3) := by decide +kernel
theorem d_161_25 : decode (am_b 161) 25 = .ok (.iconst (-1), 1) := by decide +kernel
theorem d_161_26 : decode (am_b 161) 26 = .ok (.ireturn, 1) := by decide +kernel
theorem d_161_27 : decode (am_b 161) 27 = .ok (.iload 4, 2) := by decide +kernel
theorem d_161_29 : decode (am_b 161) 29 = .ok (.lookupswitch 57 #[(0, 27), (1, 42)], 27) := by decide +kernel
theorem d_161_56 : decode (am_b 161) 56 = .ok (.aload_n 0, 1) := by decide +kernel
theorem d_161_57 : decode (am_b 161) 57 = .ok (.getfield 10, 3) := by decide +kernel
theorem d_161_60 : decode (am_b 161) 60 = .ok (.getfield 140, 3) := by decide +kernel
theorem d_161_63 : decode (am_b 161) 63 = .ok (.iload_n 1, 1) := by decide +kernel
theorem d_161_64 : decode (am_b 161) 64 = .ok (.aaload, 1) := by decide +kernel
theorem d_161_65 : decode (am_b 161) 65 = .ok (.iload_n 2, 1) := by decide +kernel
theorem d_161_66 : decode (am_b 161) 66 = .ok (.iload_n 3, 1) := by decide +kernel
theorem d_161_67 : decode (am_b 161) 67 = .ok (.invokevirtual 327, 3) := by decide +kernel
theorem d_161_70 : decode (am_b 161) 70 = .ok (.ireturn, 1) := by decide +kernel
theorem d_161_71 : decode (am_b 161) 71 = .ok (.aload_n 0, 1) := by decide +kernel
theorem d_161_72 : decode (am_b 161) 72 = .ok (.getfield 10, 3) := by decide +kernel
theorem d_161_75 : decode (am_b 161) 75 = .ok (.getfield 140, 3) := by decide +kernel
theorem d_161_78 : decode (am_b 161) 78 = .ok (.iload_n 1, 1) := by decide +kernel
theorem d_161_79 : decode (am_b 161) 79 = .ok (.aaload, 1) := by decide +kernel
theorem d_161_80 : decode (am_b 161) 80 = .ok (.iload_n 2, 1) := by decide +kernel
theorem d_161_81 : decode (am_b 161) 81 = .ok (.iload_n 3, 1) := by decide +kernel
theorem d_161_82 : decode (am_b 161) 82 = .ok (.invokevirtual 330, 3) := by decide +kernel
theorem d_161_85 : decode (am_b 161) 85 = .ok (.ireturn, 1) := by decide +kernel
theorem d_161_86 : decode (am_b 161) 86 = .ok (.iconst (-1), 1) := by decide +kernel
theorem d_161_87 : decode (am_b 161) 87 = .ok (.ireturn, 1) := by decide +kernel
theorem d_162_0 : decode (am_b 162) 0 = .ok (.aload_n 0, 1) := by decide +kernel
theorem d_162_1 : decode (am_b 162) 1 = .ok (.iload_n 1, 1) := by decide +kernel
theorem d_162_2 : decode (am_b 162) 2 = .ok (.invokevirtual 137, 3) := by decide +kernel
theorem d_162_5 : decode (am_b 162) 5 = .ok (.ifCond .eq 38, 3) := by decide +kernel
theorem d_162_8 : decode (am_b 162) 8 = .ok (.aload_n 0, 1) := by decide +kernel
theorem d_162_9 : decode (am_b 162) 9 = .ok (.iload_n 2, 1) := by decide +kernel
theorem d_162_10 : decode (am_b 162) 10 = .ok (.invokevirtual 137, 3) := by decide +kernel
theorem d_162_13 : decode (am_b 162) 13 = .ok (.ifCond .eq 30, 3) := by decide +kernel
theorem d_162_16 : decode (am_b 162) 16 = .ok (.aload_n 0, 1) := by decide +kernel
theorem d_162_17 : decode (am_b 162) 17 = .ok (.getfield 10, 3) := by decide +kernel
theorem d_162_20 : decode (am_b 162) 20 = .ok (.getfield 140, 3) := by decide +kernel
theorem d_162_23 : decode (am_b 162) 23 = .ok (.iload_n 1, 1) := by decide +kernel
theorem d_162_24 : decode (am_b 162) 24 = .ok (.aaload, 1) := by decide +kernel
theorem d_162_25 : decode (am_b 162) 25 = .ok (.getfield 112, 3) := by decide +kernel
theorem d_162_28 : decode (am_b 162) 28 = .ok (.aload_n 0, 1) := by decide +kernel
theorem d_162_29 : decode (am_b 162) 29 = .ok (.getfield 10, 3) := by decide +kernel
theorem d_162_32 : decode (am_b 162) 32 = .ok (.getfield 140, 3) := by decide +kernel
theorem d_162_35 : decode (am_b 162) 35 = .ok (.iload_n 2, 1) := by decide +kernel
theorem d_162_36 : decode (am_b 162) 36 = .ok (.aaload, 1) := by decide +kernel
theorem d_162_37 : decode (am_b 162) 37 = .ok (.getfield 112, 3) := by decide +kernel
theorem d_162_40 : decode (am_b 162) 40 = .ok (.if_icmp .eq 5, 3) := by decide +kernel
theorem d_162_43 : decode (am_b 162) 43 = .ok (.iconst (-1), 1) := by decide +kernel
theorem d_162_44 : decode (am_b 162) 44 = .ok (.ireturn, 1) := by decide +kernel
theorem d_162_45 : decode (am_b 162) 45 = .ok (.aload_n 0, 1) := by decide +kernel
theorem d_162_46 : decode (am_b 162) 46 = .ok (.getfield 10, 3) := by decide +kernel
theorem d_162_49 : decode (am_b 162) 49 = .ok (.getfield 140, 3) := by decide +kernel
theorem d_162_52 : decode (am_b 162) 52 = .ok (.iload_n 1, 1) := by decide +kernel
theorem d_162_53 : decode (am_b 162) 53 = .ok (.aaload, 1) := by decide +kernel
theorem d_162_54 : decode (am_b 162) 54 = .ok (.aload_n 0, 1) := by decide +kernel
theorem d_162_55 : decode (am_b 162) 55 = .ok (.getfield 10, 3) := by decide +kernel
theorem d_162_58 : decode (am_b 162) 58 = .ok (.getfield 140, 3) := by decide +kernel
theorem d_162_61 : decode (am_b 162) 61 = .ok (.iload_n 2, 1) := by decide +kernel
theorem d_162_62 : decode (am_b 162) 62 = .ok (.aaload, 1) := by decide +kernel
theorem d_162_63 : decode (am_b 162) 63 = .ok (.invokevirtual 309, 3) := by decide +kernel
theorem d_162_66 : decode (am_b 162) 66 = .ok (.ireturn, 1) := by decide +kernel
theorem d_163_0 : decode (am_b 163) 0 = .ok (.aload_n 0, 1) := by decide +kernel
theorem d_163_1 : decode (am_b 163) 1 = .ok (.iload_n 1, 1) := by decide +kernel
theorem d_163_2 : decode (am_b 163) 2 = .ok (.invokevirtual 137, 3) := by decide +kernel
theorem d_163_5 : decode (am_b 163) 5 = .ok (.ifCond .eq 12, 3) := by decide +kernel
theorem d_163_8 : decode (am_b 163) 8 = .ok (.iload_n 2, 1) := by decide +kernel
theorem d_163_9 : decode (am_b 163) 9 = .ok (.ifCond .lt 8, 3) := by decide +kernel
theorem d_163_12 : decode (am_b 163) 12 = .ok (.iload_n 2, 1) := by decide +kernel
theorem d_163_13 : decode (am_b 163) 13 = .ok (.iconst 1, 1) := by decide +kernel
theorem d_163_14 : decode (am_b 163) 14 = .ok (.if_icmp .le 5, 3) := by decide +kernel
theorem d_163_17 : decode (am_b 163) 17 = .ok (.iconst (-1), 1) := by decide +kernel
theorem d_163_18 : decode (am_b 163) 18 = .ok (.ireturn, 1) := by decide +kernel
theorem d_163_19 : decode (am_b 163) 19 = .ok (.aload_n 0, 1) := by decide +kernel
theorem d_163_20 : decode (am_b 163) 20 = .ok (.getfield 79, 3) := by decide +kernel
theorem d_163_23 : decode (am_b 163) 23 = .ok (.aload_n 0, 1) := by decide +kernel
theorem d_163_24 : decode (am_b 163) 24 = .ok (.getfield 10, 3) := by decide +kernel
theorem d_163_27 : decode (am_b 163) 27 = .ok (.getfield 140, 3) := by decide +kernel
theorem d_163_30 : decode (am_b 163) 30 = .ok (.iload_n 1, 1) := by decide +kernel
theorem d_163_31 : decode (am_b 163) 31 = .ok (.aaload, 1) := by decide +kernel
theorem d_163_32 : decode (am_b 163) 32 = .ok (.invokevirtual 333, 3) := by decide +kernel
theorem d_163_35 : decode (am_b 163) 35 = .ok (.iload_n 2, 1) := by decide +kernel
theorem d_163_36 : decode (am_b 163) 36 = .ok (.ifCond .ne 13, 3) := by decide +kernel
theorem d_163_39 : decode (am_b 163) 39 = .ok (.aload_n 0, 1) := by decide +kernel
theorem d_163_40 : decode (am_b 163) 40 = .ok (.getfield 79, 3) := by decide +kernel
theorem d_163_43 : decode (am_b 163) 43 = .ok (.getfield 336, 3) := by decide +kernel
theorem d_163_46 : decode (am_b 163) 46 = .ok (.goto 10, 3) := by decide +kernel
theorem d_163_49 : decode (am_b 163) 49 = .ok (.aload_n 0, 1) := by decide +kernel
theorem d_163_50 : decode (am_b 163) 50 = .ok (.getfield 79, 3) := by decide +kernel
theorem d_163_53 : decode (am_b 163) 53 = .ok (.getfield 339, 3) := by decide +kernel
theorem d_163_56 : decode (am_b 163) 56 = .ok (.ireturn, 1) := by decide +kernel
theorem d_164_0 : decode (am_b 164) 0 = .ok (.iload_n 1, 1) := by decide +kernel
theorem d_164_1 : decode (am_b 164) 1 = .ok (.invokestatic 119, 3) := by decide +kernel
theorem d_164_4 : decode (am_b 164) 4 = .ok (.ifCond .ne 9, 3) := by decide +kernel
theorem d_164_7 : decode (am_b 164) 7 = .ok (.aload_n 0, 1) := by decide +kernel
theorem d_164_8 : decode (am_b 164) 8 = .ok (.iconst (-1), 1) := by decide +kernel
theorem d_164_9 : decode (am_b 164) 9 = .ok (.invokevirtual 104, 3) := by decide +kernel
theorem d_164_12 : decode (am_b 164) 12 = .ok (.ireturn, 1) := by decide +kernel
theorem d_164_13 : decode (am_b 164) 13 = .ok (.aload_n 0, 1) := by decide +kernel
theorem d_164_14 : decode (am_b 164) 14 = .ok (.getfield 10, 3) := by decide +kernel
theorem d_164_17 : decode (am_b 164) 17 = .ok (.iload_n 1, 1) := by decide +kernel
theorem d_164_18 : decode (am_b 164) 18 = .ok (.putfield 342, 3) := by decide +kernel
theorem d_164_21 : decode (am_b 164) 21 = .ok (.aload_n 0, 1) := by decide +kernel
theorem d_164_22 : decode (am_b 164) 22 = .ok (.getfield 10, 3) := by decide +kernel
theorem d_164_25 : decode (am_b 164) 25 = .ok (.getfield 345, 3) := by decide +kernel
theorem d_164_28 : decode (am_b 164) 28 = .ok (.iconst (-1), 1) := by decide +kernel
theorem d_164_29 : decode (am_b 164) 29 = .ok (.invokestatic 348, 3) := by decide +kernel
theorem d_164_32 : decode (am_b 164) 32 = .ok (.aload_n 0, 1) := by decide +kernel
theorem d_164_33 : decode (am_b 164) 33 = .ok (.iconst 0, 1) := by decide +kernel
theorem d_164_34 : decode (am_b 164) 34 = .ok (.invokevirtual 212, 3) := by decide +kernel
theorem d_164_37 : decode (am_b 164) 37 = .ok (.ireturn, 1) := by decide +kernel
theorem d_165_0 : decode (am_b 165) 0 = .ok (.aload_n 0, 1) := by decide +kernel
theorem d_165_1 : decode (am_b 165) 1 = .ok (.getfield 10, 3) := by decide +kernel
theorem d_165_4 : decode (am_b 165) 4 = .ok (.getfield 342, 3) := by decide +kernel
theorem d_165_7 : decode (am_b 165) 7 = .ok (.istore 4, 2) := by decide +kernel
theorem d_165_9 : decode (am_b 165) 9 = .ok (.aload_n 0, 1) := by decide +kernel
theorem d_165_10 : decode (am_b 165) 10 = .ok (.iload_n 1, 1) := by decide +kernel
theorem d_165_11 : decode (am_b 165) 11 = .ok (.iload_n 2, 1) := by decide +kernel
theorem d_165_12 : decode (am_b 165) 12 = .ok (.invokevirtual 354, 3) := by decide +kernel
theorem d_165_15 : decode (am_b 165) 15 = .ok (.ifCond .eq 14, 3) := by decide +kernel
theorem d_165_18 : decode (am_b 165) 18 = .ok (.iload_n 3, 1) := by decide +kernel
theorem d_165_19 : decode (am_b 165) 19 = .ok (.iconst (-1), 1) := by decide +kernel
theorem d_165_20 : decode (am_b 165) 20 = .ok (.if_icmp .lt 9, 3) := by decide +kernel
theorem d_165_23 : decode (am_b 165) 23 = .ok (.iload_n 3, 1) := by decide +kernel
theorem d_165_24 : decode (am_b 165) 24 = .ok (.iload 4, 2) := by decide +kernel
theorem d_165_26 : decode (am_b 165) 26 = .ok (.if_icmp .lt 9, 3) := by decide +kernel
theorem d_165_29 : decode (am_b 165) 29 = .ok (.aload_n 0, 1) := by decide +kernel
theorem d_165_30 : decode (am_b 165) 30 = .ok (.iconst (-1), 1) := by decide +kernel
theorem d_165_31 : decode (am_b 165) 31 = .ok (.invokevirtual 104, 3) := by decide +kernel
theorem d_165_34 : decode (am_b 165) 34 = .ok (.ireturn, 1) := by decide +kernel
theorem d_165_35 : decode (am_b 165) 35 = .ok (.aload_n 0, 1) := by decide +kernel
theorem d_165_36 : decode (am_b 165) 36 = .ok (.getfield 10, 3) := by decide +kernel
theorem d_165_39 : decode (am_b 165) 39 = .ok (.getfield 345, 3) := by decide +kernel
theorem d_165_42 : decode (am_b 165) 42 = .ok (.iload 4, 2) := by decide +kernel
theorem d_165_44 : decode (am_b 165) 44 = .ok (.iload_n 1, 1) := by decide +kernel
theorem d_165_45 : decode (am_b 165) 45 = .ok (.imul, 1) := by decide +kernel
theorem d_165_46 : decode (am_b 165) 46 = .ok (.iload_n 2, 1) := by decide +kernel
theorem d_165_47 : decode (am_b 165) 47 = .ok (.iadd, 1) := by decide +kernel
theorem d_165_48 : decode (am_b 165) 48 = .ok (.iaload, 1) := by decide +kernel
theorem d_165_49 : decode (am_b 165) 49 = .ok (.istore 5, 2) := by decide +kernel
theorem d_165_51 : decode (am_b 165) 51 = .ok (.aload_n 0, 1) := by decide +kernel
theorem d_165_52 : decode (am_b 165) 52 = .ok (.getfield 10, 3) := by decide +kernel
theorem d_165_55 : decode (am_b 165) 55 = .ok (.getfield 345, 3) := by decide +kernel
theorem d_165_58 : decode (am_b 165) 58 = .ok (.iload 4, 2) := by decide +kernel
theorem d_165_60 : decode (am_b 165) 60 = .ok (.iload_n 1, 1) := by decide +kernel
theorem d_165_61 : decode (am_b 165) 61 = .ok (.imul, 1) := by decide +kernel
theorem d_165_62 : decode (am_b 165) 62 = .ok (.iload_n 2, 1) := by decide +kernel
theorem d_165_63 : decode (am_b 165) 63 = .ok (.iadd, 1) := by decide +kernel
theorem d_165_64 : decode (am_b 165) 64 = .ok (.iload_n 3, 1) := by decide +kernel
theorem d_165_65 : decode (am_b 165) 65 = .ok (.iastore, 1) := by decide +kernel
theorem d_165_66 : decode (am_b 165) 66 = .ok (.aload_n 0, 1) := by decide +kernel
theorem d_165_67 : decode (am_b 165) 67 = .ok (.iload 5, 2) := by decide +kernel
theorem d_165_69 : decode (am_b 165) 69 = .ok (.invokevirtual 212, 3) := by decide +kernel
theorem d_165_72 : decode (am_b 165) 72 = .ok (.ireturn, 1) := by decide +kernel
theorem d_166_0 : decode (am_b 166) 0 = .ok (.iload_n 1, 1) := by decide +kernel
theorem d_166_1 : decode (am_b 166) 1 = .ok (.ifCond .lt 33, 3) := by decide +kernel
theorem d_166_4 : decode (am_b 166) 4 = .ok (.iload_n 1, 1) := by decide +kernel
theorem d_166_5 : decode (am_b 166) 5 = .ok (.aload_n 0, 1) := by decide +kernel
theorem d_166_6 : decode (am_b 166) 6 = .ok (.getfield 10, 3) := by decide +kernel
theorem d_166_9 : decode (am_b 166) 9 = .ok (.getfield 342, 3) := by decide +kernel
theorem d_166_12 : decode (am_b 166) 12 = .ok (.if_icmp .ge 22, 3) := by decide +kernel
theorem d_166_15 : decode (am_b 166) 15 = .ok (.iload_n 2, 1) := by decide +kernel
theorem d_166_16 : decode (am_b 166) 16 = .ok (.ifCond .lt 18, 3) := by decide +kernel
theorem d_166_19 : decode (am_b 166) 19 = .ok (.iload_n 2, 1) := by decide +kernel
theorem d_166_20 : decode (am_b 166) 20 = .ok (.aload_n 0, 1) := by decide +kernel
theorem d_166_21 : decode (am_b 166) 21 = .ok (.getfield 10, 3) := by decide +kernel
theorem d_166_24 : decode (am_b 166) 24 = .ok (.getfield 342, 3) := by decide +kernel
theorem d_166_27 : decode (am_b 166) 27 = .ok (.if_icmp .ge 7, 3) := by decide +kernel
theorem d_166_30 : decode (am_b 166) 30 = .ok (.iconst 1, 1) := by decide +kernel
theorem d_166_31 : decode (am_b 166) 31 = .ok (.goto 4, 3) := by decide +kernel
theorem d_166_34 : decode (am_b 166) 34 = .ok (.iconst 0, 1) := by decide +kernel
theorem d_166_35 : decode (am_b 166) 35 = .ok (.ireturn, 1) := by decide +kernel
theorem d_167_0 : decode (am_b 167) 0 = .ok (.aload_n 0, 1) := by decide +kernel
theorem d_167_1 : decode (am_b 167) 1 = .ok (.getfield 10, 3) := by decide +kernel
theorem d_167_4 : decode (am_b 167) 4 = .ok (.getfield 342, 3) := by decide +kernel
theorem d_167_7 : decode (am_b 167) 7 = .ok (.ifCond .ne 7, 3) := by decide +kernel
theorem d_167_10 : decode (am_b 167) 10 = .ok (.iconst (-1), 1) := by decide +kernel
theorem d_167_11 : decode (am_b 167) 11 = .ok (.goto 27, 3) := by decide +kernel
theorem d_167_14 : decode (am_b 167) 14 = .ok (.aload_n 0, 1) := by decide +kernel
theorem d_167_15 : decode (am_b 167) 15 = .ok (.getfield 62, 3) := by decide +kernel
theorem d_167_18 : decode (am_b 167) 18 = .ok (.aload_n 0, 1) := by decide +kernel
theorem d_167_19 : decode (am_b 167) 19 = .ok (.getfield 10, 3) := by decide +kernel
theorem d_167_22 : decode (am_b 167) 22 = .ok (.getfield 342, 3) := by decide +kernel
theorem d_167_25 : decode (am_b 167) 25 = .ok (.aload_n 0, 1) := by decide +kernel
theorem d_167_26 : decode (am_b 167) 26 = .ok (.getfield 10, 3) := by decide +kernel
theorem d_167_29 : decode (am_b 167) 29 = .ok (.getfield 345, 3) := by decide +kernel
theorem d_167_32 : decode (am_b 167) 32 = .ok (.sipush 20000, 3) := by decide +kernel
theorem d_167_35 : decode (am_b 167) 35 = .ok (.invokevirtual 357, 3) := by decide +kernel
theorem d_167_38 : decode (am_b 167) 38 = .ok (.ireturn, 1) := by decide +kernel
theorem d_168_0 : decode (am_b 168) 0 = .ok (.iload_n 1, 1) := by decide +kernel
theorem d_168_1 : decode (am_b 168) 1 = .ok (.invokestatic 100, 3) := by decide +kernel
theorem d_168_4 : decode (am_b 168) 4 = .ok (.ifCond .ne 9, 3) := by decide +kernel
theorem d_168_7 : decode (am_b 168) 7 = .ok (.aload_n 0, 1) := by decide +kernel
theorem d_168_8 : decode (am_b 168) 8 = .ok (.iconst (-1), 1) := by decide +kernel
theorem d_168_9 : decode (am_b 168) 9 = .ok (.invokevirtual 104, 3) := by decide +kernel
theorem d_168_12 : decode (am_b 168) 12 = .ok (.ireturn, 1) := by decide +kernel
theorem d_168_13 : decode (am_b 168) 13 = .ok (.aload_n 0, 1) := by decide +kernel
theorem d_168_14 : decode (am_b 168) 14 = .ok (.getfield 62, 3) := by decide +kernel
theorem d_168_17 : decode (am_b 168) 17 = .ok (.aload_n 0, 1) := by decide +kernel
theorem d_168_18 : decode (am_b 168) 18 = .ok (.getfield 38, 3) := by decide +kernel
theorem d_168_21 : decode (am_b 168) 21 = .ok (.aload_n 0, 1) := by decide +kernel
theorem d_168_22 : decode (am_b 168) 22 = .ok (.getfield 10, 3) := by decide +kernel
theorem d_168_25 : decode (am_b 168) 25 = .ok (.getfield 342, 3) := by decide +kernel
theorem d_168_28 : decode (am_b 168) 28 = .ok (.aload_n 0, 1) := by decide +kernel
theorem d_168_29 : decode (am_b 168) 29 = .ok (.getfield 10, 3) := by decide +kernel
theorem d_168_32 : decode (am_b 168) 32 = .ok (.getfield 345, 3) := by decide +kernel
theorem d_168_35 : decode (am_b 168) 35 = .ok (.invokevirtual 361, 3) := by decide +kernel
theorem d_168_38 : decode (am_b 168) 38 = .ok (.istore_n 2, 1) := by decide +kernel
theorem d_168_39 : decode (am_b 168) 39 = .ok (.iload_n 2, 1) := by decide +kernel
theorem d_168_40 : decode (am_b 168) 40 = .ok (.ifCond .eq 18, 3) := by decide +kernel
theorem d_168_43 : decode (am_b 168) 43 = .ok (.aload_n 0, 1) := by decide +kernel
theorem d_168_44 : decode (am_b 168) 44 = .ok (.iload_n 1, 1) := by decide +kernel
theorem d_168_45 : decode (am_b 168) 45 = .ok (.aload_n 0, 1) := by decide +kernel
theorem d_168_46 : decode (am_b 168) 46 = .ok (.getfield 38, 3) := by decide +kernel
theorem d_168_49 : decode (am_b 168) 49 = .ok (.getfield 112, 3) := by decide +kernel
theorem d_168_52 : decode (am_b 168) 52 = .ok (.invokevirtual 115, 3) := by decide +kernel
theorem d_168_55 : decode (am_b 168) 55 = .ok (.goto 9, 3) := by decide +kernel
theorem d_168_58 : decode (am_b 168) 58 = .ok (.aload_n 0, 1) := by decide +kernel
theorem d_168_59 : decode (am_b 168) 59 = .ok (.bipush (-3), 2) := by decide +kernel
theorem d_168_61 : decode (am_b 168) 61 = .ok (.invokevirtual 104, 3) := by decide +kernel
theorem d_168_64 : decode (am_b 168) 64 = .ok (.ireturn, 1) := by decide +kernel
theorem d_169_0 : decode (am_b 169) 0 = .ok (.aload_n 0, 1) := by decide +kernel
theorem d_169_1 : decode (am_b 169) 1 = .ok (.iload_n 1, 1) := by decide +kernel
theorem d_169_2 : decode (am_b 169) 2 = .ok (.iload_n 2, 1) := by decide +kernel
theorem d_169_3 : decode (am_b 169) 3 = .ok (.invokevirtual 354, 3) := by decide +kernel
theorem d_169_6 : decode (am_b 169) 6 = .ok (.ifCond .ne 5, 3) := by decide +kernel
theorem d_169_9 : decode (am_b 169) 9 = .ok (.iconst (-1), 1) := by decide +kernel
theorem d_169_10 : decode (am_b 169) 10 = .ok (.ireturn, 1) := by decide +kernel
theorem d_169_11 : decode (am_b 169) 11 = .ok (.aload_n 0, 1) := by decide +kernel
theorem d_169_12 : decode (am_b 169) 12 = .ok (.getfield 10, 3) := by decide +kernel
theorem d_169_15 : decode (am_b 169) 15 = .ok (.getfield 342, 3) := by decide +kernel
theorem d_169_18 : decode (am_b 169) 18 = .ok (.iload_n 1, 1) := by decide +kernel
theorem d_169_19 : decode (am_b 169) 19 = .ok (.imul, 1) := by decide +kernel
theorem d_169_20 : decode (am_b 169) 20 = .ok (.iload_n 2, 1) := by decide +kernel
theorem d_169_21 : decode (am_b 169) 21 = .ok (.iadd, 1) := by decide +kernel
theorem d_169_22 : decode (am_b 169) 22 = .ok (.istore_n 3, 1) := by decide +kernel
theorem d_169_23 : decode (am_b 169) 23 = .ok (.aload_n 0, 1) := by decide +kernel
theorem d_169_24 : decode (am_b 169) 24 = .ok (.getfield 10, 3) := by decide +kernel
theorem d_169_27 : decode (am_b 169) 27 = .ok (.getfield 345, 3) := by decide +kernel
theorem d_169_30 : decode (am_b 169) 30 = .ok (.iload_n 3, 1) := by decide +kernel
theorem d_169_31 : decode (am_b 169) 31 = .ok (.iaload, 1) := by decide +kernel
theorem d_169_32 : decode (am_b 169) 32 = .ok (.istore 4, 2) := by decide +kernel
theorem d_169_34 : decode (am_b 169) 34 = .ok (.iload 4, 2) := by decide +kernel
theorem d_169_36 : decode (am_b 169) 36 = .ok (.iconst (-1), 1) := by decide +kernel
theorem d_169_37 : decode (am_b 169) 37 = .ok (.if_icmp .ne 5, 3) := by decide +kernel
theorem d_169_40 : decode (am_b 169) 40 = .ok (.iconst (-1), 1) := by decide +kernel
theorem d_169_41 : decode (am_b 169) 41 = .ok (.ireturn, 1) := by decide +kernel
theorem d_169_42 : decode (am_b 169) 42 = .ok (.aload_n 0, 1) := by decide +kernel
theorem d_169_43 : decode (am_b 169) 43 = .ok (.getfield 62, 3) := by decide +kernel
theorem d_169_46 : decode (am_b 169) 46 = .ok (.aload_n 0, 1) := by decide +kernel
theorem d_169_47 : decode (am_b 169) 47 = .ok (.getfield 10, 3) := by decide +kernel
theorem d_169_50 : decode (am_b 169) 50 = .ok (.getfield 342, 3) := by decide +kernel
theorem d_169_53 : decode (am_b 169) 53 = .ok (.aload_n 0, 1) := by decide +kernel
theorem d_169_54 : decode (am_b 169) 54 = .ok (.getfield 10, 3) := by decide +kernel
theorem d_169_57 : decode (am_b 169) 57 = .ok (.getfield 345, 3) := by decide +kernel
theorem d_169_60 : decode (am_b 169) 60 = .ok (.sipush 20000, 3) := by decide +kernel
theorem d_169_63 : decode (am_b 169) 63 = .ok (.invokevirtual 357, 3) := by decide +kernel
theorem d_169_66 : decode (am_b 169) 66 = .ok (.istore 5, 2) := by decide +kernel
theorem d_169_68 : decode (am_b 169) 68 = .ok (.iload 5, 2) := by decide +kernel
theorem d_169_70 : decode (am_b 169) 70 = .ok (.sipush 20000, 3) := by decide +kernel
theorem d_169_73 : decode (am_b 169) 73 = .ok (.if_icmp .lt 5, 3) := by decide +kernel
theorem d_169_76 : decode (am_b 169) 76 = .ok (.iconst 1, 1) := by decide +kernel
theorem d_169_77 : decode (am_b 169) 77 = .ok (.ireturn, 1) := by decide +kernel
theorem d_169_78 : decode (am_b 169) 78 = .ok (.aload_n 0, 1) := by decide +kernel
theorem d_169_79 : decode (am_b 169) 79 = .ok (.getfield 10, 3) := by decide +kernel
theorem d_169_82 : decode (am_b 169) 82 = .ok (.getfield 345, 3) := by decide +kernel
theorem d_169_85 : decode (am_b 169) 85 = .ok (.iload_n 3, 1) := by decide +kernel
theorem d_169_86 : decode (am_b 169) 86 = .ok (.iconst (-1), 1) := by decide +kernel
theorem d_169_87 : decode (am_b 169) 87 = .ok (.iastore, 1) := by decide +kernel
theorem d_169_88 : decode (am_b 169) 88 = .ok (.aload_n 0, 1) := by decide +kernel
theorem d_169_89 : decode (am_b 169) 89 = .ok (.getfield 62, 3) := by decide +kernel
theorem d_169_92 : decode (am_b 169) 92 = .ok (.aload_n 0, 1) := by decide +kernel
theorem d_169_93 : decode (am_b 169) 93 = .ok (.getfield 10, 3) := by decide +kernel
theorem d_169_96 : decode (am_b 169) 96 = .ok (.getfield 342, 3) := by decide +kernel
theorem d_169_99 : decode (am_b 169) 99 = .ok (.aload_n 0, 1) := by decide +kernel
theorem d_169_100 : decode (am_b 169) 100 = .ok (.getfield 10, 3) := by decide +kernel
theorem d_169_103 : decode (am_b 169) 103 = .ok (.getfield 345, 3) := by decide +kernel
theorem d_169_106 : decode (am_b 169) 106 = .ok (.iload 5, 2) := by decide +kernel
theorem d_169_108 : decode (am_b 169) 108 = .ok (.iconst 1, 1) := by decide +kernel
theorem d_169_109 : decode (am_b 169) 109 = .ok (.iadd, 1) := by decide +kernel
theorem d_169_110 : decode (am_b 169) 110 = .ok (.invokevirtual 357, 3) := by decide +kernel
theorem d_169_113 : decode (am_b 169) 113 = .ok (.istore 6, 2) := by decide +kernel
theorem d_169_115 : decode (am_b 169) 115 = .ok (.aload_n 0, 1) := by decide +kernel
theorem d_169_116 : decode (am_b 169) 116 = .ok (.getfield 10, 3) := by decide +kernel
theorem d_169_119 : decode (am_b 169) 119 = .ok (.getfield 345, 3) := by decide +kernel
theorem d_169_122 : decode (am_b 169) 122 = .ok (.iload_n 3, 1) := by decide +kernel
theorem d_169_123 : decode (am_b 169) 123 = .ok (.iload 4, 2) := by decide +kernel
theorem d_169_125 : decode (am_b 169) 125 = .ok (.iastore, 1) := by decide +kernel
theorem d_169_126 : decode (am_b 169) 126 = .ok (.iload 6, 2) := by decide +kernel
theorem d_169_128 : decode (am_b 169) 128 = .ok (.iload 5, 2) := by decide +kernel
theorem d_169_130 : decode (am_b 169) 130 = .ok (.if_icmp .ne 7, 3) := by decide +kernel
theorem d_169_133 : decode (am_b 169) 133 = .ok (.iconst 1, 1) := by decide +kernel
theorem d_169_134 : decode (am_b 169) 134 = .ok (.goto 4, 3) := by decide +kernel
theorem d_169_137 : decode (am_b 169) 137 = .ok (.iconst 0, 1) := by decide +kernel
theorem d_169_138 : decode (am_b 169) 138 = .ok (.ireturn, 1) := by decide +kernel
theorem d_170_0 : decode (am_b 170) 0 = .ok (.iload_n 2, 1) := by decide +kernel
theorem d_170_1 : decode (am_b 170) 1 = .ok (.ifCond .lt 21, 3) := by decide +kernel
theorem d_170_4 : decode (am_b 170) 4 = .ok (.iload_n 2, 1) := by decide +kernel
theorem d_170_5 : decode (am_b 170) 5 = .ok (.ldc_w 365, 3) := by decide +kernel
theorem d_170_8 : decode (am_b 170) 8 = .ok (.if_icmp .gt 14, 3) := by decide +kernel
theorem d_170_11 : decode (am_b 170) 11 = .ok (.iload_n 3, 1) := by decide +kernel
theorem d_170_12 : decode (am_b 170) 12 = .ok (.ifCond .lt 10, 3) := by decide +kernel
theorem d_170_15 : decode (am_b 170) 15 = .ok (.iload_n 3, 1) := by decide +kernel
theorem d_170_16 : decode (am_b 170) 16 = .ok (.sipush 200, 3) := by decide +kernel
theorem d_170_19 : decode (am_b 170) 19 = .ok (.if_icmp .le 9, 3) := by decide +kernel
theorem d_170_22 : decode (am_b 170) 22 = .ok (.aload_n 0, 1) := by decide +kernel
theorem d_170_23 : decode (am_b 170) 23 = .ok (.iconst (-1), 1) := by decide +kernel
theorem d_170_24 : decode (am_b 170) 24 = .ok (.invokevirtual 104, 3) := by decide +kernel
theorem d_170_27 : decode (am_b 170) 27 = .ok (.ireturn, 1) := by decide +kernel
theorem d_170_28 : decode (am_b 170) 28 = .ok (.aload_n 0, 1) := by decide +kernel
theorem d_170_29 : decode (am_b 170) 29 = .ok (.iload_n 1, 1) := by decide +kernel
theorem d_170_30 : decode (am_b 170) 30 = .ok (.invokevirtual 137, 3) := by decide +kernel
theorem d_170_33 : decode (am_b 170) 33 = .ok (.ifCond .ne 10, 3) := by decide +kernel
theorem d_170_36 : decode (am_b 170) 36 = .ok (.aload_n 0, 1) := by decide +kernel
theorem d_170_37 : decode (am_b 170) 37 = .ok (.bipush (-2), 2) := by decide +kernel
theorem d_170_39 : decode (am_b 170) 39 = .ok (.invokevirtual 104, 3) := by decide +kernel
theorem d_170_42 : decode (am_b 170) 42 = .ok (.ireturn, 1) := by decide +kernel
theorem d_170_43 : decode (am_b 170) 43 = .ok (.aload_n 0, 1) := by decide +kernel
theorem d_170_44 : decode (am_b 170) 44 = .ok (.getfield 10, 3) := by decide +kernel
theorem d_170_47 : decode (am_b 170) 47 = .ok (.getfield 140, 3) := by decide +kernel
theorem d_170_50 : decode (am_b 170) 50 = .ok (.iload_n 1, 1) := by decide +kernel
theorem d_170_51 : decode (am_b 170) 51 = .ok (.aaload, 1) := by decide +kernel
theorem d_170_52 : decode (am_b 170) 52 = .ok (.astore 4, 2) := by decide +kernel
theorem d_170_54 : decode (am_b 170) 54 = .ok (.aload 4, 2) := by decide +kernel
theorem d_170_56 : decode (am_b 170) 56 = .ok (.getfield 112, 3) := by decide +kernel
theorem d_170_59 : decode (am_b 170) 59 = .ok (.istore 5, 2) := by decide +kernel
theorem d_170_61 : decode (am_b 170) 61 = .ok (.iload 5, 2) := by decide +kernel
theorem d_170_63 : decode (am_b 170) 63 = .ok (.iconst 2, 1) := by decide +kernel
theorem d_170_64 : decode (am_b 170) 64 = .ok (.if_icmp .ge 10, 3) := by decide +kernel
theorem d_170_67 : decode (am_b 170) 67 = .ok (.aload_n 0, 1) := by decide +kernel
theorem d_170_68 : decode (am_b 170) 68 = .ok (.bipush (-3), 2) := by decide +kernel
theorem d_170_70 : decode (am_b 170) 70 = .ok (.invokevirtual 104, 3) := by decide +kernel
theorem d_170_73 : decode (am_b 170) 73 = .ok (.ireturn, 1) := by decide +kernel
theorem d_170_74 : decode (am_b 170) 74 = .ok (.aload_n 0, 1) := by decide +kernel
theorem d_170_75 : decode (am_b 170) 75 = .ok (.getfield 42, 3) := by decide +kernel
theorem d_170_78 : decode (am_b 170) 78 = .ok (.aload 4, 2) := by decide +kernel
theorem d_170_80 : decode (am_b 170) 80 = .ok (.invokevirtual 144, 3) := by decide +kernel
theorem d_170_83 : decode (am_b 170) 83 = .ok (.iload_n 2, 1) := by decide +kernel
theorem d_170_84 : decode (am_b 170) 84 = .ok (.istore 6, 2) := by decide +kernel
theorem d_170_86 : decode (am_b 170) 86 = .ok (.iconst 0, 1) := by decide +kernel
theorem d_170_87 : decode (am_b 170) 87 = .ok (.istore 7, 2) := by decide +kernel
theorem d_170_89 : decode (am_b 170) 89 = .ok (.iload 7, 2) := by decide +kernel
theorem d_170_91 : decode (am_b 170) 91 = .ok (.iload_n 3, 1) := by decide +kernel
theorem d_170_92 : decode (am_b 170) 92 = .ok (.if_icmp .ge 83, 3) := by decide +kernel
theorem d_170_95 : decode (am_b 170) 95 = .ok (.iload 6, 2) := by decide +kernel
theorem d_170_97 : decode (am_b 170) 97 = .ok (.invokestatic 366, 3) := by decide +kernel
theorem d_170_100 : decode (am_b 170) 100 = .ok (.istore 6, 2) := by decide +kernel
theorem d_170_102 : decode (am_b 170) 102 = .ok (.iload 6, 2) := by decide +kernel
theorem d_170_104 : decode (am_b 170) 104 = .ok (.iload 5, 2) := by decide +kernel
theorem d_170_106 : decode (am_b 170) 106 = .ok (.irem, 1) := by decide +kernel
theorem d_170_107 : decode (am_b 170) 107 = .ok (.istore 8, 2) := by decide +kernel
theorem d_170_109 : decode (am_b 170) 109 = .ok (.iload 6, 2) := by decide +kernel
theorem d_170_111 : decode (am_b 170) 111 = .ok (.invokestatic 366, 3) := by decide +kernel
theorem d_170_114 : decode (am_b 170) 114 = .ok (.istore 6, 2) := by decide +kernel
theorem d_170_116 : decode (am_b 170) 116 = .ok (.iload 6, 2) := by decide +kernel
theorem d_170_118 : decode (am_b 170) 118 = .ok (.iload 5, 2) := by decide +kernel
theorem d_170_120 : decode (am_b 170) 120 = .ok (.iconst 1, 1) := by decide +kernel
theorem d_170_121 : decode (am_b 170) 121 = .ok (.isub, 1) := by decide +kernel
theorem d_170_122 : decode (am_b 170) 122 = .ok (.irem, 1) := by decide +kernel
theorem d_170_123 : decode (am_b 170) 123 = .ok (.istore 9, 2) := by decide +kernel
theorem d_170_125 : decode (am_b 170) 125 = .ok (.iload 9, 2) := by decide +kernel
theorem d_170_127 : decode (am_b 170) 127 = .ok (.iload 8, 2) := by decide +kernel
theorem d_170_129 : decode (am_b 170) 129 = .ok (.if_icmp .lt 6, 3) := by decide +kernel
theorem d_170_132 : decode (am_b 170) 132 = .ok (.iinc 9 1, 3) := by decide +kernel
theorem d_170_135 : decode (am_b 170) 135 = .ok (.iload 6, 2) := by decide +kernel
theorem d_170_137 : decode (am_b 170) 137 = .ok (.invokestatic 366, 3) := by decide +kernel
theorem d_170_140 : decode (am_b 170) 140 = .ok (.istore 6, 2) := by decide +kernel
theorem d_170_142 : decode (am_b 170) 142 = .ok (.aload_n 0, 1) := by decide +kernel
theorem d_170_143 : decode (am_b 170) 143 = .ok (.getfield 42, 3) := by decide +kernel
theorem d_170_146 : decode (am_b 170) 146 = .ok (.iload 8, 2) := by decide +kernel
theorem d_170_148 : decode (am_b 170) 148 = .ok (.iload 9, 2) := by decide +kernel
theorem d_170_150 : decode (am_b 170) 150 = .ok (.aload_n 0, 1) := by decide +kernel
theorem d_170_151 : decode (am_b 170) 151 = .ok (.getfield 42, 3) := by decide +kernel
theorem d_170_154 : decode (am_b 170) 154 = .ok (.iload 8, 2) := by decide +kernel
theorem d_170_156 : decode (am_b 170) 156 = .ok (.iload 9, 2) := by decide +kernel
theorem d_170_158 : decode (am_b 170) 158 = .ok (.iload 6, 2) := by decide +kernel
theorem d_170_160 : decode (am_b 170) 160 = .ok (.iload 5, 2) := by decide +kernel
theorem d_170_162 : decode (am_b 170) 162 = .ok (.irem, 1) := by decide +kernel
theorem d_170_163 : decode (am_b 170) 163 = .ok (.invokevirtual 173, 3) := by decide +kernel
theorem d_170_166 : decode (am_b 170) 166 = .ok (.invokevirtual 177, 3) := by decide +kernel
theorem d_170_169 : decode (am_b 170) 169 = .ok (.iinc 7 1, 3) := by decide +kernel
theorem d_170_172 : decode (am_b 170) 172 = .ok (.goto (-83), 3) := by decide +kernel
theorem d_170_175 : decode (am_b 170) 175 = .ok (.aload_n 0, 1) := by decide +kernel
theorem d_170_176 : decode (am_b 170) 176 = .ok (.aload_n 0, 1) := by decide +kernel
theorem d_170_177 : decode (am_b 170) 177 = .ok (.getfield 42, 3) := by decide +kernel
theorem d_170_180 : decode (am_b 170) 180 = .ok (.aload 4, 2) := by decide +kernel
theorem d_170_182 : decode (am_b 170) 182 = .ok (.invokevirtual 309, 3) := by decide +kernel
theorem d_170_185 : decode (am_b 170) 185 = .ok (.invokevirtual 212, 3) := by decide +kernel
theorem d_170_188 : decode (am_b 170) 188 = .ok (.ireturn, 1) := by decide +kernel
theorem d_171_0 : decode (am_b 171) 0 = .ok (.iload_n 0, 1) := by decide +kernel
theorem d_171_1 : decode (am_b 171) 1 = .ok (.sipush 1103, 3) := by decide +kernel
theorem d_171_4 : decode (am_b 171) 4 = .ok (.imul, 1) := by decide +kernel
theorem d_171_5 : decode (am_b 171) 5 = .ok (.sipush 12345, 3) := by decide +kernel
theorem d_171_8 : decode (am_b 171) 8 = .ok (.iadd, 1) := by decide +kernel
theorem d_171_9 : decode (am_b 171) 9 = .ok (.ldc_w 369, 3) := by decide +kernel
theorem d_171_12 : decode (am_b 171) 12 = .ok (.irem, 1) := by decide +kernel
theorem d_171_13 : decode (am_b 171) 13 = .ok (.ireturn, 1) := by decide +kernel
theorem d_172_0 : decode (am_b 172) 0 = .ok (.aload_n 0, 1) := by decide +kernel
theorem d_172_1 : decode (am_b 172) 1 = .ok (.getfield 42, 3) := by decide +kernel
theorem d_172_4 : decode (am_b 172) 4 = .ok (.iload_n 1, 1) := by decide +kernel
theorem d_172_5 : decode (am_b 172) 5 = .ok (.invokevirtual 148, 3) := by decide +kernel
theorem d_172_8 : decode (am_b 172) 8 = .ok (.ifCond .eq 26, 3) := by decide +kernel
theorem d_172_11 : decode (am_b 172) 11 = .ok (.aload_n 0, 1) := by decide +kernel
theorem d_172_12 : decode (am_b 172) 12 = .ok (.getfield 42, 3) := by decide +kernel
theorem d_172_15 : decode (am_b 172) 15 = .ok (.iload_n 2, 1) := by decide +kernel
theorem d_172_16 : decode (am_b 172) 16 = .ok (.invokevirtual 148, 3) := by decide +kernel
theorem d_172_19 : decode (am_b 172) 19 = .ok (.ifCond .eq 15, 3) := by decide +kernel
theorem d_172_22 : decode (am_b 172) 22 = .ok (.aload_n 0, 1) := by decide +kernel
theorem d_172_23 : decode (am_b 172) 23 = .ok (.getfield 42, 3) := by decide +kernel
theorem d_172_26 : decode (am_b 172) 26 = .ok (.iload_n 1, 1) := by decide +kernel
theorem d_172_27 : decode (am_b 172) 27 = .ok (.iload_n 2, 1) := by decide +kernel
theorem d_172_28 : decode (am_b 172) 28 = .ok (.invokevirtual 151, 3) := by decide +kernel
theorem d_172_31 : decode (am_b 172) 31 = .ok (.goto 4, 3) := by decide +kernel
theorem d_172_34 : decode (am_b 172) 34 = .ok (.iconst (-1), 1) := by decide +kernel
theorem d_172_35 : decode (am_b 172) 35 = .ok (.ireturn, 1) := by decide +kernel
theorem d_173_0 : decode (am_b 173) 0 = .ok (.iload_n 1, 1) := by decide +kernel
theorem d_173_1 : decode (am_b 173) 1 = .ok (.ifCond .lt 8, 3) := by decide +kernel
theorem d_173_4 : decode (am_b 173) 4 = .ok (.iload_n 1, 1) := by decide +kernel
theorem d_173_5 : decode (am_b 173) 5 = .ok (.iconst 2, 1) := by decide +kernel
theorem d_173_6 : decode (am_b 173) 6 = .ok (.if_icmp .lt 9, 3) := by decide +kernel
theorem d_173_9 : decode (am_b 173) 9 = .ok (.aload_n 0, 1) := by decide +kernel
theorem d_173_10 : decode (am_b 173) 10 = .ok (.iconst (-1), 1) := by decide +kernel
theorem d_173_11 : decode (am_b 173) 11 = .ok (.invokevirtual 104, 3) := by decide +kernel
theorem d_173_14 : decode (am_b 173) 14 = .ok (.ireturn, 1) := by decide +kernel
theorem d_173_15 : decode (am_b 173) 15 = .ok (.aload_n 0, 1) := by decide +kernel
theorem d_173_16 : decode (am_b 173) 16 = .ok (.getfield 16, 3) := by decide +kernel
theorem d_173_19 : decode (am_b 173) 19 = .ok (.iload_n 1, 1) := by decide +kernel
theorem d_173_20 : decode (am_b 173) 20 = .ok (.aaload, 1) := by decide +kernel
theorem d_173_21 : decode (am_b 173) 21 = .ok (.ifnonnull 16, 3) := by decide +kernel
theorem d_173_24 : decode (am_b 173) 24 = .ok (.aload_n 0, 1) := by decide +kernel
theorem d_173_25 : decode (am_b 173) 25 = .ok (.getfield 16, 3) := by decide +kernel
theorem d_173_28 : decode (am_b 173) 28 = .ok (.iload_n 1, 1) := by decide +kernel
theorem d_173_29 : decode (am_b 173) 29 = .ok (.new 7, 3) := by decide +kernel
theorem d_173_32 : decode (am_b 173) 32 = .ok (.dup, 1) := by decide +kernel
theorem d_173_33 : decode (am_b 173) 33 = .ok (.invokespecial 9, 3) := by decide +kernel
theorem d_173_36 : decode (am_b 173) 36 = .ok (.aastore, 1) := by decide +kernel
theorem d_173_37 : decode (am_b 173) 37 = .ok (.aload_n 0, 1) := by decide +kernel
theorem d_173_38 : decode (am_b 173) 38 = .ok (.getfield 16, 3) := by decide +kernel
theorem d_173_41 : decode (am_b 173) 41 = .ok (.iload_n 1, 1) := by decide +kernel
theorem d_173_42 : decode (am_b 173) 42 = .ok (.aaload, 1) := by decide +kernel
theorem d_173_43 : decode (am_b 173) 43 = .ok (.aload_n 0, 1) := by decide +kernel
theorem d_173_44 : decode (am_b 173) 44 = .ok (.getfield 10, 3) := by decide +kernel
theorem d_173_47 : decode (am_b 173) 47 = .ok (.invokevirtual 370, 3) := by decide +kernel
theorem d_173_50 : decode (am_b 173) 50 = .ok (.aload_n 0, 1) := by decide +kernel
theorem d_173_51 : decode (am_b 173) 51 = .ok (.iconst 0, 1) := by decide +kernel
theorem d_173_52 : decode (am_b 173) 52 = .ok (.invokevirtual 212, 3) := by decide +kernel
theorem d_173_55 : decode (am_b 173) 55 = .ok (.ireturn, 1) := by decide +kernel
theorem d_174_0 : decode (am_b 174) 0 = .ok (.iload_n 1, 1) := by decide +kernel
theorem d_174_1 : decode (am_b 174) 1 = .ok (.ifCond .lt 8, 3) := by decide +kernel
theorem d_174_4 : decode (am_b 174) 4 = .ok (.iload_n 1, 1) := by decide +kernel
theorem d_174_5 : decode (am_b 174) 5 = .ok (.iconst 2, 1) := by decide +kernel
theorem d_174_6 : decode (am_b 174) 6 = .ok (.if_icmp .lt 9, 3) := by decide +kernel
theorem d_174_9 : decode (am_b 174) 9 = .ok (.aload_n 0, 1) := by decide +kernel
theorem d_174_10 : decode (am_b 174) 10 = .ok (.iconst (-1), 1) := by decide +kernel
theorem d_174_11 : decode (am_b 174) 11 = .ok (.invokevirtual 104, 3) := by decide +kernel
theorem d_174_14 : decode (am_b 174) 14 = .ok (.ireturn, 1) := by decide +kernel
theorem d_174_15 : decode (am_b 174) 15 = .ok (.aload_n 0, 1) := by decide +kernel
theorem d_174_16 : decode (am_b 174) 16 = .ok (.getfield 16, 3) := by decide +kernel
theorem d_174_19 : decode (am_b 174) 19 = .ok (.iload_n 1, 1) := by decide +kernel
theorem d_174_20 : decode (am_b 174) 20 = .ok (.aaload, 1) := by decide +kernel
theorem d_174_21 : decode (am_b 174) 21 = .ok (.ifnonnull 10, 3) := by decide +kernel
theorem d_174_24 : decode (am_b 174) 24 = .ok (.aload_n 0, 1) := by decide +kernel
theorem d_174_25 : decode (am_b 174) 25 = .ok (.bipush (-2), 2) := by decide +kernel
theorem d_174_27 : decode (am_b 174) 27 = .ok (.invokevirtual 104, 3) := by decide +kernel
theorem d_174_30 : decode (am_b 174) 30 = .ok (.ireturn, 1) := by decide +kernel
theorem d_174_31 : decode (am_b 174) 31 = .ok (.aload_n 0, 1) := by decide +kernel
theorem d_174_32 : decode (am_b 174) 32 = .ok (.getfield 10, 3) := by decide +kernel
theorem d_174_35 : decode (am_b 174) 35 = .ok (.aload_n 0, 1) := by decide +kernel
theorem d_174_36 : decode (am_b 174) 36 = .ok (.getfield 16, 3) := by decide +kernel
theorem d_174_39 : decode (am_b 174) 39 = .ok (.iload_n 1, 1) := by decide +kernel
theorem d_174_40 : decode (am_b 174) 40 = .ok (.aaload, 1) := by decide +kernel
theorem d_174_41 : decode (am_b 174) 41 = .ok (.invokevirtual 370, 3) := by decide +kernel
theorem d_174_44 : decode (am_b 174) 44 = .ok (.aload_n 0, 1) := by decide +kernel
theorem d_174_45 : decode (am_b 174) 45 = .ok (.iconst 0, 1) := by decide +kernel
theorem d_174_46 : decode (am_b 174) 46 = .ok (.invokevirtual 212, 3) := by decide +kernel
theorem d_174_49 : decode (am_b 174) 49 = .ok (.ireturn, 1) := by decide +kernel
theorem d_175_0 : decode (am_b 175) 0 = .ok (.iload_n 1, 1) := by decide +kernel
theorem d_175_1 : decode (am_b 175) 1 = .ok (.tableswitch 152 0 11 #[63, 71, 79, 87, 95, 100, 107, 114, 121, 128, 136, 144], 63) := by decide +kernel
theorem d_175_64 : decode (am_b 175) 64 = .ok (.aload_n 0, 1) := by decide +kernel
theorem d_175_65 : decode (am_b 175) 65 = .ok (.getfield 10, 3) := by decide +kernel
theorem d_175_68 : decode (am_b 175) 68 = .ok (.invokevirtual 373, 3) := by decide +kernel
theorem d_175_71 : decode (am_b 175) 71 = .ok (.ireturn, 1) := by decide +kernel
theorem d_175_72 : decode (am_b 175) 72 = .ok (.aload_n 0, 1) := by decide +kernel
theorem d_175_73 : decode (am_b 175) 73 = .ok (.getfield 10, 3) := by decide +kernel
theorem d_175_76 : decode (am_b 175) 76 = .ok (.getfield 231, 3) := by decide +kernel
theorem d_175_79 : decode (am_b 175) 79 = .ok (.ireturn, 1) := by decide +kernel
theorem d_175_80 : decode (am_b 175) 80 = .ok (.aload_n 0, 1) := by decide +kernel
theorem d_175_81 : decode (am_b 175) 81 = .ok (.getfield 10, 3) := by decide +kernel
theorem d_175_84 : decode (am_b 175) 84 = .ok (.getfield 342, 3) := by decide +kernel
theorem d_175_87 : decode (am_b 175) 87 = .ok (.ireturn, 1) := by decide +kernel
theorem d_175_88 : decode (am_b 175) 88 = .ok (.aload_n 0, 1) := by decide +kernel
theorem d_175_89 : decode (am_b 175) 89 = .ok (.getfield 10, 3) := by decide +kernel
theorem d_175_92 : decode (am_b 175) 92 = .ok (.invokevirtual 376, 3) := by decide +kernel
theorem d_175_95 : decode (am_b 175) 95 = .ok (.ireturn, 1) := by decide +kernel
theorem d_175_96 : decode (am_b 175) 96 = .ok (.aload_n 0, 1) := by decide +kernel
theorem d_175_97 : decode (am_b 175) 97 = .ok (.getfield 93, 3) := by decide +kernel
theorem d_175_100 : decode (am_b 175) 100 = .ok (.ireturn, 1) := by decide +kernel
theorem d_175_101 : decode (am_b 175) 101 = .ok (.aload_n 0, 1) := by decide +kernel
theorem d_175_102 : decode (am_b 175) 102 = .ok (.getfield 90, 3) := by decide +kernel
theorem d_175_105 : decode (am_b 175) 105 = .ok (.iconst 1, 1) := by decide +kernel
theorem d_175_106 : decode (am_b 175) 106 = .ok (.iaload, 1) := by decide +kernel
theorem d_175_107 : decode (am_b 175) 107 = .ok (.ireturn, 1) := by decide +kernel
theorem d_175_108 : decode (am_b 175) 108 = .ok (.aload_n 0, 1) := by decide +kernel
theorem d_175_109 : decode (am_b 175) 109 = .ok (.getfield 90, 3) := by decide +kernel
theorem d_175_112 : decode (am_b 175) 112 = .ok (.iconst 2, 1) := by decide +kernel
theorem d_175_113 : decode (am_b 175) 113 = .ok (.iaload, 1) := by decide +kernel
theorem d_175_114 : decode (am_b 175) 114 = .ok (.ireturn, 1) := by decide +kernel
theorem d_175_115 : decode (am_b 175) 115 = .ok (.aload_n 0, 1) := by decide +kernel
theorem d_175_116 : decode (am_b 175) 116 = .ok (.getfield 90, 3) := by decide +kernel
theorem d_175_119 : decode (am_b 175) 119 = .ok (.iconst 3, 1) := by decide +kernel
theorem d_175_120 : decode (am_b 175) 120 = .ok (.iaload, 1) := by decide +kernel
theorem d_175_121 : decode (am_b 175) 121 = .ok (.ireturn, 1) := by decide +kernel
theorem d_175_122 : decode (am_b 175) 122 = .ok (.aload_n 0, 1) := by decide +kernel
theorem d_175_123 : decode (am_b 175) 123 = .ok (.getfield 90, 3) := by decide +kernel
theorem d_175_126 : decode (am_b 175) 126 = .ok (.iconst 5, 1) := by decide +kernel
theorem d_175_127 : decode (am_b 175) 127 = .ok (.iaload, 1) := by decide +kernel
theorem d_175_128 : decode (am_b 175) 128 = .ok (.ireturn, 1) := by decide +kernel
theorem d_175_129 : decode (am_b 175) 129 = .ok (.aload_n 0, 1) := by decide +kernel
theorem d_175_130 : decode (am_b 175) 130 = .ok (.getfield 90, 3) := by decide +kernel
theorem d_175_133 : decode (am_b 175) 133 = .ok (.bipush 6, 2) := by decide +kernel
theorem d_175_135 : decode (am_b 175) 135 = .ok (.iaload, 1) := by decide +kernel
theorem d_175_136 : decode (am_b 175) 136 = .ok (.ireturn, 1) := by decide +kernel
theorem d_175_137 : decode (am_b 175) 137 = .ok (.aload_n 0, 1) := by decide +kernel
theorem d_175_138 : decode (am_b 175) 138 = .ok (.getfield 10, 3) := by decide +kernel
theorem d_175_141 : decode (am_b 175) 141 = .ok (.getfield 206, 3) := by decide +kernel
theorem d_175_144 : decode (am_b 175) 144 = .ok (.ireturn, 1) := by decide +kernel
theorem d_175_145 : decode (am_b 175) 145 = .ok (.aload_n 0, 1) := by decide +kernel
theorem d_175_146 : decode (am_b 175) 146 = .ok (.getfield 10, 3) := by decide +kernel
theorem d_175_149 : decode (am_b 175) 149 = .ok (.getfield 215, 3) := by decide +kernel
theorem d_175_152 : decode (am_b 175) 152 = .ok (.ireturn, 1) := by decide +kernel
theorem d_175_153 : decode (am_b 175) 153 = .ok (.iconst (-1), 1) := by decide +kernel
theorem d_175_154 : decode (am_b 175) 154 = .ok (.ireturn, 1) := by decide +kernel
theorem d_176_0 : decode (am_b 176) 0 = .ok (.aload_n 0, 1) := by decide +kernel
theorem d_176_1 : decode (am_b 176) 1 = .ok (.getfield 379, 3) := by decide +kernel
theorem d_176_4 : decode (am_b 176) 4 = .ok (.ireturn, 1) := by decide +kernel
theorem d_177_0 : decode (am_b 177) 0 = .ok (.aload_n 0, 1) := by decide +kernel
theorem d_177_1 : decode (am_b 177) 1 = .ok (.invokespecial 3, 3) := by decide +kernel
theorem d_177_4 : decode (am_b 177) 4 = .ok (.aload_n 0, 1) := by decide +kernel
theorem d_177_5 : decode (am_b 177) 5 = .ok (.bipush 7, 2) := by decide +kernel
theorem d_177_7 : decode (am_b 177) 7 = .ok (.newarray .int, 2) := by decide +kernel
theorem d_177_9 : decode (am_b 177) 9 = .ok (.putfield 9, 3) := by decide +kernel
theorem d_177_12 : decode (am_b 177) 12 = .ok (.aload_n 0, 1) := by decide +kernel
theorem d_177_13 : decode (am_b 177) 13 = .ok (.sipush 5720, 3) := by decide +kernel
theorem d_177_16 : decode (am_b 177) 16 = .ok (.newarray .int, 2) := by decide +kernel
theorem d_177_18 : decode (am_b 177) 18 = .ok (.putfield 13, 3) := by decide +kernel
theorem d_177_21 : decode (am_b 177) 21 = .ok (.aload_n 0, 1) := by decide +kernel
theorem d_177_22 : decode (am_b 177) 22 = .ok (.sipush 11440, 3) := by decide +kernel
theorem d_177_25 : decode (am_b 177) 25 = .ok (.newarray .int, 2) := by decide +kernel
theorem d_177_27 : decode (am_b 177) 27 = .ok (.putfield 16, 3) := by decide +kernel
theorem d_177_30 : decode (am_b 177) 30 = .ok (.aload_n 0, 1) := by decide +kernel
theorem d_177_31 : decode (am_b 177) 31 = .ok (.iconst 2, 1) := by decide +kernel
theorem d_177_32 : decode (am_b 177) 32 = .ok (.newarray .boolean, 2) := by decide +kernel
theorem d_177_34 : decode (am_b 177) 34 = .ok (.putfield 19, 3) := by decide +kernel
theorem d_177_37 : decode (am_b 177) 37 = .ok (.aload_n 0, 1) := by decide +kernel
theorem d_177_38 : decode (am_b 177) 38 = .ok (.bipush 36, 2) := by decide +kernel
theorem d_177_40 : decode (am_b 177) 40 = .ok (.newarray .int, 2) := by decide +kernel
theorem d_177_42 : decode (am_b 177) 42 = .ok (.putfield 23, 3) := by decide +kernel
theorem d_177_45 : decode (am_b 177) 45 = .ok (.aload_n 0, 1) := by decide +kernel
theorem d_177_46 : decode (am_b 177) 46 = .ok (.bipush 36, 2) := by decide +kernel
theorem d_177_48 : decode (am_b 177) 48 = .ok (.newarray .int, 2) := by decide +kernel
theorem d_177_50 : decode (am_b 177) 50 = .ok (.putfield 26, 3) := by decide +kernel
theorem d_177_53 : decode (am_b 177) 53 = .ok (.aload_n 0, 1) := by decide +kernel
theorem d_177_54 : decode (am_b 177) 54 = .ok (.bipush 11, 2) := by decide +kernel
theorem d_177_56 : decode (am_b 177) 56 = .ok (.newarray .byte, 2) := by decide +kernel
theorem d_177_58 : decode (am_b 177) 58 = .ok (.dup, 1) := by decide +kernel
theorem d_177_59 : decode (am_b 177) 59 = .ok (.iconst 0, 1) := by decide +kernel
theorem d_177_60 : decode (am_b 177) 60 = .ok (.bipush 120, 2) := by decide +kernel
theorem d_177_62 : decode (am_b 177) 62 = .ok (.bastore, 1) := by decide +kernel
theorem d_177_63 : decode (am_b 177) 63 = .ok (.dup, 1) := by decide +kernel
theorem d_177_64 : decode (am_b 177) 64 = .ok (.iconst 1, 1) := by decide +kernel
theorem d_177_65 : decode (am_b 177) 65 = .ok (.bipush 32, 2) := by decide +kernel
theorem d_177_67 : decode (am_b 177) 67 = .ok (.bastore, 1) := by decide +kernel
theorem d_177_68 : decode (am_b 177) 68 = .ok (.dup, 1) := by decide +kernel
theorem d_177_69 : decode (am_b 177) 69 = .ok (.iconst 2, 1) := by decide +kernel
theorem d_177_70 : decode (am_b 177) 70 = .ok (.bipush 121, 2) := by decide +kernel
theorem d_177_72 : decode (am_b 177) 72 = .ok (.bastore, 1) := by decide +kernel
theorem d_177_73 : decode (am_b 177) 73 = .ok (.dup, 1) := by decide +kernel
theorem d_177_74 : decode (am_b 177) 74 = .ok (.iconst 3, 1) := by decide +kernel
theorem d_177_75 : decode (am_b 177) 75 = .ok (.bipush 32, 2) := by decide +kernel
theorem d_177_77 : decode (am_b 177) 77 = .ok (.bastore, 1) := by decide +kernel
theorem d_177_78 : decode (am_b 177) 78 = .ok (.dup, 1) := by decide +kernel
theorem d_177_79 : decode (am_b 177) 79 = .ok (.iconst 4, 1) := by decide +kernel
theorem d_177_80 : decode (am_b 177) 80 = .ok (.bipush 122, 2) := by decide +kernel
theorem d_177_82 : decode (am_b 177) 82 = .ok (.bastore, 1) := by decide +kernel
theorem d_177_83 : decode (am_b 177) 83 = .ok (.dup, 1) := by decide +kernel
theorem d_177_84 : decode (am_b 177) 84 = .ok (.iconst 5, 1) := by decide +kernel
theorem d_177_85 : decode (am_b 177) 85 = .ok (.bipush 32, 2) := by decide +kernel
theorem d_177_87 : decode (am_b 177) 87 = .ok (.bastore, 1) := by decide +kernel
theorem d_177_88 : decode (am_b 177) 88 = .ok (.dup, 1) := by decide +kernel
theorem d_177_89 : decode (am_b 177) 89 = .ok (.bipush 6, 2) := by decide +kernel
theorem d_177_91 : decode (am_b 177) 91 = .ok (.bipush 101, 2) := by decide +kernel
theorem d_177_93 : decode (am_b 177) 93 = .ok (.bastore, 1) := by decide +kernel
theorem d_177_94 : decode (am_b 177) 94 = .ok (.dup, 1) := by decide +kernel
theorem d_177_95 : decode (am_b 177) 95 = .ok (.bipush 7, 2) := by decide +kernel
theorem d_177_97 : decode (am_b 177) 97 = .ok (.bipush 32, 2) := by decide +kernel
theorem d_177_99 : decode (am_b 177) 99 = .ok (.bastore, 1) := by decide +kernel
theorem d_177_100 : decode (am_b 177) 100 = .ok (.dup, 1) := by decide +kernel
theorem d_177_101 : decode (am_b 177) 101 = .ok (.bipush 8, 2) := by decide +kernel
theorem d_177_103 : decode (am_b 177) 103 = .ok (.bipush 105, 2) := by decide +kernel
theorem d_177_105 : decode (am_b 177) 105 = .ok (.bastore, 1) := by decide +kernel
theorem d_177_106 : decode (am_b 177) 106 = .ok (.dup, 1) := by decide +kernel
theorem d_177_107 : decode (am_b 177) 107 = .ok (.bipush 9, 2) := by decide +kernel
theorem d_177_109 : decode (am_b 177) 109 = .ok (.bipush 102, 2) := by decide +kernel
theorem d_177_111 : decode (am_b 177) 111 = .ok (.bastore, 1) := by decide +kernel
theorem d_177_112 : decode (am_b 177) 112 = .ok (.dup, 1) := by decide +kernel
theorem d_177_113 : decode (am_b 177) 113 = .ok (.bipush 10, 2) := by decide +kernel
theorem d_177_115 : decode (am_b 177) 115 = .ok (.bipush 32, 2) := by decide +kernel
theorem d_177_117 : decode (am_b 177) 117 = .ok (.bastore, 1) := by decide +kernel
theorem d_177_118 : decode (am_b 177) 118 = .ok (.putfield 29, 3) := by decide +kernel
theorem d_177_121 : decode (am_b 177) 121 = .ok (.aload_n 0, 1) := by decide +kernel
theorem d_177_122 : decode (am_b 177) 122 = .ok (.sipush 400, 3) := by decide +kernel
theorem d_177_125 : decode (am_b 177) 125 = .ok (.newarray .byte, 2) := by decide +kernel
theorem d_177_127 : decode (am_b 177) 127 = .ok (.putfield 33, 3) := by decide +kernel
theorem d_177_130 : decode (am_b 177) 130 = .ok (.aload_n 0, 1) := by decide +kernel
theorem d_177_131 : decode (am_b 177) 131 = .ok (.iconst 5, 1) := by decide +kernel
theorem d_177_132 : decode (am_b 177) 132 = .ok (.newarray .int, 2) := by decide +kernel
theorem d_177_134 : decode (am_b 177) 134 = .ok (.putfield 36, 3) := by decide +kernel
theorem d_177_137 : decode (am_b 177) 137 = .ok (.aload_n 0, 1) := by decide +kernel
theorem d_177_138 : decode (am_b 177) 138 = .ok (.iconst (-1), 1) := by decide +kernel
theorem d_177_139 : decode (am_b 177) 139 = .ok (.putfield 39, 3) := by decide +kernel
theorem d_177_142 : decode (am_b 177) 142 = .ok (.aload_n 0, 1) := by decide +kernel
theorem d_177_143 : decode (am_b 177) 143 = .ok (.sipush 401, 3) := by decide +kernel
theorem d_177_146 : decode (am_b 177) 146 = .ok (.newarray .int, 2) := by decide +kernel
theorem d_177_148 : decode (am_b 177) 148 = .ok (.putfield 43, 3) := by decide +kernel
theorem d_177_151 : decode (am_b 177) 151 = .ok (.aload_n 0, 1) := by decide +kernel
theorem d_177_152 : decode (am_b 177) 152 = .ok (.sipush 401, 3) := by decide +kernel
theorem d_177_155 : decode (am_b 177) 155 = .ok (.newarray .int, 2) := by decide +kernel
theorem d_177_157 : decode (am_b 177) 157 = .ok (.putfield 46, 3) := by decide +kernel
theorem d_177_160 : decode (am_b 177) 160 = .ok (.aload_n 0, 1) := by decide +kernel
theorem d_177_161 : decode (am_b 177) 161 = .ok (.sipush 401, 3) := by decide +kernel
theorem d_177_164 : decode (am_b 177) 164 = .ok (.newarray .int, 2) := by decide +kernel
theorem d_177_166 : decode (am_b 177) 166 = .ok (.putfield 49, 3) := by decide +kernel
theorem d_177_169 : decode (am_b 177) 169 = .ok (.aload_n 0, 1) := by decide +kernel
theorem d_177_170 : decode (am_b 177) 170 = .ok (.iconst 5, 1) := by decide +kernel
theorem d_177_171 : decode (am_b 177) 171 = .ok (.newarray .int, 2) := by decide +kernel
theorem d_177_173 : decode (am_b 177) 173 = .ok (.putfield 52, 3) := by decide +kernel
theorem d_177_176 : decode (am_b 177) 176 = .ok (.aload_n 0, 1) := by decide +kernel
theorem d_177_177 : decode (am_b 177) 177 = .ok (.bipush 6, 2) := by decide +kernel
theorem d_177_179 : decode (am_b 177) 179 = .ok (.newarray .int, 2) := by decide +kernel
theorem d_177_181 : decode (am_b 177) 181 = .ok (.putfield 55, 3) := by decide +kernel
theorem d_177_184 : decode (am_b 177) 184 = .ok (.aload_n 0, 1) := by decide +kernel
theorem d_177_185 : decode (am_b 177) 185 = .ok (.bipush 6, 2) := by decide +kernel
theorem d_177_187 : decode (am_b 177) 187 = .ok (.newarray .int, 2) := by decide +kernel
theorem d_177_189 : decode (am_b 177) 189 = .ok (.putfield 58, 3) := by decide +kernel
theorem d_177_192 : decode (am_b 177) 192 = .ok (.aload_n 0, 1) := by decide +kernel
theorem d_177_193 : decode (am_b 177) 193 = .ok (.sipush 720, 3) := by decide +kernel
theorem d_177_196 : decode (am_b 177) 196 = .ok (.newarray .boolean, 2) := by decide +kernel
theorem d_177_198 : decode (am_b 177) 198 = .ok (.putfield 61, 3) := by decide +kernel
theorem d_177_201 : decode (am_b 177) 201 = .ok (.aload_n 0, 1) := by decide +kernel
theorem d_177_202 : decode (am_b 177) 202 = .ok (.sipush 720, 3) := by decide +kernel
theorem d_177_205 : decode (am_b 177) 205 = .ok (.newarray .int, 2) := by decide +kernel
theorem d_177_207 : decode (am_b 177) 207 = .ok (.putfield 64, 3) := by decide +kernel
theorem d_177_210 : decode (am_b 177) 210 = .ok (.aload_n 0, 1) := by decide +kernel
theorem d_177_211 : decode (am_b 177) 211 = .ok (.bipush 6, 2) := by decide +kernel
theorem d_177_213 : decode (am_b 177) 213 = .ok (.newarray .int, 2) := by decide +kernel
theorem d_177_215 : decode (am_b 177) 215 = .ok (.putfield 67, 3) := by decide +kernel
theorem d_177_218 : decode (am_b 177) 218 = .ok (.aload_n 0, 1) := by decide +kernel
theorem d_177_219 : decode (am_b 177) 219 = .ok (.bipush 6, 2) := by decide +kernel
theorem d_177_221 : decode (am_b 177) 221 = .ok (.newarray .int, 2) := by decide +kernel
theorem d_177_223 : decode (am_b 177) 223 = .ok (.putfield 70, 3) := by decide +kernel
theorem d_177_226 : decode (am_b 177) 226 = .ok (.aload_n 0, 1) := by decide +kernel
theorem d_177_227 : decode (am_b 177) 227 = .ok (.bipush 36, 2) := by decide +kernel
theorem d_177_229 : decode (am_b 177) 229 = .ok (.newarray .int, 2) := by decide +kernel
theorem d_177_231 : decode (am_b 177) 231 = .ok (.putfield 73, 3) := by decide +kernel
theorem d_177_234 : decode (am_b 177) 234 = .ok (.aload_n 0, 1) := by decide +kernel
theorem d_177_235 : decode (am_b 177) 235 = .ok (.bipush 36, 2) := by decide +kernel
theorem d_177_237 : decode (am_b 177) 237 = .ok (.newarray .int, 2) := by decide +kernel
theorem d_177_239 : decode (am_b 177) 239 = .ok (.putfield 76, 3) := by decide +kernel
theorem d_177_242 : decode (am_b 177) 242 = .ok (.aload_n 0, 1) := by decide +kernel
theorem d_177_243 : decode (am_b 177) 243 = .ok (.sipush 720, 3) := by decide +kernel
theorem d_177_246 : decode (am_b 177) 246 = .ok (.newarray .int, 2) := by decide +kernel
theorem d_177_248 : decode (am_b 177) 248 = .ok (.putfield 79, 3) := by decide +kernel
theorem d_177_251 : decode (am_b 177) 251 = .ok (.aload_n 0, 1) := by decide +kernel
theorem d_177_252 : decode (am_b 177) 252 = .ok (.bipush 6, 2) := by decide +kernel
theorem d_177_254 : decode (am_b 177) 254 = .ok (.newarray .int, 2) := by decide +kernel
theorem d_177_256 : decode (am_b 177) 256 = .ok (.putfield 82, 3) := by decide +kernel
theorem d_177_259 : decode (am_b 177) 259 = .ok (.aload_n 0, 1) := by decide +kernel
theorem d_177_260 : decode (am_b 177) 260 = .ok (.bipush 6, 2) := by decide +kernel
theorem d_177_262 : decode (am_b 177) 262 = .ok (.newarray .int, 2) := by decide +kernel
theorem d_177_264 : decode (am_b 177) 264 = .ok (.putfield 85, 3) := by decide +kernel
theorem d_177_267 : decode (am_b 177) 267 = .ok (.aload_n 0, 1) := by decide +kernel
theorem d_177_268 : decode (am_b 177) 268 = .ok (.bipush 6, 2) := by decide +kernel
theorem d_177_270 : decode (am_b 177) 270 = .ok (.newarray .int, 2) := by decide +kernel
theorem d_177_272 : decode (am_b 177) 272 = .ok (.putfield 88, 3) := by decide +kernel
theorem d_177_275 : decode (am_b 177) 275 = .ok (.aload_n 0, 1) := by decide +kernel
theorem d_177_276 : decode (am_b 177) 276 = .ok (.bipush 36, 2) := by decide +kernel
theorem d_177_278 : decode (am_b 177) 278 = .ok (.newarray .int, 2) := by decide +kernel
theorem d_177_280 : decode (am_b 177) 280 = .ok (.putfield 91, 3) := by decide +kernel
theorem d_177_283 : decode (am_b 177) 283 = .ok (.aload_n 0, 1) := by decide +kernel
theorem d_177_284 : decode (am_b 177) 284 = .ok (.iconst (-1), 1) := by decide +kernel
theorem d_177_285 : decode (am_b 177) 285 = .ok (.putfield 94, 3) := by decide +kernel
theorem d_177_288 : decode (am_b 177) 288 = .ok (.aload_n 0, 1) := by decide +kernel
theorem d_177_289 : decode (am_b 177) 289 = .ok (.bipush 36, 2) := by decide +kernel
theorem d_177_291 : decode (am_b 177) 291 = .ok (.newarray .int, 2) := by decide +kernel
theorem d_177_293 : decode (am_b 177) 293 = .ok (.putfield 97, 3) := by decide +kernel
theorem d_177_296 : decode (am_b 177) 296 = .ok (.return_, 1) := by decide +kernel
theorem d_178_0 : decode (am_b 178) 0 = .ok (.iload_n 1, 1) := by decide +kernel
theorem d_178_1 : decode (am_b 178) 1 = .ok (.iconst 0, 1) := by decide +kernel
theorem d_178_2 : decode (am_b 178) 2 = .ok (.iconst 1, 1) := by decide +kernel
theorem d_178_3 : decode (am_b 178) 3 = .ok (.invokestatic 106, 3) := by decide +kernel
theorem d_178_6 : decode (am_b 178) 6 = .ok (.ifCond .ne 9, 3) := by decide +kernel
theorem d_178_9 : decode (am_b 178) 9 = .ok (.aload_n 0, 1) := by decide +kernel
theorem d_178_10 : decode (am_b 178) 10 = .ok (.iconst (-1), 1) := by decide +kernel
theorem d_178_11 : decode (am_b 178) 11 = .ok (.invokevirtual 110, 3) := by decide +kernel
theorem d_178_14 : decode (am_b 178) 14 = .ok (.ireturn, 1) := by decide +kernel
theorem d_178_15 : decode (am_b 178) 15 = .ok (.iconst 0, 1) := by decide +kernel
theorem d_178_16 : decode (am_b 178) 16 = .ok (.istore_n 2, 1) := by decide +kernel
theorem d_178_17 : decode (am_b 178) 17 = .ok (.iload_n 2, 1) := by decide +kernel
theorem d_178_18 : decode (am_b 178) 18 = .ok (.sipush 5720, 3) := by decide +kernel
theorem d_178_21 : decode (am_b 178) 21 = .ok (.if_icmp .ge 27, 3) := by decide +kernel
theorem d_178_24 : decode (am_b 178) 24 = .ok (.aload_n 0, 1) := by decide +kernel
theorem d_178_25 : decode (am_b 178) 25 = .ok (.getfield 16, 3) := by decide +kernel
theorem d_178_28 : decode (am_b 178) 28 = .ok (.sipush 5720, 3) := by decide +kernel
theorem d_178_31 : decode (am_b 178) 31 = .ok (.iload_n 1, 1) := by decide +kernel
theorem d_178_32 : decode (am_b 178) 32 = .ok (.imul, 1) := by decide +kernel
theorem d_178_33 : decode (am_b 178) 33 = .ok (.iload_n 2, 1) := by decide +kernel
theorem d_178_34 : decode (am_b 178) 34 = .ok (.iadd, 1) := by decide +kernel
theorem d_178_35 : decode (am_b 178) 35 = .ok (.aload_n 0, 1) := by decide +kernel
theorem d_178_36 : decode (am_b 178) 36 = .ok (.getfield 13, 3) := by decide +kernel
theorem d_178_39 : decode (am_b 178) 39 = .ok (.iload_n 2, 1) := by decide +kernel
theorem d_178_40 : decode (am_b 178) 40 = .ok (.iaload, 1) := by decide +kernel
theorem d_178_41 : decode (am_b 178) 41 = .ok (.iastore, 1) := by decide +kernel
theorem d_178_42 : decode (am_b 178) 42 = .ok (.iinc 2 1, 3) := by decide +kernel
theorem d_178_45 : decode (am_b 178) 45 = .ok (.goto (-28), 3) := by decide +kernel
theorem d_178_48 : decode (am_b 178) 48 = .ok (.aload_n 0, 1) := by decide +kernel
theorem d_178_49 : decode (am_b 178) 49 = .ok (.getfield 19, 3) := by decide +kernel
theorem d_178_52 : decode (am_b 178) 52 = .ok (.iload_n 1, 1) := by decide +kernel
theorem d_178_53 : decode (am_b 178) 53 = .ok (.iconst 1, 1) := by decide +kernel
theorem d_178_54 : decode (am_b 178) 54 = .ok (.bastore, 1) := by decide +kernel
theorem d_178_55 : decode (am_b 178) 55 = .ok (.aload_n 0, 1) := by decide +kernel
theorem d_178_56 : decode (am_b 178) 56 = .ok (.iconst 0, 1) := by decide +kernel
theorem d_178_57 : decode (am_b 178) 57 = .ok (.invokevirtual 114, 3) := by decide +kernel
theorem d_178_60 : decode (am_b 178) 60 = .ok (.ireturn, 1) := by decide +kernel
theorem d_179_0 : decode (am_b 179) 0 = .ok (.iload_n 0, 1) := by decide +kernel
theorem d_179_1 : decode (am_b 179) 1 = .ok (.iload_n 1, 1) := by decide +kernel
theorem d_179_2 : decode (am_b 179) 2 = .ok (.if_icmp .lt 12, 3) := by decide +kernel
theorem d_179_5 : decode (am_b 179) 5 = .ok (.iload_n 0, 1) := by decide +kernel
theorem d_179_6 : decode (am_b 179) 6 = .ok (.iload_n 2, 1) := by decide +kernel
theorem d_179_7 : decode (am_b 179) 7 = .ok (.if_icmp .gt 7, 3) := by decide +kernel
theorem d_179_10 : decode (am_b 179) 10 = .ok (.iconst 1, 1) := by decide +kernel
theorem d_179_11 : decode (am_b 179) 11 = .ok (.goto 4, 3) := by decide +kernel
theorem d_179_14 : decode (am_b 179) 14 = .ok (.iconst 0, 1) := by decide +kernel
theorem d_179_15 : decode (am_b 179) 15 = .ok (.ireturn, 1) := by decide +kernel
theorem d_180_0 : decode (am_b 180) 0 = .ok (.aload_n 0, 1) := by decide +kernel
theorem d_180_1 : decode (am_b 180) 1 = .ok (.iload_n 1, 1) := by decide +kernel
theorem d_180_2 : decode (am_b 180) 2 = .ok (.putfield 100, 3) := by decide +kernel
theorem d_180_5 : decode (am_b 180) 5 = .ok (.aload_n 0, 1) := by decide +kernel
theorem d_180_6 : decode (am_b 180) 6 = .ok (.getfield 9, 3) := by decide +kernel
theorem d_180_9 : decode (am_b 180) 9 = .ok (.iload_n 1, 1) := by decide +kernel
theorem d_180_10 : decode (am_b 180) 10 = .ok (.ineg, 1) := by decide +kernel
theorem d_180_11 : decode (am_b 180) 11 = .ok (.dup2, 1) := by decide +kernel
theorem d_180_12 : decode (am_b 180) 12 = .ok (.iaload, 1) := by decide +kernel
theorem d_180_13 : decode (am_b 180) 13 = .ok (.iconst 1, 1) := by decide +kernel
theorem d_180_14 : decode (am_b 180) 14 = .ok (.iadd, 1) := by decide +kernel
theorem d_180_15 : decode (am_b 180) 15 = .ok (.iastore, 1) := by decide +kernel
theorem d_180_16 : decode (am_b 180) 16 = .ok (.iload_n 1, 1) := by decide +kernel
theorem d_180_17 : decode (am_b 180) 17 = .ok (.ireturn, 1) := by decide +kernel
theorem d_181_0 : decode (am_b 181) 0 = .ok (.aload_n 0, 1) := by decide +kernel
theorem d_181_1 : decode (am_b 181) 1 = .ok (.iconst 0, 1) := by decide +kernel
theorem d_181_2 : decode (am_b 181) 2 = .ok (.putfield 100, 3) := by decide +kernel
theorem d_181_5 : decode (am_b 181) 5 = .ok (.aload_n 0, 1) := by decide +kernel
theorem d_181_6 : decode (am_b 181) 6 = .ok (.dup, 1) := by decide +kernel
theorem d_181_7 : decode (am_b 181) 7 = .ok (.getfield 103, 3) := by decide +kernel
theorem d_181_10 : decode (am_b 181) 10 = .ok (.iconst 1, 1) := by decide +kernel
theorem d_181_11 : decode (am_b 181) 11 = .ok (.iadd, 1) := by decide +kernel
theorem d_181_12 : decode (am_b 181) 12 = .ok (.putfield 103, 3) := by decide +kernel
theorem d_181_15 : decode (am_b 181) 15 = .ok (.iload_n 1, 1) := by decide +kernel
theorem d_181_16 : decode (am_b 181) 16 = .ok (.ireturn, 1) := by decide +kernel
theorem d_182_0 : decode (am_b 182) 0 = .ok (.iload_n 1, 1) := by decide +kernel
theorem d_182_1 : decode (am_b 182) 1 = .ok (.iconst 0, 1) := by decide +kernel
theorem d_182_2 : decode (am_b 182) 2 = .ok (.iconst 1, 1) := by decide +kernel
theorem d_182_3 : decode (am_b 182) 3 = .ok (.invokestatic 106, 3) := by decide +kernel
theorem d_182_6 : decode (am_b 182) 6 = .ok (.ifCond .ne 9, 3) := by decide +kernel
theorem d_182_9 : decode (am_b 182) 9 = .ok (.aload_n 0, 1) := by decide +kernel
theorem d_182_10 : decode (am_b 182) 10 = .ok (.iconst (-1), 1) := by decide +kernel
theorem d_182_11 : decode (am_b 182) 11 = .ok (.invokevirtual 110, 3) := by decide +kernel
theorem d_182_14 : decode (am_b 182) 14 = .ok (.ireturn, 1) := by decide +kernel
theorem d_182_15 : decode (am_b 182) 15 = .ok (.aload_n 0, 1) := by decide +kernel
theorem d_182_16 : decode (am_b 182) 16 = .ok (.getfield 19, 3) := by decide +kernel
theorem d_182_19 : decode (am_b 182) 19 = .ok (.iload_n 1, 1) := by decide +kernel
theorem d_182_20 : decode (am_b 182) 20 = .ok (.baload, 1) := by decide +kernel
theorem d_182_21 : decode (am_b 182) 21 = .ok (.ifCond .ne 10, 3) := by decide +kernel
theorem d_182_24 : decode (am_b 182) 24 = .ok (.aload_n 0, 1) := by decide +kernel
theorem d_182_25 : decode (am_b 182) 25 = .ok (.bipush (-2), 2) := by decide +kernel
theorem d_182_27 : decode (am_b 182) 27 = .ok (.invokevirtual 110, 3) := by decide +kernel
theorem d_182_30 : decode (am_b 182) 30 = .ok (.ireturn, 1) := by decide +kernel
theorem d_182_31 : decode (am_b 182) 31 = .ok (.iconst 0, 1) := by decide +kernel
theorem d_182_32 : decode (am_b 182) 32 = .ok (.istore_n 2, 1) := by decide +kernel
theorem d_182_33 : decode (am_b 182) 33 = .ok (.iload_n 2, 1) := by decide +kernel
theorem d_182_34 : decode (am_b 182) 34 = .ok (.sipush 5720, 3) := by decide +kernel
theorem d_182_37 : decode (am_b 182) 37 = .ok (.if_icmp .ge 27, 3) := by decide +kernel
theorem d_182_40 : decode (am_b 182) 40 = .ok (.aload_n 0, 1) := by decide +kernel
theorem d_182_41 : decode (am_b 182) 41 = .ok (.getfield 13, 3) := by decide +kernel
theorem d_182_44 : decode (am_b 182) 44 = .ok (.iload_n 2, 1) := by decide +kernel
theorem d_182_45 : decode (am_b 182) 45 = .ok (.aload_n 0, 1) := by decide +kernel
theorem d_182_46 : decode (am_b 182) 46 = .ok (.getfield 16, 3) := by decide +kernel
theorem d_182_49 : decode (am_b 182) 49 = .ok (.sipush 5720, 3) := by decide +kernel
theorem d_182_52 : decode (am_b 182) 52 = .ok (.iload_n 1, 1) := by decide +kernel
theorem d_182_53 : decode (am_b 182) 53 = .ok (.imul, 1) := by decide +kernel
theorem d_182_54 : decode (am_b 182) 54 = .ok (.iload_n 2, 1) := by decide +kernel
theorem d_182_55 : decode (am_b 182) 55 = .ok (.iadd, 1) := by decide +kernel
theorem d_182_56 : decode (am_b 182) 56 = .ok (.iaload, 1) := by decide +kernel
theorem d_182_57 : decode (am_b 182) 57 = .ok (.iastore, 1) := by decide +kernel
theorem d_182_58 : decode (am_b 182) 58 = .ok (.iinc 2 1, 3) := by decide +kernel
theorem d_182_61 : decode (am_b 182) 61 = .ok (.goto (-28), 3) := by decide +kernel
theorem d_182_64 : decode (am_b 182) 64 = .ok (.aload_n 0, 1) := by decide +kernel
theorem d_182_65 : decode (am_b 182) 65 = .ok (.iconst 0, 1) := by decide +kernel
theorem d_182_66 : decode (am_b 182) 66 = .ok (.invokevirtual 114, 3) := by decide +kernel
theorem d_182_69 : decode (am_b 182) 69 = .ok (.ireturn, 1) := by decide +kernel
theorem d_183_0 : decode (am_b 183) 0 = .ok (.aload_n 0, 1) := by decide +kernel
theorem d_183_1 : decode (am_b 183) 1 = .ok (.iload_n 1, 1) := by decide +kernel
theorem d_183_2 : decode (am_b 183) 2 = .ok (.invokevirtual 124, 3) := by decide +kernel
theorem d_183_5 : decode (am_b 183) 5 = .ok (.ifCond .eq 11, 3) := by decide +kernel
theorem d_183_8 : decode (am_b 183) 8 = .ok (.aload_n 0, 1) := by decide +kernel
theorem d_183_9 : decode (am_b 183) 9 = .ok (.iload_n 1, 1) := by decide +kernel
theorem d_183_10 : decode (am_b 183) 10 = .ok (.invokevirtual 121, 3) := by decide +kernel
theorem d_183_13 : decode (am_b 183) 13 = .ok (.goto 4, 3) := by decide +kernel
theorem d_183_16 : decode (am_b 183) 16 = .ok (.iconst (-1), 1) := by decide +kernel
theorem d_183_17 : decode (am_b 183) 17 = .ok (.ireturn, 1) := by decide +kernel
theorem d_184_0 : decode (am_b 184) 0 = .ok (.iload_n 1, 1) := by decide +kernel
theorem d_184_1 : decode (am_b 184) 1 = .ok (.invokestatic 117, 3) := by decide +kernel
theorem d_184_4 : decode (am_b 184) 4 = .ok (.ifCond .eq 15, 3) := by decide +kernel
theorem d_184_7 : decode (am_b 184) 7 = .ok (.aload_n 0, 1) := by decide +kernel
theorem d_184_8 : decode (am_b 184) 8 = .ok (.iload_n 1, 1) := by decide +kernel
theorem d_184_9 : decode (am_b 184) 9 = .ok (.invokevirtual 121, 3) := by decide +kernel
theorem d_184_12 : decode (am_b 184) 12 = .ok (.ifCond .le 7, 3) := by decide +kernel
theorem d_184_15 : decode (am_b 184) 15 = .ok (.iconst 1, 1) := by decide +kernel
theorem d_184_16 : decode (am_b 184) 16 = .ok (.goto 4, 3) := by decide +kernel
theorem d_184_19 : decode (am_b 184) 19 = .ok (.iconst 0, 1) := by decide +kernel
theorem d_184_20 : decode (am_b 184) 20 = .ok (.ireturn, 1) := by decide +kernel
theorem d_185_0 : decode (am_b 185) 0 = .ok (.iload_n 0, 1) := by decide +kernel
theorem d_185_1 : decode (am_b 185) 1 = .ok (.iconst 0, 1) := by decide +kernel
theorem d_185_2 : decode (am_b 185) 2 = .ok (.iconst 5, 1) := by decide +kernel
theorem d_185_3 : decode (am_b 185) 3 = .ok (.invokestatic 106, 3) := by decide +kernel
theorem d_185_6 : decode (am_b 185) 6 = .ok (.ireturn, 1) := by decide +kernel
theorem d_186_0 : decode (am_b 186) 0 = .ok (.aload_n 0, 1) := by decide +kernel
theorem d_186_1 : decode (am_b 186) 1 = .ok (.getfield 13, 3) := by decide +kernel
theorem d_186_4 : decode (am_b 186) 4 = .ok (.bipush 37, 2) := by decide +kernel
theorem d_186_6 : decode (am_b 186) 6 = .ok (.iload_n 1, 1) := by decide +kernel
theorem d_186_7 : decode (am_b 186) 7 = .ok (.imul, 1) := by decide +kernel
theorem d_186_8 : decode (am_b 186) 8 = .ok (.iaload, 1) := by decide +kernel
theorem d_186_9 : decode (am_b 186) 9 = .ok (.ireturn, 1) := by decide +kernel
theorem d_187_0 : decode (am_b 187) 0 = .ok (.aload_n 0, 1) := by decide +kernel
theorem d_187_1 : decode (am_b 187) 1 = .ok (.getfield 13, 3) := by decide +kernel
theorem d_187_4 : decode (am_b 187) 4 = .ok (.sipush 2510, 3) := by decide +kernel
theorem d_187_7 : decode (am_b 187) 7 = .ok (.iaload, 1) := by decide +kernel
theorem d_187_8 : decode (am_b 187) 8 = .ok (.ifCond .ne 10, 3) := by decide +kernel
theorem d_187_11 : decode (am_b 187) 11 = .ok (.aload_n 0, 1) := by decide +kernel
theorem d_187_12 : decode (am_b 187) 12 = .ok (.bipush (-3), 2) := by decide +kernel
theorem d_187_14 : decode (am_b 187) 14 = .ok (.invokevirtual 110, 3) := by decide +kernel
theorem d_187_17 : decode (am_b 187) 17 = .ok (.ireturn, 1) := by decide +kernel
theorem d_187_18 : decode (am_b 187) 18 = .ok (.aload_n 0, 1) := by decide +kernel
theorem d_187_19 : decode (am_b 187) 19 = .ok (.getfield 13, 3) := by decide +kernel
theorem d_187_22 : decode (am_b 187) 22 = .ok (.sipush 2510, 3) := by decide +kernel
theorem d_187_25 : decode (am_b 187) 25 = .ok (.dup2, 1) := by decide +kernel
theorem d_187_26 : decode (am_b 187) 26 = .ok (.iaload, 1) := by decide +kernel
theorem d_187_27 : decode (am_b 187) 27 = .ok (.iconst 1, 1) := by decide +kernel
theorem d_187_28 : decode (am_b 187) 28 = .ok (.isub, 1) := by decide +kernel
theorem d_187_29 : decode (am_b 187) 29 = .ok (.iastore, 1) := by decide +kernel
theorem d_187_30 : decode (am_b 187) 30 = .ok (.sipush 259, 3) := by decide +kernel
theorem d_187_33 : decode (am_b 187) 33 = .ok (.bipush 75, 2) := by decide +kernel
theorem d_187_35 : decode (am_b 187) 35 = .ok (.aload_n 0, 1) := by decide +kernel
theorem d_187_36 : decode (am_b 187) 36 = .ok (.getfield 13, 3) := by decide +kernel
theorem d_187_39 : decode (am_b 187) 39 = .ok (.sipush 2510, 3) := by decide +kernel
theorem d_187_42 : decode (am_b 187) 42 = .ok (.iaload, 1) := by decide +kernel
theorem d_187_43 : decode (am_b 187) 43 = .ok (.imul, 1) := by decide +kernel
theorem d_187_44 : decode (am_b 187) 44 = .ok (.iadd, 1) := by decide +kernel
theorem d_187_45 : decode (am_b 187) 45 = .ok (.istore_n 1, 1) := by decide +kernel
theorem d_187_46 : decode (am_b 187) 46 = .ok (.iconst 0, 1) := by decide +kernel
theorem d_187_47 : decode (am_b 187) 47 = .ok (.istore_n 2, 1) := by decide +kernel
theorem d_187_48 : decode (am_b 187) 48 = .ok (.iload_n 2, 1) := by decide +kernel
theorem d_187_49 : decode (am_b 187) 49 = .ok (.bipush 37, 2) := by decide +kernel
theorem d_187_51 : decode (am_b 187) 51 = .ok (.if_icmp .ge 35, 3) := by decide +kernel
theorem d_187_54 : decode (am_b 187) 54 = .ok (.aload_n 0, 1) := by decide +kernel
theorem d_187_55 : decode (am_b 187) 55 = .ok (.getfield 13, 3) := by decide +kernel
theorem d_187_58 : decode (am_b 187) 58 = .ok (.bipush 37, 2) := by decide +kernel
theorem d_187_60 : decode (am_b 187) 60 = .ok (.aload_n 0, 1) := by decide +kernel
theorem d_187_61 : decode (am_b 187) 61 = .ok (.getfield 13, 3) := by decide +kernel
theorem d_187_64 : decode (am_b 187) 64 = .ok (.iload_n 1, 1) := by decide +kernel
theorem d_187_65 : decode (am_b 187) 65 = .ok (.iaload, 1) := by decide +kernel
theorem d_187_66 : decode (am_b 187) 66 = .ok (.imul, 1) := by decide +kernel
theorem d_187_67 : decode (am_b 187) 67 = .ok (.iload_n 2, 1) := by decide +kernel
theorem d_187_68 : decode (am_b 187) 68 = .ok (.iadd, 1) := by decide +kernel
theorem d_187_69 : decode (am_b 187) 69 = .ok (.aload_n 0, 1) := by decide +kernel
theorem d_187_70 : decode (am_b 187) 70 = .ok (.getfield 13, 3) := by decide +kernel
theorem d_187_73 : decode (am_b 187) 73 = .ok (.iload_n 1, 1) := by decide +kernel
theorem d_187_74 : decode (am_b 187) 74 = .ok (.iconst 1, 1) := by decide +kernel
theorem d_187_75 : decode (am_b 187) 75 = .ok (.iadd, 1) := by decide +kernel
theorem d_187_76 : decode (am_b 187) 76 = .ok (.iload_n 2, 1) := by decide +kernel
theorem d_187_77 : decode (am_b 187) 77 = .ok (.iadd, 1) := by decide +kernel
theorem d_187_78 : decode (am_b 187) 78 = .ok (.iaload, 1) := by decide +kernel
theorem d_187_79 : decode (am_b 187) 79 = .ok (.iastore, 1) := by decide +kernel
theorem d_187_80 : decode (am_b 187) 80 = .ok (.iinc 2 1, 3) := by decide +kernel
theorem d_187_83 : decode (am_b 187) 83 = .ok (.goto (-35), 3) := by decide +kernel
theorem d_187_86 : decode (am_b 187) 86 = .ok (.aload_n 0, 1) := by decide +kernel
theorem d_187_87 : decode (am_b 187) 87 = .ok (.aload_n 0, 1) := by decide +kernel
theorem d_187_88 : decode (am_b 187) 88 = .ok (.getfield 13, 3) := by decide +kernel
theorem d_187_91 : decode (am_b 187) 91 = .ok (.sipush 2510, 3) := by decide +kernel
theorem d_187_94 : decode (am_b 187) 94 = .ok (.iaload, 1) := by decide +kernel
theorem d_187_95 : decode (am_b 187) 95 = .ok (.invokevirtual 114, 3) := by decide +kernel
theorem d_187_98 : decode (am_b 187) 98 = .ok (.ireturn, 1) := by decide +kernel
theorem d_188_0 : decode (am_b 188) 0 = .ok (.aload_n 0, 1) := by decide +kernel
theorem d_188_1 : decode (am_b 188) 1 = .ok (.getfield 13, 3) := by decide +kernel
theorem d_188_4 : decode (am_b 188) 4 = .ok (.sipush 2510, 3) := by decide +kernel
theorem d_188_7 : decode (am_b 188) 7 = .ok (.iaload, 1) := by decide +kernel
theorem d_188_8 : decode (am_b 188) 8 = .ok (.aload_n 0, 1) := by decide +kernel
theorem d_188_9 : decode (am_b 188) 9 = .ok (.getfield 13, 3) := by decide +kernel
theorem d_188_12 : decode (am_b 188) 12 = .ok (.sipush 2511, 3) := by decide +kernel
theorem d_188_15 : decode (am_b 188) 15 = .ok (.iaload, 1) := by decide +kernel
theorem d_188_16 : decode (am_b 188) 16 = .ok (.if_icmp .ne 10, 3) := by decide +kernel
theorem d_188_19 : decode (am_b 188) 19 = .ok (.aload_n 0, 1) := by decide +kernel
theorem d_188_20 : decode (am_b 188) 20 = .ok (.bipush (-3), 2) := by decide +kernel
theorem d_188_22 : decode (am_b 188) 22 = .ok (.invokevirtual 110, 3) := by decide +kernel
theorem d_188_25 : decode (am_b 188) 25 = .ok (.ireturn, 1) := by decide +kernel
theorem d_188_26 : decode (am_b 188) 26 = .ok (.sipush 259, 3) := by decide +kernel
theorem d_188_29 : decode (am_b 188) 29 = .ok (.bipush 75, 2) := by decide +kernel
theorem d_188_31 : decode (am_b 188) 31 = .ok (.aload_n 0, 1) := by decide +kernel
theorem d_188_32 : decode (am_b 188) 32 = .ok (.getfield 13, 3) := by decide +kernel
theorem d_188_35 : decode (am_b 188) 35 = .ok (.sipush 2510, 3) := by decide +kernel
theorem d_188_38 : decode (am_b 188) 38 = .ok (.iaload, 1) := by decide +kernel
theorem d_188_39 : decode (am_b 188) 39 = .ok (.imul, 1) := by decide +kernel
theorem d_188_40 : decode (am_b 188) 40 = .ok (.iadd, 1) := by decide +kernel
theorem d_188_41 : decode (am_b 188) 41 = .ok (.istore_n 1, 1) := by decide +kernel
theorem d_188_42 : decode (am_b 188) 42 = .ok (.iconst 0, 1) := by decide +kernel
theorem d_188_43 : decode (am_b 188) 43 = .ok (.istore_n 2, 1) := by decide +kernel
theorem d_188_44 : decode (am_b 188) 44 = .ok (.iload_n 2, 1) := by decide +kernel
theorem d_188_45 : decode (am_b 188) 45 = .ok (.bipush 37, 2) := by decide +kernel
theorem d_188_47 : decode (am_b 188) 47 = .ok (.if_icmp .ge 38, 3) := by decide +kernel
theorem d_188_50 : decode (am_b 188) 50 = .ok (.aload_n 0, 1) := by decide +kernel
theorem d_188_51 : decode (am_b 188) 51 = .ok (.getfield 13, 3) := by decide +kernel
theorem d_188_54 : decode (am_b 188) 54 = .ok (.bipush 37, 2) := by decide +kernel
theorem d_188_56 : decode (am_b 188) 56 = .ok (.aload_n 0, 1) := by decide +kernel
theorem d_188_57 : decode (am_b 188) 57 = .ok (.getfield 13, 3) := by decide +kernel
theorem d_188_60 : decode (am_b 188) 60 = .ok (.iload_n 1, 1) := by decide +kernel
theorem d_188_61 : decode (am_b 188) 61 = .ok (.iaload, 1) := by decide +kernel
theorem d_188_62 : decode (am_b 188) 62 = .ok (.imul, 1) := by decide +kernel
theorem d_188_63 : decode (am_b 188) 63 = .ok (.iload_n 2, 1) := by decide +kernel
theorem d_188_64 : decode (am_b 188) 64 = .ok (.iadd, 1) := by decide +kernel
theorem d_188_65 : decode (am_b 188) 65 = .ok (.aload_n 0, 1) := by decide +kernel
theorem d_188_66 : decode (am_b 188) 66 = .ok (.getfield 13, 3) := by decide +kernel
theorem d_188_69 : decode (am_b 188) 69 = .ok (.iload_n 1, 1) := by decide +kernel
theorem d_188_70 : decode (am_b 188) 70 = .ok (.iconst 1, 1) := by decide +kernel
theorem d_188_71 : decode (am_b 188) 71 = .ok (.iadd, 1) := by decide +kernel
theorem d_188_72 : decode (am_b 188) 72 = .ok (.bipush 37, 2) := by decide +kernel
theorem d_188_74 : decode (am_b 188) 74 = .ok (.iadd, 1) := by decide +kernel
theorem d_188_75 : decode (am_b 188) 75 = .ok (.iload_n 2, 1) := by decide +kernel
theorem d_188_76 : decode (am_b 188) 76 = .ok (.iadd, 1) := by decide +kernel
theorem d_188_77 : decode (am_b 188) 77 = .ok (.iaload, 1) := by decide +kernel
theorem d_188_78 : decode (am_b 188) 78 = .ok (.iastore, 1) := by decide +kernel
theorem d_188_79 : decode (am_b 188) 79 = .ok (.iinc 2 1, 3) := by decide +kernel
theorem d_188_82 : decode (am_b 188) 82 = .ok (.goto (-38), 3) := by decide +kernel
theorem d_188_85 : decode (am_b 188) 85 = .ok (.aload_n 0, 1) := by decide +kernel
theorem d_188_86 : decode (am_b 188) 86 = .ok (.getfield 13, 3) := by decide +kernel
theorem d_188_89 : decode (am_b 188) 89 = .ok (.sipush 2510, 3) := by decide +kernel
theorem d_188_92 : decode (am_b 188) 92 = .ok (.dup2, 1) := by decide +kernel
theorem d_188_93 : decode (am_b 188) 93 = .ok (.iaload, 1) := by decide +kernel
theorem d_188_94 : decode (am_b 188) 94 = .ok (.iconst 1, 1) := by decide +kernel
theorem d_188_95 : decode (am_b 188) 95 = .ok (.iadd, 1) := by decide +kernel
theorem d_188_96 : decode (am_b 188) 96 = .ok (.iastore, 1) := by decide +kernel
theorem d_188_97 : decode (am_b 188) 97 = .ok (.aload_n 0, 1) := by decide +kernel
theorem d_188_98 : decode (am_b 188) 98 = .ok (.aload_n 0, 1) := by decide +kernel
theorem d_188_99 : decode (am_b 188) 99 = .ok (.getfield 13, 3) := by decide +kernel
theorem d_188_102 : decode (am_b 188) 102 = .ok (.sipush 2511, 3) := by decide +kernel
theorem d_188_105 : decode (am_b 188) 105 = .ok (.iaload, 1) := by decide +kernel
theorem d_188_106 : decode (am_b 188) 106 = .ok (.aload_n 0, 1) := by decide +kernel
theorem d_188_107 : decode (am_b 188) 107 = .ok (.getfield 13, 3) := by decide +kernel
theorem d_188_110 : decode (am_b 188) 110 = .ok (.sipush 2510, 3) := by decide +kernel
theorem d_188_113 : decode (am_b 188) 113 = .ok (.iaload, 1) := by decide +kernel
theorem d_188_114 : decode (am_b 188) 114 = .ok (.isub, 1) := by decide +kernel
theorem d_188_115 : decode (am_b 188) 115 = .ok (.invokevirtual 114, 3) := by decide +kernel
theorem d_188_118 : decode (am_b 188) 118 = .ok (.ireturn, 1) := by decide +kernel
theorem d_189_0 : decode (am_b 189) 0 = .ok (.aload_n 0, 1) := by decide +kernel
theorem d_189_1 : decode (am_b 189) 1 = .ok (.getfield 137, 3) := by decide +kernel
theorem d_189_4 : decode (am_b 189) 4 = .ok (.bipush 20, 2) := by decide +kernel
theorem d_189_6 : decode (am_b 189) 6 = .ok (.iadd, 1) := by decide +kernel
theorem d_189_7 : decode (am_b 189) 7 = .ok (.sipush 400, 3) := by decide +kernel
theorem d_189_10 : decode (am_b 189) 10 = .ok (.if_icmp .le 5, 3) := by decide +kernel
theorem d_189_13 : decode (am_b 189) 13 = .ok (.iconst (-1), 1) := by decide +kernel
theorem d_189_14 : decode (am_b 189) 14 = .ok (.ireturn, 1) := by decide +kernel
theorem d_189_15 : decode (am_b 189) 15 = .ok (.aload_n 0, 1) := by decide +kernel
theorem d_189_16 : decode (am_b 189) 16 = .ok (.getfield 36, 3) := by decide +kernel
theorem d_189_19 : decode (am_b 189) 19 = .ok (.iconst 0, 1) := by decide +kernel
theorem d_189_20 : decode (am_b 189) 20 = .ok (.iload_n 1, 1) := by decide +kernel
theorem d_189_21 : decode (am_b 189) 21 = .ok (.iastore, 1) := by decide +kernel
theorem d_189_22 : decode (am_b 189) 22 = .ok (.aload_n 0, 1) := by decide +kernel
theorem d_189_23 : decode (am_b 189) 23 = .ok (.getfield 36, 3) := by decide +kernel
theorem d_189_26 : decode (am_b 189) 26 = .ok (.iconst 1, 1) := by decide +kernel
theorem d_189_27 : decode (am_b 189) 27 = .ok (.iload_n 2, 1) := by decide +kernel
theorem d_189_28 : decode (am_b 189) 28 = .ok (.iastore, 1) := by decide +kernel
theorem d_189_29 : decode (am_b 189) 29 = .ok (.aload_n 0, 1) := by decide +kernel
theorem d_189_30 : decode (am_b 189) 30 = .ok (.getfield 36, 3) := by decide +kernel
theorem d_189_33 : decode (am_b 189) 33 = .ok (.iconst 2, 1) := by decide +kernel
theorem d_189_34 : decode (am_b 189) 34 = .ok (.iload_n 3, 1) := by decide +kernel
theorem d_189_35 : decode (am_b 189) 35 = .ok (.iastore, 1) := by decide +kernel
theorem d_189_36 : decode (am_b 189) 36 = .ok (.aload_n 0, 1) := by decide +kernel
theorem d_189_37 : decode (am_b 189) 37 = .ok (.getfield 36, 3) := by decide +kernel
theorem d_189_40 : decode (am_b 189) 40 = .ok (.iconst 3, 1) := by decide +kernel
theorem d_189_41 : decode (am_b 189) 41 = .ok (.iload 4, 2) := by decide +kernel
theorem d_189_43 : decode (am_b 189) 43 = .ok (.iastore, 1) := by decide +kernel
theorem d_189_44 : decode (am_b 189) 44 = .ok (.aload_n 0, 1) := by decide +kernel
theorem d_189_45 : decode (am_b 189) 45 = .ok (.getfield 36, 3) := by decide +kernel
theorem d_189_48 : decode (am_b 189) 48 = .ok (.iconst 4, 1) := by decide +kernel
theorem d_189_49 : decode (am_b 189) 49 = .ok (.iload 5, 2) := by decide +kernel
theorem d_189_51 : decode (am_b 189) 51 = .ok (.iastore, 1) := by decide +kernel
theorem d_189_52 : decode (am_b 189) 52 = .ok (.iconst 0, 1) := by decide +kernel
theorem d_189_53 : decode (am_b 189) 53 = .ok (.istore 6, 2) := by decide +kernel
theorem d_189_55 : decode (am_b 189) 55 = .ok (.iload 6, 2) := by decide +kernel
theorem d_189_57 : decode (am_b 189) 57 = .ok (.bipush 20, 2) := by decide +kernel
theorem d_189_59 : decode (am_b 189) 59 = .ok (.if_icmp .ge 42, 3) := by decide +kernel
theorem d_189_62 : decode (am_b 189) 62 = .ok (.aload_n 0, 1) := by decide +kernel
theorem d_189_63 : decode (am_b 189) 63 = .ok (.getfield 33, 3) := by decide +kernel
theorem d_189_66 : decode (am_b 189) 66 = .ok (.aload_n 0, 1) := by decide +kernel
theorem d_189_67 : decode (am_b 189) 67 = .ok (.getfield 137, 3) := by decide +kernel
theorem d_189_70 : decode (am_b 189) 70 = .ok (.iload 6, 2) := by decide +kernel
theorem d_189_72 : decode (am_b 189) 72 = .ok (.iadd, 1) := by decide +kernel
theorem d_189_73 : decode (am_b 189) 73 = .ok (.aload_n 0, 1) := by decide +kernel
theorem d_189_74 : decode (am_b 189) 74 = .ok (.getfield 36, 3) := by decide +kernel
theorem d_189_77 : decode (am_b 189) 77 = .ok (.iload 6, 2) := by decide +kernel
theorem d_189_79 : decode (am_b 189) 79 = .ok (.iconst 4, 1) := by decide +kernel
theorem d_189_80 : decode (am_b 189) 80 = .ok (.idiv, 1) := by decide +kernel
theorem d_189_81 : decode (am_b 189) 81 = .ok (.iaload, 1) := by decide +kernel
theorem d_189_82 : decode (am_b 189) 82 = .ok (.bipush 24, 2) := by decide +kernel
theorem d_189_84 : decode (am_b 189) 84 = .ok (.bipush 8, 2) := by decide +kernel
theorem d_189_86 : decode (am_b 189) 86 = .ok (.iload 6, 2) := by decide +kernel
theorem d_189_88 : decode (am_b 189) 88 = .ok (.iconst 4, 1) := by decide +kernel
theorem d_189_89 : decode (am_b 189) 89 = .ok (.irem, 1) := by decide +kernel
theorem d_189_90 : decode (am_b 189) 90 = .ok (.imul, 1) := by decide +kernel
theorem d_189_91 : decode (am_b 189) 91 = .ok (.isub, 1) := by decide +kernel
theorem d_189_92 : decode (am_b 189) 92 = .ok (.ishr, 1) := by decide +kernel
theorem d_189_93 : decode (am_b 189) 93 = .ok (.i2b, 1) := by decide +kernel
theorem d_189_94 : decode (am_b 189) 94 = .ok (.bastore, 1) := by decide +kernel
theorem d_189_95 : decode (am_b 189) 95 = .ok (.iinc 6 1, 3) := by decide +kernel
theorem d_189_98 : decode (am_b 189) 98 = .ok (.goto (-43), 3) := by decide +kernel
theorem d_189_101 : decode (am_b 189) 101 = .ok (.aload_n 0, 1) := by decide +kernel
theorem d_189_102 : decode (am_b 189) 102 = .ok (.dup, 1) := by decide +kernel
theorem d_189_103 : decode (am_b 189) 103 = .ok (.getfield 137, 3) := by decide +kernel
theorem d_189_106 : decode (am_b 189) 106 = .ok (.bipush 20, 2) := by decide +kernel
theorem d_189_108 : decode (am_b 189) 108 = .ok (.iadd, 1) := by decide +kernel
theorem d_189_109 : decode (am_b 189) 109 = .ok (.putfield 137, 3) := by decide +kernel
theorem d_189_112 : decode (am_b 189) 112 = .ok (.aload_n 0, 1) := by decide +kernel
theorem d_189_113 : decode (am_b 189) 113 = .ok (.getfield 137, 3) := by decide +kernel
theorem d_189_116 : decode (am_b 189) 116 = .ok (.ireturn, 1) := by decide +kernel
theorem d_190_0 : decode (am_b 190) 0 = .ok (.iload_n 1, 1) := by decide +kernel
theorem d_190_1 : decode (am_b 190) 1 = .ok (.iconst 0, 1) := by decide +kernel
theorem d_190_2 : decode (am_b 190) 2 = .ok (.aload_n 0, 1) := by decide +kernel
theorem d_190_3 : decode (am_b 190) 3 = .ok (.getfield 137, 3) := by decide +kernel
theorem d_190_6 : decode (am_b 190) 6 = .ok (.invokestatic 106, 3) := by decide +kernel
theorem d_190_9 : decode (am_b 190) 9 = .ok (.ifCond .ne 5, 3) := by decide +kernel
theorem d_190_12 : decode (am_b 190) 12 = .ok (.iconst (-1), 1) := by decide +kernel
theorem d_190_13 : decode (am_b 190) 13 = .ok (.ireturn, 1) := by decide +kernel
theorem d_190_14 : decode (am_b 190) 14 = .ok (.aload_n 0, 1) := by decide +kernel
theorem d_190_15 : decode (am_b 190) 15 = .ok (.iload_n 1, 1) := by decide +kernel
theorem d_190_16 : decode (am_b 190) 16 = .ok (.putfield 137, 3) := by decide +kernel
theorem d_190_19 : decode (am_b 190) 19 = .ok (.iload_n 1, 1) := by decide +kernel
theorem d_190_20 : decode (am_b 190) 20 = .ok (.ireturn, 1) := by decide +kernel
theorem d_191_0 : decode (am_b 191) 0 = .ok (.aload_n 0, 1) := by decide +kernel
theorem d_191_1 : decode (am_b 191) 1 = .ok (.getfield 13, 3) := by decide +kernel
theorem d_191_4 : decode (am_b 191) 4 = .ok (.sipush 2509, 3) := by decide +kernel
theorem d_191_7 : decode (am_b 191) 7 = .ok (.iaload, 1) := by decide +kernel
theorem d_191_8 : decode (am_b 191) 8 = .ok (.bipush 8, 2) := by decide +kernel
theorem d_191_10 : decode (am_b 191) 10 = .ok (.if_icmp .ne 15, 3) := by decide +kernel
theorem d_191_13 : decode (am_b 191) 13 = .ok (.aload_n 0, 1) := by decide +kernel
theorem d_191_14 : decode (am_b 191) 14 = .ok (.iconst 0, 1) := by decide +kernel
theorem d_191_15 : decode (am_b 191) 15 = .ok (.putfield 137, 3) := by decide +kernel
theorem d_191_18 : decode (am_b 191) 18 = .ok (.aload_n 0, 1) := by decide +kernel
theorem d_191_19 : decode (am_b 191) 19 = .ok (.bipush (-5), 2) := by decide +kernel
theorem d_191_21 : decode (am_b 191) 21 = .ok (.invokevirtual 110, 3) := by decide +kernel
theorem d_191_24 : decode (am_b 191) 24 = .ok (.ireturn, 1) := by decide +kernel
theorem d_191_25 : decode (am_b 191) 25 = .ok (.aload_n 0, 1) := by decide +kernel
theorem d_191_26 : decode (am_b 191) 26 = .ok (.aload_n 0, 1) := by decide +kernel
theorem d_191_27 : decode (am_b 191) 27 = .ok (.getfield 137, 3) := by decide +kernel
theorem d_191_30 : decode (am_b 191) 30 = .ok (.invokevirtual 189, 3) := by decide +kernel
theorem d_191_33 : decode (am_b 191) 33 = .ok (.aload_n 0, 1) := by decide +kernel
theorem d_191_34 : decode (am_b 191) 34 = .ok (.iconst 0, 1) := by decide +kernel
theorem d_191_35 : decode (am_b 191) 35 = .ok (.putfield 137, 3) := by decide +kernel
theorem d_191_38 : decode (am_b 191) 38 = .ok (.aload_n 0, 1) := by decide +kernel
theorem d_191_39 : decode (am_b 191) 39 = .ok (.iconst 0, 1) := by decide +kernel
theorem d_191_40 : decode (am_b 191) 40 = .ok (.putfield 160, 3) := by decide +kernel
theorem d_191_43 : decode (am_b 191) 43 = .ok (.aload_n 0, 1) := by decide +kernel
theorem d_191_44 : decode (am_b 191) 44 = .ok (.iconst 0, 1) := by decide +kernel
theorem d_191_45 : decode (am_b 191) 45 = .ok (.putfield 186, 3) := by decide +kernel
theorem d_191_48 : decode (am_b 191) 48 = .ok (.aload_n 0, 1) := by decide +kernel
theorem d_191_49 : decode (am_b 191) 49 = .ok (.iconst (-1), 1) := by decide +kernel
theorem d_191_50 : decode (am_b 191) 50 = .ok (.putfield 153, 3) := by decide +kernel
theorem d_191_53 : decode (am_b 191) 53 = .ok (.aload_n 0, 1) := by decide +kernel
theorem d_191_54 : decode (am_b 191) 54 = .ok (.invokevirtual 192, 3) := by decide +kernel
theorem d_191_57 : decode (am_b 191) 57 = .ok (.aload_n 0, 1) := by decide +kernel
theorem d_191_58 : decode (am_b 191) 58 = .ok (.iconst 5, 1) := by decide +kernel
theorem d_191_59 : decode (am_b 191) 59 = .ok (.invokevirtual 163, 3) := by decide +kernel
theorem d_191_62 : decode (am_b 191) 62 = .ok (.ifCond .eq 7, 3) := by decide +kernel
theorem d_191_65 : decode (am_b 191) 65 = .ok (.aload_n 0, 1) := by decide +kernel
theorem d_191_66 : decode (am_b 191) 66 = .ok (.invokevirtual 192, 3) := by decide +kernel
theorem d_191_69 : decode (am_b 191) 69 = .ok (.aload_n 0, 1) := by decide +kernel
theorem d_191_70 : decode (am_b 191) 70 = .ok (.invokevirtual 156, 3) := by decide +kernel
theorem d_191_73 : decode (am_b 191) 73 = .ok (.ifCond .eq 18, 3) := by decide +kernel
theorem d_191_76 : decode (am_b 191) 76 = .ok (.aload_n 0, 1) := by decide +kernel
theorem d_191_77 : decode (am_b 191) 77 = .ok (.getfield 160, 3) := by decide +kernel
theorem d_191_80 : decode (am_b 191) 80 = .ok (.aload_n 0, 1) := by decide +kernel
theorem d_191_81 : decode (am_b 191) 81 = .ok (.getfield 140, 3) := by decide +kernel
theorem d_191_84 : decode (am_b 191) 84 = .ok (.if_icmp .ge 7, 3) := by decide +kernel
theorem d_191_87 : decode (am_b 191) 87 = .ok (.aload_n 0, 1) := by decide +kernel
theorem d_191_88 : decode (am_b 191) 88 = .ok (.invokevirtual 166, 3) := by decide +kernel
theorem d_191_91 : decode (am_b 191) 91 = .ok (.aload_n 0, 1) := by decide +kernel
theorem d_191_92 : decode (am_b 191) 92 = .ok (.aload_n 0, 1) := by decide +kernel
theorem d_191_93 : decode (am_b 191) 93 = .ok (.getfield 153, 3) := by decide +kernel
theorem d_191_96 : decode (am_b 191) 96 = .ok (.putfield 39, 3) := by decide +kernel
theorem d_191_99 : decode (am_b 191) 99 = .ok (.aload_n 0, 1) := by decide +kernel
theorem d_191_100 : decode (am_b 191) 100 = .ok (.invokevirtual 156, 3) := by decide +kernel
theorem d_191_103 : decode (am_b 191) 103 = .ok (.ifCond .ne 10, 3) := by decide +kernel
theorem d_191_106 : decode (am_b 191) 106 = .ok (.aload_n 0, 1) := by decide +kernel
theorem d_191_107 : decode (am_b 191) 107 = .ok (.bipush (-6), 2) := by decide +kernel
theorem d_191_109 : decode (am_b 191) 109 = .ok (.invokevirtual 110, 3) := by decide +kernel
theorem d_191_112 : decode (am_b 191) 112 = .ok (.ireturn, 1) := by decide +kernel
theorem d_191_113 : decode (am_b 191) 113 = .ok (.aload_n 0, 1) := by decide +kernel
theorem d_191_114 : decode (am_b 191) 114 = .ok (.getfield 13, 3) := by decide +kernel
theorem d_191_117 : decode (am_b 191) 117 = .ok (.sipush 2509, 3) := by decide +kernel
theorem d_191_120 : decode (am_b 191) 120 = .ok (.iaload, 1) := by decide +kernel
theorem d_191_121 : decode (am_b 191) 121 = .ok (.istore_n 1, 1) := by decide +kernel
theorem d_191_122 : decode (am_b 191) 122 = .ok (.aload_n 0, 1) := by decide +kernel
theorem d_191_123 : decode (am_b 191) 123 = .ok (.getfield 13, 3) := by decide +kernel
theorem d_191_126 : decode (am_b 191) 126 = .ok (.sipush 2512, 3) := by decide +kernel
theorem d_191_129 : decode (am_b 191) 129 = .ok (.iload_n 1, 1) := by decide +kernel
theorem d_191_130 : decode (am_b 191) 130 = .ok (.iadd, 1) := by decide +kernel
theorem d_191_131 : decode (am_b 191) 131 = .ok (.aload_n 0, 1) := by decide +kernel
theorem d_191_132 : decode (am_b 191) 132 = .ok (.getfield 140, 3) := by decide +kernel
theorem d_191_135 : decode (am_b 191) 135 = .ok (.iastore, 1) := by decide +kernel
theorem d_191_136 : decode (am_b 191) 136 = .ok (.iconst 0, 1) := by decide +kernel
theorem d_191_137 : decode (am_b 191) 137 = .ok (.istore_n 2, 1) := by decide +kernel
theorem d_191_138 : decode (am_b 191) 138 = .ok (.iload_n 2, 1) := by decide +kernel
theorem d_191_139 : decode (am_b 191) 139 = .ok (.aload_n 0, 1) := by decide +kernel
theorem d_191_140 : decode (am_b 191) 140 = .ok (.getfield 140, 3) := by decide +kernel
theorem d_191_143 : decode (am_b 191) 143 = .ok (.if_icmp .ge 31, 3) := by decide +kernel
theorem d_191_146 : decode (am_b 191) 146 = .ok (.aload_n 0, 1) := by decide +kernel
theorem d_191_147 : decode (am_b 191) 147 = .ok (.getfield 13, 3) := by decide +kernel
theorem d_191_150 : decode (am_b 191) 150 = .ok (.sipush 2520, 3) := by decide +kernel
theorem d_191_153 : decode (am_b 191) 153 = .ok (.sipush 400, 3) := by decide +kernel
theorem d_191_156 : decode (am_b 191) 156 = .ok (.iload_n 1, 1) := by decide +kernel
theorem d_191_157 : decode (am_b 191) 157 = .ok (.imul, 1) := by decide +kernel
theorem d_191_158 : decode (am_b 191) 158 = .ok (.iadd, 1) := by decide +kernel
theorem d_191_159 : decode (am_b 191) 159 = .ok (.iload_n 2, 1) := by decide +kernel
theorem d_191_160 : decode (am_b 191) 160 = .ok (.iadd, 1) := by decide +kernel
theorem d_191_161 : decode (am_b 191) 161 = .ok (.aload_n 0, 1) := by decide +kernel
theorem d_191_162 : decode (am_b 191) 162 = .ok (.getfield 43, 3) := by decide +kernel
theorem d_191_165 : decode (am_b 191) 165 = .ok (.iload_n 2, 1) := by decide +kernel
theorem d_191_166 : decode (am_b 191) 166 = .ok (.iaload, 1) := by decide +kernel
theorem d_191_167 : decode (am_b 191) 167 = .ok (.iastore, 1) := by decide +kernel
theorem d_191_168 : decode (am_b 191) 168 = .ok (.iinc 2 1, 3) := by decide +kernel
theorem d_191_171 : decode (am_b 191) 171 = .ok (.goto (-33), 3) := by decide +kernel
theorem d_191_174 : decode (am_b 191) 174 = .ok (.aload_n 0, 1) := by decide +kernel
theorem d_191_175 : decode (am_b 191) 175 = .ok (.getfield 13, 3) := by decide +kernel
theorem d_191_178 : decode (am_b 191) 178 = .ok (.sipush 2509, 3) := by decide +kernel
theorem d_191_181 : decode (am_b 191) 181 = .ok (.dup2, 1) := by decide +kernel
theorem d_191_182 : decode (am_b 191) 182 = .ok (.iaload, 1) := by decide +kernel
theorem d_191_183 : decode (am_b 191) 183 = .ok (.iconst 1, 1) := by decide +kernel
theorem d_191_184 : decode (am_b 191) 184 = .ok (.iadd, 1) := by decide +kernel
theorem d_191_185 : decode (am_b 191) 185 = .ok (.iastore, 1) := by decide +kernel
theorem d_191_186 : decode (am_b 191) 186 = .ok (.aload_n 0, 1) := by decide +kernel
theorem d_191_187 : decode (am_b 191) 187 = .ok (.iload_n 1, 1) := by decide +kernel
theorem d_191_188 : decode (am_b 191) 188 = .ok (.invokevirtual 114, 3) := by decide +kernel
theorem d_191_191 : decode (am_b 191) 191 = .ok (.ireturn, 1) := by decide +kernel
