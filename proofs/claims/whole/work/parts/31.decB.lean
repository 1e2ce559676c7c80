/-! decode rows, printed by wip/whole/gen_decparts.py -/
theorem d_215_0 : decode (am_b 215) 0 = .ok (.iconst 1, 1) := by decide +kernel
theorem d_215_1 : decode (am_b 215) 1 = .ok (.istore_n 1, 1) := by decide +kernel
theorem d_215_2 : decode (am_b 215) 2 = .ok (.iconst 1, 1) := by decide +kernel
theorem d_215_3 : decode (am_b 215) 3 = .ok (.istore_n 2, 1) := by decide +kernel
theorem d_215_4 : decode (am_b 215) 4 = .ok (.iload_n 2, 1) := by decide +kernel
theorem d_215_5 : decode (am_b 215) 5 = .ok (.ifCond .eq 79, 3) := by decide +kernel
theorem d_215_8 : decode (am_b 215) 8 = .ok (.aload_n 0, 1) := by decide +kernel
theorem d_215_9 : decode (am_b 215) 9 = .ok (.invokevirtual 214, 3) := by decide +kernel
theorem d_215_12 : decode (am_b 215) 12 = .ok (.istore_n 3, 1) := by decide +kernel
theorem d_215_13 : decode (am_b 215) 13 = .ok (.aload_n 0, 1) := by decide +kernel
theorem d_215_14 : decode (am_b 215) 14 = .ok (.dup, 1) := by decide +kernel
theorem d_215_15 : decode (am_b 215) 15 = .ok (.getfield 202, 3) := by decide +kernel
theorem d_215_18 : decode (am_b 215) 18 = .ok (.iconst 1, 1) := by decide +kernel
theorem d_215_19 : decode (am_b 215) 19 = .ok (.iadd, 1) := by decide +kernel
theorem d_215_20 : decode (am_b 215) 20 = .ok (.putfield 202, 3) := by decide +kernel
theorem d_215_23 : decode (am_b 215) 23 = .ok (.iload_n 3, 1) := by decide +kernel
theorem d_215_24 : decode (am_b 215) 24 = .ok (.aload_n 0, 1) := by decide +kernel
theorem d_215_25 : decode (am_b 215) 25 = .ok (.invokevirtual 214, 3) := by decide +kernel
theorem d_215_28 : decode (am_b 215) 28 = .ok (.if_icmp .ne 11, 3) := by decide +kernel
theorem d_215_31 : decode (am_b 215) 31 = .ok (.iload_n 1, 1) := by decide +kernel
theorem d_215_32 : decode (am_b 215) 32 = .ok (.ifCond .eq 7, 3) := by decide +kernel
theorem d_215_35 : decode (am_b 215) 35 = .ok (.iconst 1, 1) := by decide +kernel
theorem d_215_36 : decode (am_b 215) 36 = .ok (.goto 4, 3) := by decide +kernel
theorem d_215_39 : decode (am_b 215) 39 = .ok (.iconst 0, 1) := by decide +kernel
theorem d_215_40 : decode (am_b 215) 40 = .ok (.istore_n 1, 1) := by decide +kernel
theorem d_215_41 : decode (am_b 215) 41 = .ok (.aload_n 0, 1) := by decide +kernel
theorem d_215_42 : decode (am_b 215) 42 = .ok (.aload_n 0, 1) := by decide +kernel
theorem d_215_43 : decode (am_b 215) 43 = .ok (.getfield 202, 3) := by decide +kernel
theorem d_215_46 : decode (am_b 215) 46 = .ok (.invokevirtual 205, 3) := by decide +kernel
theorem d_215_49 : decode (am_b 215) 49 = .ok (.bipush 44, 2) := by decide +kernel
theorem d_215_51 : decode (am_b 215) 51 = .ok (.invokestatic 172, 3) := by decide +kernel
theorem d_215_54 : decode (am_b 215) 54 = .ok (.if_icmp .ne 7, 3) := by decide +kernel
theorem d_215_57 : decode (am_b 215) 57 = .ok (.iconst 1, 1) := by decide +kernel
theorem d_215_58 : decode (am_b 215) 58 = .ok (.goto 4, 3) := by decide +kernel
theorem d_215_61 : decode (am_b 215) 61 = .ok (.iconst 0, 1) := by decide +kernel
theorem d_215_62 : decode (am_b 215) 62 = .ok (.istore_n 2, 1) := by decide +kernel
theorem d_215_63 : decode (am_b 215) 63 = .ok (.aload_n 0, 1) := by decide +kernel
theorem d_215_64 : decode (am_b 215) 64 = .ok (.dup, 1) := by decide +kernel
theorem d_215_65 : decode (am_b 215) 65 = .ok (.getfield 202, 3) := by decide +kernel
theorem d_215_68 : decode (am_b 215) 68 = .ok (.iload_n 2, 1) := by decide +kernel
theorem d_215_69 : decode (am_b 215) 69 = .ok (.ifCond .eq 7, 3) := by decide +kernel
theorem d_215_72 : decode (am_b 215) 72 = .ok (.iconst 1, 1) := by decide +kernel
theorem d_215_73 : decode (am_b 215) 73 = .ok (.goto 4, 3) := by decide +kernel
theorem d_215_76 : decode (am_b 215) 76 = .ok (.iconst 0, 1) := by decide +kernel
theorem d_215_77 : decode (am_b 215) 77 = .ok (.iadd, 1) := by decide +kernel
theorem d_215_78 : decode (am_b 215) 78 = .ok (.putfield 202, 3) := by decide +kernel
theorem d_215_81 : decode (am_b 215) 81 = .ok (.goto (-77), 3) := by decide +kernel
theorem d_215_84 : decode (am_b 215) 84 = .ok (.iload_n 1, 1) := by decide +kernel
theorem d_215_85 : decode (am_b 215) 85 = .ok (.ireturn, 1) := by decide +kernel
theorem d_216_0 : decode (am_b 216) 0 = .ok (.aload_n 0, 1) := by decide +kernel
theorem d_216_1 : decode (am_b 216) 1 = .ok (.invokevirtual 198, 3) := by decide +kernel
theorem d_216_4 : decode (am_b 216) 4 = .ok (.istore_n 1, 1) := by decide +kernel
theorem d_216_5 : decode (am_b 216) 5 = .ok (.aload_n 0, 1) := by decide +kernel
theorem d_216_6 : decode (am_b 216) 6 = .ok (.aload_n 0, 1) := by decide +kernel
theorem d_216_7 : decode (am_b 216) 7 = .ok (.getfield 202, 3) := by decide +kernel
theorem d_216_10 : decode (am_b 216) 10 = .ok (.invokevirtual 205, 3) := by decide +kernel
theorem d_216_13 : decode (am_b 216) 13 = .ok (.istore_n 2, 1) := by decide +kernel
theorem d_216_14 : decode (am_b 216) 14 = .ok (.iload_n 2, 1) := by decide +kernel
theorem d_216_15 : decode (am_b 216) 15 = .ok (.bipush 42, 2) := by decide +kernel
theorem d_216_17 : decode (am_b 216) 17 = .ok (.invokestatic 172, 3) := by decide +kernel
theorem d_216_20 : decode (am_b 216) 20 = .ok (.if_icmp .eq 23, 3) := by decide +kernel
theorem d_216_23 : decode (am_b 216) 23 = .ok (.iload_n 2, 1) := by decide +kernel
theorem d_216_24 : decode (am_b 216) 24 = .ok (.bipush 47, 2) := by decide +kernel
theorem d_216_26 : decode (am_b 216) 26 = .ok (.invokestatic 172, 3) := by decide +kernel
theorem d_216_29 : decode (am_b 216) 29 = .ok (.if_icmp .eq 14, 3) := by decide +kernel
theorem d_216_32 : decode (am_b 216) 32 = .ok (.iload_n 2, 1) := by decide +kernel
theorem d_216_33 : decode (am_b 216) 33 = .ok (.bipush 92, 2) := by decide +kernel
theorem d_216_35 : decode (am_b 216) 35 = .ok (.invokestatic 172, 3) := by decide +kernel
theorem d_216_38 : decode (am_b 216) 38 = .ok (.if_icmp .eq 5, 3) := by decide +kernel
theorem d_216_41 : decode (am_b 216) 41 = .ok (.iload_n 1, 1) := by decide +kernel
theorem d_216_42 : decode (am_b 216) 42 = .ok (.ireturn, 1) := by decide +kernel
theorem d_216_43 : decode (am_b 216) 43 = .ok (.aload_n 0, 1) := by decide +kernel
theorem d_216_44 : decode (am_b 216) 44 = .ok (.dup, 1) := by decide +kernel
theorem d_216_45 : decode (am_b 216) 45 = .ok (.getfield 202, 3) := by decide +kernel
theorem d_216_48 : decode (am_b 216) 48 = .ok (.iconst 1, 1) := by decide +kernel
theorem d_216_49 : decode (am_b 216) 49 = .ok (.iadd, 1) := by decide +kernel
theorem d_216_50 : decode (am_b 216) 50 = .ok (.putfield 202, 3) := by decide +kernel
theorem d_216_53 : decode (am_b 216) 53 = .ok (.aload_n 0, 1) := by decide +kernel
theorem d_216_54 : decode (am_b 216) 54 = .ok (.invokevirtual 198, 3) := by decide +kernel
theorem d_216_57 : decode (am_b 216) 57 = .ok (.istore_n 3, 1) := by decide +kernel
theorem d_216_58 : decode (am_b 216) 58 = .ok (.iload_n 2, 1) := by decide +kernel
theorem d_216_59 : decode (am_b 216) 59 = .ok (.bipush 42, 2) := by decide +kernel
theorem d_216_61 : decode (am_b 216) 61 = .ok (.invokestatic 172, 3) := by decide +kernel
theorem d_216_64 : decode (am_b 216) 64 = .ok (.if_icmp .ne 12, 3) := by decide +kernel
theorem d_216_67 : decode (am_b 216) 67 = .ok (.aload_n 0, 1) := by decide +kernel
theorem d_216_68 : decode (am_b 216) 68 = .ok (.iload_n 1, 1) := by decide +kernel
theorem d_216_69 : decode (am_b 216) 69 = .ok (.iload_n 3, 1) := by decide +kernel
theorem d_216_70 : decode (am_b 216) 70 = .ok (.invokevirtual 130, 3) := by decide +kernel
theorem d_216_73 : decode (am_b 216) 73 = .ok (.goto 27, 3) := by decide +kernel
theorem d_216_76 : decode (am_b 216) 76 = .ok (.iload_n 2, 1) := by decide +kernel
theorem d_216_77 : decode (am_b 216) 77 = .ok (.bipush 47, 2) := by decide +kernel
theorem d_216_79 : decode (am_b 216) 79 = .ok (.invokestatic 172, 3) := by decide +kernel
theorem d_216_82 : decode (am_b 216) 82 = .ok (.if_icmp .ne 12, 3) := by decide +kernel
theorem d_216_85 : decode (am_b 216) 85 = .ok (.aload_n 0, 1) := by decide +kernel
theorem d_216_86 : decode (am_b 216) 86 = .ok (.iload_n 1, 1) := by decide +kernel
theorem d_216_87 : decode (am_b 216) 87 = .ok (.iload_n 3, 1) := by decide +kernel
theorem d_216_88 : decode (am_b 216) 88 = .ok (.invokevirtual 208, 3) := by decide +kernel
theorem d_216_91 : decode (am_b 216) 91 = .ok (.goto 9, 3) := by decide +kernel
theorem d_216_94 : decode (am_b 216) 94 = .ok (.aload_n 0, 1) := by decide +kernel
theorem d_216_95 : decode (am_b 216) 95 = .ok (.iload_n 1, 1) := by decide +kernel
theorem d_216_96 : decode (am_b 216) 96 = .ok (.iload_n 3, 1) := by decide +kernel
theorem d_216_97 : decode (am_b 216) 97 = .ok (.invokevirtual 211, 3) := by decide +kernel
theorem d_216_100 : decode (am_b 216) 100 = .ok (.istore_n 1, 1) := by decide +kernel
theorem d_216_101 : decode (am_b 216) 101 = .ok (.goto (-96), 3) := by decide +kernel
theorem d_217_0 : decode (am_b 217) 0 = .ok (.aload_n 0, 1) := by decide +kernel
theorem d_217_1 : decode (am_b 217) 1 = .ok (.aload_n 0, 1) := by decide +kernel
theorem d_217_2 : decode (am_b 217) 2 = .ok (.getfield 202, 3) := by decide +kernel
theorem d_217_5 : decode (am_b 217) 5 = .ok (.invokevirtual 205, 3) := by decide +kernel
theorem d_217_8 : decode (am_b 217) 8 = .ok (.istore_n 1, 1) := by decide +kernel
theorem d_217_9 : decode (am_b 217) 9 = .ok (.aload_n 0, 1) := by decide +kernel
theorem d_217_10 : decode (am_b 217) 10 = .ok (.dup, 1) := by decide +kernel
theorem d_217_11 : decode (am_b 217) 11 = .ok (.getfield 202, 3) := by decide +kernel
theorem d_217_14 : decode (am_b 217) 14 = .ok (.iconst 1, 1) := by decide +kernel
theorem d_217_15 : decode (am_b 217) 15 = .ok (.iadd, 1) := by decide +kernel
theorem d_217_16 : decode (am_b 217) 16 = .ok (.putfield 202, 3) := by decide +kernel
theorem d_217_19 : decode (am_b 217) 19 = .ok (.iload_n 1, 1) := by decide +kernel
theorem d_217_20 : decode (am_b 217) 20 = .ok (.bipush 40, 2) := by decide +kernel
theorem d_217_22 : decode (am_b 217) 22 = .ok (.invokestatic 172, 3) := by decide +kernel
theorem d_217_25 : decode (am_b 217) 25 = .ok (.if_icmp .eq 10, 3) := by decide +kernel
theorem d_217_28 : decode (am_b 217) 28 = .ok (.aload_n 0, 1) := by decide +kernel
theorem d_217_29 : decode (am_b 217) 29 = .ok (.getfield 52, 3) := by decide +kernel
theorem d_217_32 : decode (am_b 217) 32 = .ok (.iload_n 1, 1) := by decide +kernel
theorem d_217_33 : decode (am_b 217) 33 = .ok (.iaload, 1) := by decide +kernel
theorem d_217_34 : decode (am_b 217) 34 = .ok (.ireturn, 1) := by decide +kernel
theorem d_217_35 : decode (am_b 217) 35 = .ok (.aload_n 0, 1) := by decide +kernel
theorem d_217_36 : decode (am_b 217) 36 = .ok (.invokevirtual 214, 3) := by decide +kernel
theorem d_217_39 : decode (am_b 217) 39 = .ok (.istore_n 2, 1) := by decide +kernel
theorem d_217_40 : decode (am_b 217) 40 = .ok (.aload_n 0, 1) := by decide +kernel
theorem d_217_41 : decode (am_b 217) 41 = .ok (.dup, 1) := by decide +kernel
theorem d_217_42 : decode (am_b 217) 42 = .ok (.getfield 202, 3) := by decide +kernel
theorem d_217_45 : decode (am_b 217) 45 = .ok (.iconst 1, 1) := by decide +kernel
theorem d_217_46 : decode (am_b 217) 46 = .ok (.iadd, 1) := by decide +kernel
theorem d_217_47 : decode (am_b 217) 47 = .ok (.putfield 202, 3) := by decide +kernel
theorem d_217_50 : decode (am_b 217) 50 = .ok (.iload_n 2, 1) := by decide +kernel
theorem d_217_51 : decode (am_b 217) 51 = .ok (.ireturn, 1) := by decide +kernel
theorem d_218_0 : decode (am_b 218) 0 = .ok (.iload_n 1, 1) := by decide +kernel
theorem d_218_1 : decode (am_b 218) 1 = .ok (.aload_n 0, 1) := by decide +kernel
theorem d_218_2 : decode (am_b 218) 2 = .ok (.getfield 195, 3) := by decide +kernel
theorem d_218_5 : decode (am_b 218) 5 = .ok (.if_icmp .ge 16, 3) := by decide +kernel
theorem d_218_8 : decode (am_b 218) 8 = .ok (.aload_n 0, 1) := by decide +kernel
theorem d_218_9 : decode (am_b 218) 9 = .ok (.getfield 13, 3) := by decide +kernel
theorem d_218_12 : decode (am_b 218) 12 = .ok (.sipush 2520, 3) := by decide +kernel
theorem d_218_15 : decode (am_b 218) 15 = .ok (.iload_n 1, 1) := by decide +kernel
theorem d_218_16 : decode (am_b 218) 16 = .ok (.iadd, 1) := by decide +kernel
theorem d_218_17 : decode (am_b 218) 17 = .ok (.iaload, 1) := by decide +kernel
theorem d_218_18 : decode (am_b 218) 18 = .ok (.goto 4, 3) := by decide +kernel
theorem d_218_21 : decode (am_b 218) 21 = .ok (.iconst 0, 1) := by decide +kernel
theorem d_218_22 : decode (am_b 218) 22 = .ok (.ireturn, 1) := by decide +kernel
theorem d_219_0 : decode (am_b 219) 0 = .ok (.iconst 0, 1) := by decide +kernel
theorem d_219_1 : decode (am_b 219) 1 = .ok (.istore_n 3, 1) := by decide +kernel
theorem d_219_2 : decode (am_b 219) 2 = .ok (.aload_n 0, 1) := by decide +kernel
theorem d_219_3 : decode (am_b 219) 3 = .ok (.iload_n 3, 1) := by decide +kernel
theorem d_219_4 : decode (am_b 219) 4 = .ok (.iload_n 2, 1) := by decide +kernel
theorem d_219_5 : decode (am_b 219) 5 = .ok (.invokevirtual 130, 3) := by decide +kernel
theorem d_219_8 : decode (am_b 219) 8 = .ok (.iload_n 1, 1) := by decide +kernel
theorem d_219_9 : decode (am_b 219) 9 = .ok (.if_icmp .eq 9, 3) := by decide +kernel
theorem d_219_12 : decode (am_b 219) 12 = .ok (.iinc 3 1, 3) := by decide +kernel
theorem d_219_15 : decode (am_b 219) 15 = .ok (.goto (-13), 3) := by decide +kernel
theorem d_219_18 : decode (am_b 219) 18 = .ok (.iload_n 3, 1) := by decide +kernel
theorem d_219_19 : decode (am_b 219) 19 = .ok (.ireturn, 1) := by decide +kernel
theorem d_220_0 : decode (am_b 220) 0 = .ok (.iconst 0, 1) := by decide +kernel
theorem d_220_1 : decode (am_b 220) 1 = .ok (.istore_n 3, 1) := by decide +kernel
theorem d_220_2 : decode (am_b 220) 2 = .ok (.aload_n 0, 1) := by decide +kernel
theorem d_220_3 : decode (am_b 220) 3 = .ok (.iload_n 1, 1) := by decide +kernel
theorem d_220_4 : decode (am_b 220) 4 = .ok (.iload_n 3, 1) := by decide +kernel
theorem d_220_5 : decode (am_b 220) 5 = .ok (.invokevirtual 130, 3) := by decide +kernel
theorem d_220_8 : decode (am_b 220) 8 = .ok (.iload_n 2, 1) := by decide +kernel
theorem d_220_9 : decode (am_b 220) 9 = .ok (.if_icmp .eq 9, 3) := by decide +kernel
theorem d_220_12 : decode (am_b 220) 12 = .ok (.iinc 3 1, 3) := by decide +kernel
theorem d_220_15 : decode (am_b 220) 15 = .ok (.goto (-13), 3) := by decide +kernel
theorem d_220_18 : decode (am_b 220) 18 = .ok (.iload_n 3, 1) := by decide +kernel
theorem d_220_19 : decode (am_b 220) 19 = .ok (.ireturn, 1) := by decide +kernel
theorem d_221_0 : decode (am_b 221) 0 = .ok (.aload_n 0, 1) := by decide +kernel
theorem d_221_1 : decode (am_b 221) 1 = .ok (.iload_n 1, 1) := by decide +kernel
theorem d_221_2 : decode (am_b 221) 2 = .ok (.invokevirtual 124, 3) := by decide +kernel
theorem d_221_5 : decode (am_b 221) 5 = .ok (.ifCond .eq 20, 3) := by decide +kernel
theorem d_221_8 : decode (am_b 221) 8 = .ok (.aload_n 0, 1) := by decide +kernel
theorem d_221_9 : decode (am_b 221) 9 = .ok (.iload_n 2, 1) := by decide +kernel
theorem d_221_10 : decode (am_b 221) 10 = .ok (.invokevirtual 245, 3) := by decide +kernel
theorem d_221_13 : decode (am_b 221) 13 = .ok (.ifCond .eq 12, 3) := by decide +kernel
theorem d_221_16 : decode (am_b 221) 16 = .ok (.iload_n 3, 1) := by decide +kernel
theorem d_221_17 : decode (am_b 221) 17 = .ok (.iconst 0, 1) := by decide +kernel
theorem d_221_18 : decode (am_b 221) 18 = .ok (.iconst 3, 1) := by decide +kernel
theorem d_221_19 : decode (am_b 221) 19 = .ok (.invokestatic 106, 3) := by decide +kernel
theorem d_221_22 : decode (am_b 221) 22 = .ok (.ifCond .ne 5, 3) := by decide +kernel
theorem d_221_25 : decode (am_b 221) 25 = .ok (.iconst (-1), 1) := by decide +kernel
theorem d_221_26 : decode (am_b 221) 26 = .ok (.ireturn, 1) := by decide +kernel
theorem d_221_27 : decode (am_b 221) 27 = .ok (.aload_n 0, 1) := by decide +kernel
theorem d_221_28 : decode (am_b 221) 28 = .ok (.iload_n 1, 1) := by decide +kernel
theorem d_221_29 : decode (am_b 221) 29 = .ok (.invokevirtual 248, 3) := by decide +kernel
theorem d_221_32 : decode (am_b 221) 32 = .ok (.aload_n 0, 1) := by decide +kernel
theorem d_221_33 : decode (am_b 221) 33 = .ok (.iload_n 2, 1) := by decide +kernel
theorem d_221_34 : decode (am_b 221) 34 = .ok (.iconst 0, 1) := by decide +kernel
theorem d_221_35 : decode (am_b 221) 35 = .ok (.invokevirtual 241, 3) := by decide +kernel
theorem d_221_38 : decode (am_b 221) 38 = .ok (.iload_n 3, 1) := by decide +kernel
theorem d_221_39 : decode (am_b 221) 39 = .ok (.ifCond .ne 10, 3) := by decide +kernel
theorem d_221_42 : decode (am_b 221) 42 = .ok (.aload_n 0, 1) := by decide +kernel
theorem d_221_43 : decode (am_b 221) 43 = .ok (.getfield 226, 3) := by decide +kernel
theorem d_221_46 : decode (am_b 221) 46 = .ok (.goto 31, 3) := by decide +kernel
theorem d_221_49 : decode (am_b 221) 49 = .ok (.iload_n 3, 1) := by decide +kernel
theorem d_221_50 : decode (am_b 221) 50 = .ok (.iconst 1, 1) := by decide +kernel
theorem d_221_51 : decode (am_b 221) 51 = .ok (.if_icmp .ne 10, 3) := by decide +kernel
theorem d_221_54 : decode (am_b 221) 54 = .ok (.aload_n 0, 1) := by decide +kernel
theorem d_221_55 : decode (am_b 221) 55 = .ok (.getfield 229, 3) := by decide +kernel
theorem d_221_58 : decode (am_b 221) 58 = .ok (.goto 19, 3) := by decide +kernel
theorem d_221_61 : decode (am_b 221) 61 = .ok (.iload_n 3, 1) := by decide +kernel
theorem d_221_62 : decode (am_b 221) 62 = .ok (.iconst 2, 1) := by decide +kernel
theorem d_221_63 : decode (am_b 221) 63 = .ok (.if_icmp .ne 10, 3) := by decide +kernel
theorem d_221_66 : decode (am_b 221) 66 = .ok (.aload_n 0, 1) := by decide +kernel
theorem d_221_67 : decode (am_b 221) 67 = .ok (.getfield 232, 3) := by decide +kernel
theorem d_221_70 : decode (am_b 221) 70 = .ok (.goto 7, 3) := by decide +kernel
theorem d_221_73 : decode (am_b 221) 73 = .ok (.aload_n 0, 1) := by decide +kernel
theorem d_221_74 : decode (am_b 221) 74 = .ok (.getfield 235, 3) := by decide +kernel
theorem d_221_77 : decode (am_b 221) 77 = .ok (.ireturn, 1) := by decide +kernel
theorem d_222_0 : decode (am_b 222) 0 = .ok (.iload_n 1, 1) := by decide +kernel
theorem d_222_1 : decode (am_b 222) 1 = .ok (.invokestatic 117, 3) := by decide +kernel
theorem d_222_4 : decode (am_b 222) 4 = .ok (.ifCond .ne 9, 3) := by decide +kernel
theorem d_222_7 : decode (am_b 222) 7 = .ok (.aload_n 0, 1) := by decide +kernel
theorem d_222_8 : decode (am_b 222) 8 = .ok (.iconst (-1), 1) := by decide +kernel
theorem d_222_9 : decode (am_b 222) 9 = .ok (.invokevirtual 110, 3) := by decide +kernel
theorem d_222_12 : decode (am_b 222) 12 = .ok (.ireturn, 1) := by decide +kernel
theorem d_222_13 : decode (am_b 222) 13 = .ok (.aload_n 0, 1) := by decide +kernel
theorem d_222_14 : decode (am_b 222) 14 = .ok (.getfield 137, 3) := by decide +kernel
theorem d_222_17 : decode (am_b 222) 17 = .ok (.istore_n 2, 1) := by decide +kernel
theorem d_222_18 : decode (am_b 222) 18 = .ok (.aload_n 0, 1) := by decide +kernel
theorem d_222_19 : decode (am_b 222) 19 = .ok (.iconst 0, 1) := by decide +kernel
theorem d_222_20 : decode (am_b 222) 20 = .ok (.putfield 137, 3) := by decide +kernel
theorem d_222_23 : decode (am_b 222) 23 = .ok (.aload_n 0, 1) := by decide +kernel
theorem d_222_24 : decode (am_b 222) 24 = .ok (.iload_n 2, 1) := by decide +kernel
theorem d_222_25 : decode (am_b 222) 25 = .ok (.ifCond .ne 7, 3) := by decide +kernel
theorem d_222_28 : decode (am_b 222) 28 = .ok (.iconst 0, 1) := by decide +kernel
theorem d_222_29 : decode (am_b 222) 29 = .ok (.goto 9, 3) := by decide +kernel
theorem d_222_32 : decode (am_b 222) 32 = .ok (.aload_n 0, 1) := by decide +kernel
theorem d_222_33 : decode (am_b 222) 33 = .ok (.getfield 33, 3) := by decide +kernel
theorem d_222_36 : decode (am_b 222) 36 = .ok (.iconst 0, 1) := by decide +kernel
theorem d_222_37 : decode (am_b 222) 37 = .ok (.baload, 1) := by decide +kernel
theorem d_222_38 : decode (am_b 222) 38 = .ok (.putfield 134, 3) := by decide +kernel
theorem d_222_41 : decode (am_b 222) 41 = .ok (.aload_n 0, 1) := by decide +kernel
theorem d_222_42 : decode (am_b 222) 42 = .ok (.getfield 134, 3) := by decide +kernel
theorem d_222_45 : decode (am_b 222) 45 = .ok (.iconst 1, 1) := by decide +kernel
theorem d_222_46 : decode (am_b 222) 46 = .ok (.bipush 6, 2) := by decide +kernel
theorem d_222_48 : decode (am_b 222) 48 = .ok (.invokestatic 106, 3) := by decide +kernel
theorem d_222_51 : decode (am_b 222) 51 = .ok (.ifCond .eq 18, 3) := by decide +kernel
theorem d_222_54 : decode (am_b 222) 54 = .ok (.iload_n 2, 1) := by decide +kernel
theorem d_222_55 : decode (am_b 222) 55 = .ok (.iconst 1, 1) := by decide +kernel
theorem d_222_56 : decode (am_b 222) 56 = .ok (.aload_n 0, 1) := by decide +kernel
theorem d_222_57 : decode (am_b 222) 57 = .ok (.getfield 134, 3) := by decide +kernel
theorem d_222_60 : decode (am_b 222) 60 = .ok (.aload_n 0, 1) := by decide +kernel
theorem d_222_61 : decode (am_b 222) 61 = .ok (.getfield 134, 3) := by decide +kernel
theorem d_222_64 : decode (am_b 222) 64 = .ok (.imul, 1) := by decide +kernel
theorem d_222_65 : decode (am_b 222) 65 = .ok (.iadd, 1) := by decide +kernel
theorem d_222_66 : decode (am_b 222) 66 = .ok (.if_icmp .eq 10, 3) := by decide +kernel
theorem d_222_69 : decode (am_b 222) 69 = .ok (.aload_n 0, 1) := by decide +kernel
theorem d_222_70 : decode (am_b 222) 70 = .ok (.bipush (-6), 2) := by decide +kernel
theorem d_222_72 : decode (am_b 222) 72 = .ok (.invokevirtual 110, 3) := by decide +kernel
theorem d_222_75 : decode (am_b 222) 75 = .ok (.ireturn, 1) := by decide +kernel
theorem d_222_76 : decode (am_b 222) 76 = .ok (.iconst 0, 1) := by decide +kernel
theorem d_222_77 : decode (am_b 222) 77 = .ok (.istore_n 3, 1) := by decide +kernel
theorem d_222_78 : decode (am_b 222) 78 = .ok (.iload_n 3, 1) := by decide +kernel
theorem d_222_79 : decode (am_b 222) 79 = .ok (.aload_n 0, 1) := by decide +kernel
theorem d_222_80 : decode (am_b 222) 80 = .ok (.getfield 134, 3) := by decide +kernel
theorem d_222_83 : decode (am_b 222) 83 = .ok (.aload_n 0, 1) := by decide +kernel
theorem d_222_84 : decode (am_b 222) 84 = .ok (.getfield 134, 3) := by decide +kernel
theorem d_222_87 : decode (am_b 222) 87 = .ok (.imul, 1) := by decide +kernel
theorem d_222_88 : decode (am_b 222) 88 = .ok (.if_icmp .ge 23, 3) := by decide +kernel
theorem d_222_91 : decode (am_b 222) 91 = .ok (.aload_n 0, 1) := by decide +kernel
theorem d_222_92 : decode (am_b 222) 92 = .ok (.getfield 26, 3) := by decide +kernel
theorem d_222_95 : decode (am_b 222) 95 = .ok (.iload_n 3, 1) := by decide +kernel
theorem d_222_96 : decode (am_b 222) 96 = .ok (.aload_n 0, 1) := by decide +kernel
theorem d_222_97 : decode (am_b 222) 97 = .ok (.getfield 33, 3) := by decide +kernel
theorem d_222_100 : decode (am_b 222) 100 = .ok (.iconst 1, 1) := by decide +kernel
theorem d_222_101 : decode (am_b 222) 101 = .ok (.iload_n 3, 1) := by decide +kernel
theorem d_222_102 : decode (am_b 222) 102 = .ok (.iadd, 1) := by decide +kernel
theorem d_222_103 : decode (am_b 222) 103 = .ok (.baload, 1) := by decide +kernel
theorem d_222_104 : decode (am_b 222) 104 = .ok (.iastore, 1) := by decide +kernel
theorem d_222_105 : decode (am_b 222) 105 = .ok (.iinc 3 1, 3) := by decide +kernel
theorem d_222_108 : decode (am_b 222) 108 = .ok (.goto (-30), 3) := by decide +kernel
theorem d_222_111 : decode (am_b 222) 111 = .ok (.aload_n 0, 1) := by decide +kernel
theorem d_222_112 : decode (am_b 222) 112 = .ok (.invokevirtual 254, 3) := by decide +kernel
theorem d_222_115 : decode (am_b 222) 115 = .ok (.ifCond .ne 10, 3) := by decide +kernel
theorem d_222_118 : decode (am_b 222) 118 = .ok (.aload_n 0, 1) := by decide +kernel
theorem d_222_119 : decode (am_b 222) 119 = .ok (.bipush (-6), 2) := by decide +kernel
theorem d_222_121 : decode (am_b 222) 121 = .ok (.invokevirtual 110, 3) := by decide +kernel
theorem d_222_124 : decode (am_b 222) 124 = .ok (.ireturn, 1) := by decide +kernel
theorem d_222_125 : decode (am_b 222) 125 = .ok (.aload_n 0, 1) := by decide +kernel
theorem d_222_126 : decode (am_b 222) 126 = .ok (.iload_n 1, 1) := by decide +kernel
theorem d_222_127 : decode (am_b 222) 127 = .ok (.invokevirtual 257, 3) := by decide +kernel
theorem d_222_130 : decode (am_b 222) 130 = .ok (.aload_n 0, 1) := by decide +kernel
theorem d_222_131 : decode (am_b 222) 131 = .ok (.aload_n 0, 1) := by decide +kernel
theorem d_222_132 : decode (am_b 222) 132 = .ok (.getfield 134, 3) := by decide +kernel
theorem d_222_135 : decode (am_b 222) 135 = .ok (.invokevirtual 114, 3) := by decide +kernel
theorem d_222_138 : decode (am_b 222) 138 = .ok (.ireturn, 1) := by decide +kernel
theorem d_223_0 : decode (am_b 223) 0 = .ok (.iconst 0, 1) := by decide +kernel
theorem d_223_1 : decode (am_b 223) 1 = .ok (.istore_n 1, 1) := by decide +kernel
theorem d_223_2 : decode (am_b 223) 2 = .ok (.iload_n 1, 1) := by decide +kernel
theorem d_223_3 : decode (am_b 223) 3 = .ok (.aload_n 0, 1) := by decide +kernel
theorem d_223_4 : decode (am_b 223) 4 = .ok (.getfield 134, 3) := by decide +kernel
theorem d_223_7 : decode (am_b 223) 7 = .ok (.if_icmp .ge 148, 3) := by decide +kernel
theorem d_223_10 : decode (am_b 223) 10 = .ok (.iconst 0, 1) := by decide +kernel
theorem d_223_11 : decode (am_b 223) 11 = .ok (.istore_n 2, 1) := by decide +kernel
theorem d_223_12 : decode (am_b 223) 12 = .ok (.iconst 0, 1) := by decide +kernel
theorem d_223_13 : decode (am_b 223) 13 = .ok (.istore_n 3, 1) := by decide +kernel
theorem d_223_14 : decode (am_b 223) 14 = .ok (.iconst 0, 1) := by decide +kernel
theorem d_223_15 : decode (am_b 223) 15 = .ok (.istore 4, 2) := by decide +kernel
theorem d_223_17 : decode (am_b 223) 17 = .ok (.iload 4, 2) := by decide +kernel
theorem d_223_19 : decode (am_b 223) 19 = .ok (.aload_n 0, 1) := by decide +kernel
theorem d_223_20 : decode (am_b 223) 20 = .ok (.getfield 134, 3) := by decide +kernel
theorem d_223_23 : decode (am_b 223) 23 = .ok (.if_icmp .ge 107, 3) := by decide +kernel
theorem d_223_26 : decode (am_b 223) 26 = .ok (.aload_n 0, 1) := by decide +kernel
theorem d_223_27 : decode (am_b 223) 27 = .ok (.getfield 26, 3) := by decide +kernel
theorem d_223_30 : decode (am_b 223) 30 = .ok (.aload_n 0, 1) := by decide +kernel
theorem d_223_31 : decode (am_b 223) 31 = .ok (.getfield 134, 3) := by decide +kernel
theorem d_223_34 : decode (am_b 223) 34 = .ok (.iload_n 1, 1) := by decide +kernel
theorem d_223_35 : decode (am_b 223) 35 = .ok (.imul, 1) := by decide +kernel
theorem d_223_36 : decode (am_b 223) 36 = .ok (.iload 4, 2) := by decide +kernel
theorem d_223_38 : decode (am_b 223) 38 = .ok (.iadd, 1) := by decide +kernel
theorem d_223_39 : decode (am_b 223) 39 = .ok (.iaload, 1) := by decide +kernel
theorem d_223_40 : decode (am_b 223) 40 = .ok (.iconst 0, 1) := by decide +kernel
theorem d_223_41 : decode (am_b 223) 41 = .ok (.aload_n 0, 1) := by decide +kernel
theorem d_223_42 : decode (am_b 223) 42 = .ok (.getfield 134, 3) := by decide +kernel
theorem d_223_45 : decode (am_b 223) 45 = .ok (.iconst 1, 1) := by decide +kernel
theorem d_223_46 : decode (am_b 223) 46 = .ok (.isub, 1) := by decide +kernel
theorem d_223_47 : decode (am_b 223) 47 = .ok (.invokestatic 106, 3) := by decide +kernel
theorem d_223_50 : decode (am_b 223) 50 = .ok (.ifCond .ne 5, 3) := by decide +kernel
theorem d_223_53 : decode (am_b 223) 53 = .ok (.iconst 0, 1) := by decide +kernel
theorem d_223_54 : decode (am_b 223) 54 = .ok (.ireturn, 1) := by decide +kernel
theorem d_223_55 : decode (am_b 223) 55 = .ok (.iload_n 2, 1) := by decide +kernel
theorem d_223_56 : decode (am_b 223) 56 = .ok (.iconst 1, 1) := by decide +kernel
theorem d_223_57 : decode (am_b 223) 57 = .ok (.aload_n 0, 1) := by decide +kernel
theorem d_223_58 : decode (am_b 223) 58 = .ok (.getfield 26, 3) := by decide +kernel
theorem d_223_61 : decode (am_b 223) 61 = .ok (.aload_n 0, 1) := by decide +kernel
theorem d_223_62 : decode (am_b 223) 62 = .ok (.getfield 134, 3) := by decide +kernel
theorem d_223_65 : decode (am_b 223) 65 = .ok (.iload_n 1, 1) := by decide +kernel
theorem d_223_66 : decode (am_b 223) 66 = .ok (.imul, 1) := by decide +kernel
theorem d_223_67 : decode (am_b 223) 67 = .ok (.iload 4, 2) := by decide +kernel
theorem d_223_69 : decode (am_b 223) 69 = .ok (.iadd, 1) := by decide +kernel
theorem d_223_70 : decode (am_b 223) 70 = .ok (.iaload, 1) := by decide +kernel
theorem d_223_71 : decode (am_b 223) 71 = .ok (.ishl, 1) := by decide +kernel
theorem d_223_72 : decode (am_b 223) 72 = .ok (.ior, 1) := by decide +kernel
theorem d_223_73 : decode (am_b 223) 73 = .ok (.istore_n 2, 1) := by decide +kernel
theorem d_223_74 : decode (am_b 223) 74 = .ok (.iload_n 3, 1) := by decide +kernel
theorem d_223_75 : decode (am_b 223) 75 = .ok (.aload_n 0, 1) := by decide +kernel
theorem d_223_76 : decode (am_b 223) 76 = .ok (.getfield 26, 3) := by decide +kernel
theorem d_223_79 : decode (am_b 223) 79 = .ok (.aload_n 0, 1) := by decide +kernel
theorem d_223_80 : decode (am_b 223) 80 = .ok (.getfield 134, 3) := by decide +kernel
theorem d_223_83 : decode (am_b 223) 83 = .ok (.iload 4, 2) := by decide +kernel
theorem d_223_85 : decode (am_b 223) 85 = .ok (.imul, 1) := by decide +kernel
theorem d_223_86 : decode (am_b 223) 86 = .ok (.iload_n 1, 1) := by decide +kernel
theorem d_223_87 : decode (am_b 223) 87 = .ok (.iadd, 1) := by decide +kernel
theorem d_223_88 : decode (am_b 223) 88 = .ok (.iaload, 1) := by decide +kernel
theorem d_223_89 : decode (am_b 223) 89 = .ok (.iconst 0, 1) := by decide +kernel
theorem d_223_90 : decode (am_b 223) 90 = .ok (.aload_n 0, 1) := by decide +kernel
theorem d_223_91 : decode (am_b 223) 91 = .ok (.getfield 134, 3) := by decide +kernel
theorem d_223_94 : decode (am_b 223) 94 = .ok (.iconst 1, 1) := by decide +kernel
theorem d_223_95 : decode (am_b 223) 95 = .ok (.isub, 1) := by decide +kernel
theorem d_223_96 : decode (am_b 223) 96 = .ok (.invokestatic 106, 3) := by decide +kernel
theorem d_223_99 : decode (am_b 223) 99 = .ok (.ifCond .eq 22, 3) := by decide +kernel
theorem d_223_102 : decode (am_b 223) 102 = .ok (.iconst 1, 1) := by decide +kernel
theorem d_223_103 : decode (am_b 223) 103 = .ok (.aload_n 0, 1) := by decide +kernel
theorem d_223_104 : decode (am_b 223) 104 = .ok (.getfield 26, 3) := by decide +kernel
theorem d_223_107 : decode (am_b 223) 107 = .ok (.aload_n 0, 1) := by decide +kernel
theorem d_223_108 : decode (am_b 223) 108 = .ok (.getfield 134, 3) := by decide +kernel
theorem d_223_111 : decode (am_b 223) 111 = .ok (.iload 4, 2) := by decide +kernel
theorem d_223_113 : decode (am_b 223) 113 = .ok (.imul, 1) := by decide +kernel
theorem d_223_114 : decode (am_b 223) 114 = .ok (.iload_n 1, 1) := by decide +kernel
theorem d_223_115 : decode (am_b 223) 115 = .ok (.iadd, 1) := by decide +kernel
theorem d_223_116 : decode (am_b 223) 116 = .ok (.iaload, 1) := by decide +kernel
theorem d_223_117 : decode (am_b 223) 117 = .ok (.ishl, 1) := by decide +kernel
theorem d_223_118 : decode (am_b 223) 118 = .ok (.goto 4, 3) := by decide +kernel
theorem d_223_121 : decode (am_b 223) 121 = .ok (.iconst 0, 1) := by decide +kernel
theorem d_223_122 : decode (am_b 223) 122 = .ok (.ior, 1) := by decide +kernel
theorem d_223_123 : decode (am_b 223) 123 = .ok (.istore_n 3, 1) := by decide +kernel
theorem d_223_124 : decode (am_b 223) 124 = .ok (.iinc 4 1, 3) := by decide +kernel
theorem d_223_127 : decode (am_b 223) 127 = .ok (.goto (-110), 3) := by decide +kernel
theorem d_223_130 : decode (am_b 223) 130 = .ok (.iload_n 2, 1) := by decide +kernel
theorem d_223_131 : decode (am_b 223) 131 = .ok (.iconst 1, 1) := by decide +kernel
theorem d_223_132 : decode (am_b 223) 132 = .ok (.aload_n 0, 1) := by decide +kernel
theorem d_223_133 : decode (am_b 223) 133 = .ok (.getfield 134, 3) := by decide +kernel
theorem d_223_136 : decode (am_b 223) 136 = .ok (.ishl, 1) := by decide +kernel
theorem d_223_137 : decode (am_b 223) 137 = .ok (.iconst 1, 1) := by decide +kernel
theorem d_223_138 : decode (am_b 223) 138 = .ok (.isub, 1) := by decide +kernel
theorem d_223_139 : decode (am_b 223) 139 = .ok (.if_icmp .ne 8, 3) := by decide +kernel
theorem d_223_142 : decode (am_b 223) 142 = .ok (.iload_n 3, 1) := by decide +kernel
theorem d_223_143 : decode (am_b 223) 143 = .ok (.iload_n 2, 1) := by decide +kernel
theorem d_223_144 : decode (am_b 223) 144 = .ok (.if_icmp .eq 5, 3) := by decide +kernel
theorem d_223_147 : decode (am_b 223) 147 = .ok (.iconst 0, 1) := by decide +kernel
theorem d_223_148 : decode (am_b 223) 148 = .ok (.ireturn, 1) := by decide +kernel
theorem d_223_149 : decode (am_b 223) 149 = .ok (.iinc 1 1, 3) := by decide +kernel
theorem d_223_152 : decode (am_b 223) 152 = .ok (.goto (-150), 3) := by decide +kernel
theorem d_223_155 : decode (am_b 223) 155 = .ok (.iconst 1, 1) := by decide +kernel
theorem d_223_156 : decode (am_b 223) 156 = .ok (.ireturn, 1) := by decide +kernel
theorem d_224_0 : decode (am_b 224) 0 = .ok (.aload_n 0, 1) := by decide +kernel
theorem d_224_1 : decode (am_b 224) 1 = .ok (.getfield 13, 3) := by decide +kernel
theorem d_224_4 : decode (am_b 224) 4 = .ok (.sipush 2510, 3) := by decide +kernel
theorem d_224_7 : decode (am_b 224) 7 = .ok (.iaload, 1) := by decide +kernel
theorem d_224_8 : decode (am_b 224) 8 = .ok (.istore_n 2, 1) := by decide +kernel
theorem d_224_9 : decode (am_b 224) 9 = .ok (.iload_n 2, 1) := by decide +kernel
theorem d_224_10 : decode (am_b 224) 10 = .ok (.bipush 30, 2) := by decide +kernel
theorem d_224_12 : decode (am_b 224) 12 = .ok (.if_icmp .ne 41, 3) := by decide +kernel
theorem d_224_15 : decode (am_b 224) 15 = .ok (.iconst 0, 1) := by decide +kernel
theorem d_224_16 : decode (am_b 224) 16 = .ok (.istore_n 3, 1) := by decide +kernel
theorem d_224_17 : decode (am_b 224) 17 = .ok (.iload_n 3, 1) := by decide +kernel
theorem d_224_18 : decode (am_b 224) 18 = .ok (.sipush 2175, 3) := by decide +kernel
theorem d_224_21 : decode (am_b 224) 21 = .ok (.if_icmp .ge 29, 3) := by decide +kernel
theorem d_224_24 : decode (am_b 224) 24 = .ok (.aload_n 0, 1) := by decide +kernel
theorem d_224_25 : decode (am_b 224) 25 = .ok (.getfield 13, 3) := by decide +kernel
theorem d_224_28 : decode (am_b 224) 28 = .ok (.sipush 259, 3) := by decide +kernel
theorem d_224_31 : decode (am_b 224) 31 = .ok (.iload_n 3, 1) := by decide +kernel
theorem d_224_32 : decode (am_b 224) 32 = .ok (.iadd, 1) := by decide +kernel
theorem d_224_33 : decode (am_b 224) 33 = .ok (.aload_n 0, 1) := by decide +kernel
theorem d_224_34 : decode (am_b 224) 34 = .ok (.getfield 13, 3) := by decide +kernel
theorem d_224_37 : decode (am_b 224) 37 = .ok (.sipush 334, 3) := by decide +kernel
theorem d_224_40 : decode (am_b 224) 40 = .ok (.iload_n 3, 1) := by decide +kernel
theorem d_224_41 : decode (am_b 224) 41 = .ok (.iadd, 1) := by decide +kernel
theorem d_224_42 : decode (am_b 224) 42 = .ok (.iaload, 1) := by decide +kernel
theorem d_224_43 : decode (am_b 224) 43 = .ok (.iastore, 1) := by decide +kernel
theorem d_224_44 : decode (am_b 224) 44 = .ok (.iinc 3 1, 3) := by decide +kernel
theorem d_224_47 : decode (am_b 224) 47 = .ok (.goto (-30), 3) := by decide +kernel
theorem d_224_50 : decode (am_b 224) 50 = .ok (.iinc 2 (-1), 3) := by decide +kernel
theorem d_224_53 : decode (am_b 224) 53 = .ok (.sipush 259, 3) := by decide +kernel
theorem d_224_56 : decode (am_b 224) 56 = .ok (.bipush 75, 2) := by decide +kernel
theorem d_224_58 : decode (am_b 224) 58 = .ok (.iload_n 2, 1) := by decide +kernel
theorem d_224_59 : decode (am_b 224) 59 = .ok (.imul, 1) := by decide +kernel
theorem d_224_60 : decode (am_b 224) 60 = .ok (.iadd, 1) := by decide +kernel
theorem d_224_61 : decode (am_b 224) 61 = .ok (.istore_n 3, 1) := by decide +kernel
theorem d_224_62 : decode (am_b 224) 62 = .ok (.aload_n 0, 1) := by decide +kernel
theorem d_224_63 : decode (am_b 224) 63 = .ok (.getfield 13, 3) := by decide +kernel
theorem d_224_66 : decode (am_b 224) 66 = .ok (.iload_n 3, 1) := by decide +kernel
theorem d_224_67 : decode (am_b 224) 67 = .ok (.iload_n 1, 1) := by decide +kernel
theorem d_224_68 : decode (am_b 224) 68 = .ok (.iastore, 1) := by decide +kernel
theorem d_224_69 : decode (am_b 224) 69 = .ok (.iconst 0, 1) := by decide +kernel
theorem d_224_70 : decode (am_b 224) 70 = .ok (.istore 4, 2) := by decide +kernel
theorem d_224_72 : decode (am_b 224) 72 = .ok (.iload 4, 2) := by decide +kernel
theorem d_224_74 : decode (am_b 224) 74 = .ok (.bipush 37, 2) := by decide +kernel
theorem d_224_76 : decode (am_b 224) 76 = .ok (.if_icmp .ge 32, 3) := by decide +kernel
theorem d_224_79 : decode (am_b 224) 79 = .ok (.aload_n 0, 1) := by decide +kernel
theorem d_224_80 : decode (am_b 224) 80 = .ok (.getfield 13, 3) := by decide +kernel
theorem d_224_83 : decode (am_b 224) 83 = .ok (.iload_n 3, 1) := by decide +kernel
theorem d_224_84 : decode (am_b 224) 84 = .ok (.iconst 1, 1) := by decide +kernel
theorem d_224_85 : decode (am_b 224) 85 = .ok (.iadd, 1) := by decide +kernel
theorem d_224_86 : decode (am_b 224) 86 = .ok (.iload 4, 2) := by decide +kernel
theorem d_224_88 : decode (am_b 224) 88 = .ok (.iadd, 1) := by decide +kernel
theorem d_224_89 : decode (am_b 224) 89 = .ok (.aload_n 0, 1) := by decide +kernel
theorem d_224_90 : decode (am_b 224) 90 = .ok (.getfield 13, 3) := by decide +kernel
theorem d_224_93 : decode (am_b 224) 93 = .ok (.bipush 37, 2) := by decide +kernel
theorem d_224_95 : decode (am_b 224) 95 = .ok (.iload_n 1, 1) := by decide +kernel
theorem d_224_96 : decode (am_b 224) 96 = .ok (.imul, 1) := by decide +kernel
theorem d_224_97 : decode (am_b 224) 97 = .ok (.iload 4, 2) := by decide +kernel
theorem d_224_99 : decode (am_b 224) 99 = .ok (.iadd, 1) := by decide +kernel
theorem d_224_100 : decode (am_b 224) 100 = .ok (.iaload, 1) := by decide +kernel
theorem d_224_101 : decode (am_b 224) 101 = .ok (.iastore, 1) := by decide +kernel
theorem d_224_102 : decode (am_b 224) 102 = .ok (.iinc 4 1, 3) := by decide +kernel
theorem d_224_105 : decode (am_b 224) 105 = .ok (.goto (-33), 3) := by decide +kernel
theorem d_224_108 : decode (am_b 224) 108 = .ok (.aload_n 0, 1) := by decide +kernel
theorem d_224_109 : decode (am_b 224) 109 = .ok (.getfield 13, 3) := by decide +kernel
theorem d_224_112 : decode (am_b 224) 112 = .ok (.bipush 37, 2) := by decide +kernel
theorem d_224_114 : decode (am_b 224) 114 = .ok (.iload_n 1, 1) := by decide +kernel
theorem d_224_115 : decode (am_b 224) 115 = .ok (.imul, 1) := by decide +kernel
theorem d_224_116 : decode (am_b 224) 116 = .ok (.aload_n 0, 1) := by decide +kernel
theorem d_224_117 : decode (am_b 224) 117 = .ok (.getfield 134, 3) := by decide +kernel
theorem d_224_120 : decode (am_b 224) 120 = .ok (.iastore, 1) := by decide +kernel
theorem d_224_121 : decode (am_b 224) 121 = .ok (.iconst 0, 1) := by decide +kernel
theorem d_224_122 : decode (am_b 224) 122 = .ok (.istore 4, 2) := by decide +kernel
theorem d_224_124 : decode (am_b 224) 124 = .ok (.iload 4, 2) := by decide +kernel
theorem d_224_126 : decode (am_b 224) 126 = .ok (.bipush 36, 2) := by decide +kernel
theorem d_224_128 : decode (am_b 224) 128 = .ok (.if_icmp .ge 48, 3) := by decide +kernel
theorem d_224_131 : decode (am_b 224) 131 = .ok (.aload_n 0, 1) := by decide +kernel
theorem d_224_132 : decode (am_b 224) 132 = .ok (.getfield 13, 3) := by decide +kernel
theorem d_224_135 : decode (am_b 224) 135 = .ok (.bipush 37, 2) := by decide +kernel
theorem d_224_137 : decode (am_b 224) 137 = .ok (.iload_n 1, 1) := by decide +kernel
theorem d_224_138 : decode (am_b 224) 138 = .ok (.imul, 1) := by decide +kernel
theorem d_224_139 : decode (am_b 224) 139 = .ok (.iconst 1, 1) := by decide +kernel
theorem d_224_140 : decode (am_b 224) 140 = .ok (.iadd, 1) := by decide +kernel
theorem d_224_141 : decode (am_b 224) 141 = .ok (.iload 4, 2) := by decide +kernel
theorem d_224_143 : decode (am_b 224) 143 = .ok (.iadd, 1) := by decide +kernel
theorem d_224_144 : decode (am_b 224) 144 = .ok (.iload 4, 2) := by decide +kernel
theorem d_224_146 : decode (am_b 224) 146 = .ok (.aload_n 0, 1) := by decide +kernel
theorem d_224_147 : decode (am_b 224) 147 = .ok (.getfield 134, 3) := by decide +kernel
theorem d_224_150 : decode (am_b 224) 150 = .ok (.aload_n 0, 1) := by decide +kernel
theorem d_224_151 : decode (am_b 224) 151 = .ok (.getfield 134, 3) := by decide +kernel
theorem d_224_154 : decode (am_b 224) 154 = .ok (.imul, 1) := by decide +kernel
theorem d_224_155 : decode (am_b 224) 155 = .ok (.if_icmp .ge 13, 3) := by decide +kernel
theorem d_224_158 : decode (am_b 224) 158 = .ok (.aload_n 0, 1) := by decide +kernel
theorem d_224_159 : decode (am_b 224) 159 = .ok (.getfield 26, 3) := by decide +kernel
theorem d_224_162 : decode (am_b 224) 162 = .ok (.iload 4, 2) := by decide +kernel
theorem d_224_164 : decode (am_b 224) 164 = .ok (.iaload, 1) := by decide +kernel
theorem d_224_165 : decode (am_b 224) 165 = .ok (.goto 4, 3) := by decide +kernel
theorem d_224_168 : decode (am_b 224) 168 = .ok (.iconst 0, 1) := by decide +kernel
theorem d_224_169 : decode (am_b 224) 169 = .ok (.iastore, 1) := by decide +kernel
theorem d_224_170 : decode (am_b 224) 170 = .ok (.iinc 4 1, 3) := by decide +kernel
theorem d_224_173 : decode (am_b 224) 173 = .ok (.goto (-49), 3) := by decide +kernel
theorem d_224_176 : decode (am_b 224) 176 = .ok (.iconst 0, 1) := by decide +kernel
theorem d_224_177 : decode (am_b 224) 177 = .ok (.istore 4, 2) := by decide +kernel
theorem d_224_179 : decode (am_b 224) 179 = .ok (.iload 4, 2) := by decide +kernel
theorem d_224_181 : decode (am_b 224) 181 = .ok (.bipush 37, 2) := by decide +kernel
theorem d_224_183 : decode (am_b 224) 183 = .ok (.if_icmp .ge 35, 3) := by decide +kernel
theorem d_224_186 : decode (am_b 224) 186 = .ok (.aload_n 0, 1) := by decide +kernel
theorem d_224_187 : decode (am_b 224) 187 = .ok (.getfield 13, 3) := by decide +kernel
theorem d_224_190 : decode (am_b 224) 190 = .ok (.iload_n 3, 1) := by decide +kernel
theorem d_224_191 : decode (am_b 224) 191 = .ok (.iconst 1, 1) := by decide +kernel
theorem d_224_192 : decode (am_b 224) 192 = .ok (.iadd, 1) := by decide +kernel
theorem d_224_193 : decode (am_b 224) 193 = .ok (.bipush 37, 2) := by decide +kernel
theorem d_224_195 : decode (am_b 224) 195 = .ok (.iadd, 1) := by decide +kernel
theorem d_224_196 : decode (am_b 224) 196 = .ok (.iload 4, 2) := by decide +kernel
theorem d_224_198 : decode (am_b 224) 198 = .ok (.iadd, 1) := by decide +kernel
theorem d_224_199 : decode (am_b 224) 199 = .ok (.aload_n 0, 1) := by decide +kernel
theorem d_224_200 : decode (am_b 224) 200 = .ok (.getfield 13, 3) := by decide +kernel
theorem d_224_203 : decode (am_b 224) 203 = .ok (.bipush 37, 2) := by decide +kernel
theorem d_224_205 : decode (am_b 224) 205 = .ok (.iload_n 1, 1) := by decide +kernel
theorem d_224_206 : decode (am_b 224) 206 = .ok (.imul, 1) := by decide +kernel
theorem d_224_207 : decode (am_b 224) 207 = .ok (.iload 4, 2) := by decide +kernel
theorem d_224_209 : decode (am_b 224) 209 = .ok (.iadd, 1) := by decide +kernel
theorem d_224_210 : decode (am_b 224) 210 = .ok (.iaload, 1) := by decide +kernel
theorem d_224_211 : decode (am_b 224) 211 = .ok (.iastore, 1) := by decide +kernel
theorem d_224_212 : decode (am_b 224) 212 = .ok (.iinc 4 1, 3) := by decide +kernel
theorem d_224_215 : decode (am_b 224) 215 = .ok (.goto (-36), 3) := by decide +kernel
theorem d_224_218 : decode (am_b 224) 218 = .ok (.aload_n 0, 1) := by decide +kernel
theorem d_224_219 : decode (am_b 224) 219 = .ok (.getfield 13, 3) := by decide +kernel
theorem d_224_222 : decode (am_b 224) 222 = .ok (.sipush 2510, 3) := by decide +kernel
theorem d_224_225 : decode (am_b 224) 225 = .ok (.iload_n 2, 1) := by decide +kernel
theorem d_224_226 : decode (am_b 224) 226 = .ok (.iconst 1, 1) := by decide +kernel
theorem d_224_227 : decode (am_b 224) 227 = .ok (.iadd, 1) := by decide +kernel
theorem d_224_228 : decode (am_b 224) 228 = .ok (.iastore, 1) := by decide +kernel
theorem d_224_229 : decode (am_b 224) 229 = .ok (.aload_n 0, 1) := by decide +kernel
theorem d_224_230 : decode (am_b 224) 230 = .ok (.getfield 13, 3) := by decide +kernel
theorem d_224_233 : decode (am_b 224) 233 = .ok (.sipush 2511, 3) := by decide +kernel
theorem d_224_236 : decode (am_b 224) 236 = .ok (.iload_n 2, 1) := by decide +kernel
theorem d_224_237 : decode (am_b 224) 237 = .ok (.iconst 1, 1) := by decide +kernel
theorem d_224_238 : decode (am_b 224) 238 = .ok (.iadd, 1) := by decide +kernel
theorem d_224_239 : decode (am_b 224) 239 = .ok (.iastore, 1) := by decide +kernel
theorem d_224_240 : decode (am_b 224) 240 = .ok (.return_, 1) := by decide +kernel
theorem d_225_0 : decode (am_b 225) 0 = .ok (.iload_n 1, 1) := by decide +kernel
theorem d_225_1 : decode (am_b 225) 1 = .ok (.invokestatic 117, 3) := by decide +kernel
theorem d_225_4 : decode (am_b 225) 4 = .ok (.ifCond .eq 13, 3) := by decide +kernel
theorem d_225_7 : decode (am_b 225) 7 = .ok (.iload_n 2, 1) := by decide +kernel
theorem d_225_8 : decode (am_b 225) 8 = .ok (.iconst 1, 1) := by decide +kernel
theorem d_225_9 : decode (am_b 225) 9 = .ok (.bipush 6, 2) := by decide +kernel
theorem d_225_11 : decode (am_b 225) 11 = .ok (.invokestatic 106, 3) := by decide +kernel
theorem d_225_14 : decode (am_b 225) 14 = .ok (.ifCond .ne 9, 3) := by decide +kernel
theorem d_225_17 : decode (am_b 225) 17 = .ok (.aload_n 0, 1) := by decide +kernel
theorem d_225_18 : decode (am_b 225) 18 = .ok (.iconst (-1), 1) := by decide +kernel
theorem d_225_19 : decode (am_b 225) 19 = .ok (.invokevirtual 110, 3) := by decide +kernel
theorem d_225_22 : decode (am_b 225) 22 = .ok (.ireturn, 1) := by decide +kernel
theorem d_225_23 : decode (am_b 225) 23 = .ok (.aload_n 0, 1) := by decide +kernel
theorem d_225_24 : decode (am_b 225) 24 = .ok (.iload_n 2, 1) := by decide +kernel
theorem d_225_25 : decode (am_b 225) 25 = .ok (.putfield 134, 3) := by decide +kernel
theorem d_225_28 : decode (am_b 225) 28 = .ok (.iconst 0, 1) := by decide +kernel
theorem d_225_29 : decode (am_b 225) 29 = .ok (.istore_n 3, 1) := by decide +kernel
theorem d_225_30 : decode (am_b 225) 30 = .ok (.iload_n 3, 1) := by decide +kernel
theorem d_225_31 : decode (am_b 225) 31 = .ok (.aload_n 0, 1) := by decide +kernel
theorem d_225_32 : decode (am_b 225) 32 = .ok (.getfield 134, 3) := by decide +kernel
theorem d_225_35 : decode (am_b 225) 35 = .ok (.aload_n 0, 1) := by decide +kernel
theorem d_225_36 : decode (am_b 225) 36 = .ok (.getfield 134, 3) := by decide +kernel
theorem d_225_39 : decode (am_b 225) 39 = .ok (.imul, 1) := by decide +kernel
theorem d_225_40 : decode (am_b 225) 40 = .ok (.if_icmp .ge 33, 3) := by decide +kernel
theorem d_225_43 : decode (am_b 225) 43 = .ok (.aload_n 0, 1) := by decide +kernel
theorem d_225_44 : decode (am_b 225) 44 = .ok (.getfield 26, 3) := by decide +kernel
theorem d_225_47 : decode (am_b 225) 47 = .ok (.iload_n 3, 1) := by decide +kernel
theorem d_225_48 : decode (am_b 225) 48 = .ok (.iload_n 3, 1) := by decide +kernel
theorem d_225_49 : decode (am_b 225) 49 = .ok (.aload_n 0, 1) := by decide +kernel
theorem d_225_50 : decode (am_b 225) 50 = .ok (.getfield 134, 3) := by decide +kernel
theorem d_225_53 : decode (am_b 225) 53 = .ok (.idiv, 1) := by decide +kernel
theorem d_225_54 : decode (am_b 225) 54 = .ok (.iload_n 3, 1) := by decide +kernel
theorem d_225_55 : decode (am_b 225) 55 = .ok (.aload_n 0, 1) := by decide +kernel
theorem d_225_56 : decode (am_b 225) 56 = .ok (.getfield 134, 3) := by decide +kernel
theorem d_225_59 : decode (am_b 225) 59 = .ok (.irem, 1) := by decide +kernel
theorem d_225_60 : decode (am_b 225) 60 = .ok (.iadd, 1) := by decide +kernel
theorem d_225_61 : decode (am_b 225) 61 = .ok (.aload_n 0, 1) := by decide +kernel
theorem d_225_62 : decode (am_b 225) 62 = .ok (.getfield 134, 3) := by decide +kernel
theorem d_225_65 : decode (am_b 225) 65 = .ok (.irem, 1) := by decide +kernel
theorem d_225_66 : decode (am_b 225) 66 = .ok (.iastore, 1) := by decide +kernel
theorem d_225_67 : decode (am_b 225) 67 = .ok (.iinc 3 1, 3) := by decide +kernel
theorem d_225_70 : decode (am_b 225) 70 = .ok (.goto (-40), 3) := by decide +kernel
theorem d_225_73 : decode (am_b 225) 73 = .ok (.aload_n 0, 1) := by decide +kernel
theorem d_225_74 : decode (am_b 225) 74 = .ok (.iload_n 1, 1) := by decide +kernel
theorem d_225_75 : decode (am_b 225) 75 = .ok (.invokevirtual 257, 3) := by decide +kernel
theorem d_225_78 : decode (am_b 225) 78 = .ok (.aload_n 0, 1) := by decide +kernel
theorem d_225_79 : decode (am_b 225) 79 = .ok (.aload_n 0, 1) := by decide +kernel
theorem d_225_80 : decode (am_b 225) 80 = .ok (.getfield 134, 3) := by decide +kernel
theorem d_225_83 : decode (am_b 225) 83 = .ok (.invokevirtual 114, 3) := by decide +kernel
theorem d_225_86 : decode (am_b 225) 86 = .ok (.ireturn, 1) := by decide +kernel
theorem d_226_0 : decode (am_b 226) 0 = .ok (.iload_n 1, 1) := by decide +kernel
theorem d_226_1 : decode (am_b 226) 1 = .ok (.invokestatic 117, 3) := by decide +kernel
theorem d_226_4 : decode (am_b 226) 4 = .ok (.ifCond .ne 9, 3) := by decide +kernel
theorem d_226_7 : decode (am_b 226) 7 = .ok (.aload_n 0, 1) := by decide +kernel
theorem d_226_8 : decode (am_b 226) 8 = .ok (.iconst (-1), 1) := by decide +kernel
theorem d_226_9 : decode (am_b 226) 9 = .ok (.invokevirtual 110, 3) := by decide +kernel
theorem d_226_12 : decode (am_b 226) 12 = .ok (.ireturn, 1) := by decide +kernel
theorem d_226_13 : decode (am_b 226) 13 = .ok (.aload_n 0, 1) := by decide +kernel
theorem d_226_14 : decode (am_b 226) 14 = .ok (.iload_n 2, 1) := by decide +kernel
theorem d_226_15 : decode (am_b 226) 15 = .ok (.invokevirtual 124, 3) := by decide +kernel
theorem d_226_18 : decode (am_b 226) 18 = .ok (.ifCond .ne 10, 3) := by decide +kernel
theorem d_226_21 : decode (am_b 226) 21 = .ok (.aload_n 0, 1) := by decide +kernel
theorem d_226_22 : decode (am_b 226) 22 = .ok (.bipush (-2), 2) := by decide +kernel
theorem d_226_24 : decode (am_b 226) 24 = .ok (.invokevirtual 110, 3) := by decide +kernel
theorem d_226_27 : decode (am_b 226) 27 = .ok (.ireturn, 1) := by decide +kernel
theorem d_226_28 : decode (am_b 226) 28 = .ok (.aload_n 0, 1) := by decide +kernel
theorem d_226_29 : decode (am_b 226) 29 = .ok (.iload_n 2, 1) := by decide +kernel
theorem d_226_30 : decode (am_b 226) 30 = .ok (.invokevirtual 248, 3) := by decide +kernel
theorem d_226_33 : decode (am_b 226) 33 = .ok (.aload_n 0, 1) := by decide +kernel
theorem d_226_34 : decode (am_b 226) 34 = .ok (.aload_n 0, 1) := by decide +kernel
theorem d_226_35 : decode (am_b 226) 35 = .ok (.getfield 127, 3) := by decide +kernel
theorem d_226_38 : decode (am_b 226) 38 = .ok (.putfield 134, 3) := by decide +kernel
theorem d_226_41 : decode (am_b 226) 41 = .ok (.iconst 0, 1) := by decide +kernel
theorem d_226_42 : decode (am_b 226) 42 = .ok (.istore_n 3, 1) := by decide +kernel
theorem d_226_43 : decode (am_b 226) 43 = .ok (.iload_n 3, 1) := by decide +kernel
theorem d_226_44 : decode (am_b 226) 44 = .ok (.aload_n 0, 1) := by decide +kernel
theorem d_226_45 : decode (am_b 226) 45 = .ok (.getfield 127, 3) := by decide +kernel
theorem d_226_48 : decode (am_b 226) 48 = .ok (.aload_n 0, 1) := by decide +kernel
theorem d_226_49 : decode (am_b 226) 49 = .ok (.getfield 127, 3) := by decide +kernel
theorem d_226_52 : decode (am_b 226) 52 = .ok (.imul, 1) := by decide +kernel
theorem d_226_53 : decode (am_b 226) 53 = .ok (.if_icmp .ge 21, 3) := by decide +kernel
theorem d_226_56 : decode (am_b 226) 56 = .ok (.aload_n 0, 1) := by decide +kernel
theorem d_226_57 : decode (am_b 226) 57 = .ok (.getfield 26, 3) := by decide +kernel
theorem d_226_60 : decode (am_b 226) 60 = .ok (.iload_n 3, 1) := by decide +kernel
theorem d_226_61 : decode (am_b 226) 61 = .ok (.aload_n 0, 1) := by decide +kernel
theorem d_226_62 : decode (am_b 226) 62 = .ok (.getfield 23, 3) := by decide +kernel
theorem d_226_65 : decode (am_b 226) 65 = .ok (.iload_n 3, 1) := by decide +kernel
theorem d_226_66 : decode (am_b 226) 66 = .ok (.iaload, 1) := by decide +kernel
theorem d_226_67 : decode (am_b 226) 67 = .ok (.iastore, 1) := by decide +kernel
theorem d_226_68 : decode (am_b 226) 68 = .ok (.iinc 3 1, 3) := by decide +kernel
theorem d_226_71 : decode (am_b 226) 71 = .ok (.goto (-28), 3) := by decide +kernel
theorem d_226_74 : decode (am_b 226) 74 = .ok (.aload_n 0, 1) := by decide +kernel
theorem d_226_75 : decode (am_b 226) 75 = .ok (.iload_n 1, 1) := by decide +kernel
theorem d_226_76 : decode (am_b 226) 76 = .ok (.invokevirtual 257, 3) := by decide +kernel
theorem d_226_79 : decode (am_b 226) 79 = .ok (.aload_n 0, 1) := by decide +kernel
theorem d_226_80 : decode (am_b 226) 80 = .ok (.aload_n 0, 1) := by decide +kernel
theorem d_226_81 : decode (am_b 226) 81 = .ok (.getfield 134, 3) := by decide +kernel
theorem d_226_84 : decode (am_b 226) 84 = .ok (.invokevirtual 114, 3) := by decide +kernel
theorem d_226_87 : decode (am_b 226) 87 = .ok (.ireturn, 1) := by decide +kernel
theorem d_227_0 : decode (am_b 227) 0 = .ok (.aload_n 0, 1) := by decide +kernel
theorem d_227_1 : decode (am_b 227) 1 = .ok (.iload_n 1, 1) := by decide +kernel
theorem d_227_2 : decode (am_b 227) 2 = .ok (.invokevirtual 124, 3) := by decide +kernel
theorem d_227_5 : decode (am_b 227) 5 = .ok (.ifCond .ne 10, 3) := by decide +kernel
theorem d_227_8 : decode (am_b 227) 8 = .ok (.aload_n 0, 1) := by decide +kernel
theorem d_227_9 : decode (am_b 227) 9 = .ok (.bipush (-2), 2) := by decide +kernel
theorem d_227_11 : decode (am_b 227) 11 = .ok (.invokevirtual 110, 3) := by decide +kernel
theorem d_227_14 : decode (am_b 227) 14 = .ok (.ireturn, 1) := by decide +kernel
theorem d_227_15 : decode (am_b 227) 15 = .ok (.aload_n 0, 1) := by decide +kernel
theorem d_227_16 : decode (am_b 227) 16 = .ok (.iload_n 1, 1) := by decide +kernel
theorem d_227_17 : decode (am_b 227) 17 = .ok (.invokevirtual 248, 3) := by decide +kernel
theorem d_227_20 : decode (am_b 227) 20 = .ok (.aload_n 0, 1) := by decide +kernel
theorem d_227_21 : decode (am_b 227) 21 = .ok (.iload_n 2, 1) := by decide +kernel
theorem d_227_22 : decode (am_b 227) 22 = .ok (.invokevirtual 260, 3) := by decide +kernel
theorem d_227_25 : decode (am_b 227) 25 = .ok (.ifCond .eq 11, 3) := by decide +kernel
theorem d_227_28 : decode (am_b 227) 28 = .ok (.aload_n 0, 1) := by decide +kernel
theorem d_227_29 : decode (am_b 227) 29 = .ok (.iload_n 3, 1) := by decide +kernel
theorem d_227_30 : decode (am_b 227) 30 = .ok (.invokevirtual 260, 3) := by decide +kernel
theorem d_227_33 : decode (am_b 227) 33 = .ok (.ifCond .ne 9, 3) := by decide +kernel
theorem d_227_36 : decode (am_b 227) 36 = .ok (.aload_n 0, 1) := by decide +kernel
theorem d_227_37 : decode (am_b 227) 37 = .ok (.iconst (-1), 1) := by decide +kernel
theorem d_227_38 : decode (am_b 227) 38 = .ok (.invokevirtual 110, 3) := by decide +kernel
theorem d_227_41 : decode (am_b 227) 41 = .ok (.ireturn, 1) := by decide +kernel
theorem d_227_42 : decode (am_b 227) 42 = .ok (.aload_n 0, 1) := by decide +kernel
theorem d_227_43 : decode (am_b 227) 43 = .ok (.iload_n 2, 1) := by decide +kernel
theorem d_227_44 : decode (am_b 227) 44 = .ok (.iload_n 3, 1) := by decide +kernel
theorem d_227_45 : decode (am_b 227) 45 = .ok (.invokevirtual 263, 3) := by decide +kernel
theorem d_227_48 : decode (am_b 227) 48 = .ok (.aload_n 0, 1) := by decide +kernel
theorem d_227_49 : decode (am_b 227) 49 = .ok (.iload_n 1, 1) := by decide +kernel
theorem d_227_50 : decode (am_b 227) 50 = .ok (.invokevirtual 257, 3) := by decide +kernel
theorem d_227_53 : decode (am_b 227) 53 = .ok (.aload_n 0, 1) := by decide +kernel
theorem d_227_54 : decode (am_b 227) 54 = .ok (.aload_n 0, 1) := by decide +kernel
theorem d_227_55 : decode (am_b 227) 55 = .ok (.iload_n 2, 1) := by decide +kernel
theorem d_227_56 : decode (am_b 227) 56 = .ok (.iload_n 3, 1) := by decide +kernel
theorem d_227_57 : decode (am_b 227) 57 = .ok (.invokevirtual 130, 3) := by decide +kernel
theorem d_227_60 : decode (am_b 227) 60 = .ok (.invokevirtual 114, 3) := by decide +kernel
theorem d_227_63 : decode (am_b 227) 63 = .ok (.ireturn, 1) := by decide +kernel
theorem d_228_0 : decode (am_b 228) 0 = .ok (.iload_n 1, 1) := by decide +kernel
theorem d_228_1 : decode (am_b 228) 1 = .ok (.iconst 0, 1) := by decide +kernel
theorem d_228_2 : decode (am_b 228) 2 = .ok (.aload_n 0, 1) := by decide +kernel
theorem d_228_3 : decode (am_b 228) 3 = .ok (.getfield 127, 3) := by decide +kernel
theorem d_228_6 : decode (am_b 228) 6 = .ok (.iconst 1, 1) := by decide +kernel
theorem d_228_7 : decode (am_b 228) 7 = .ok (.isub, 1) := by decide +kernel
theorem d_228_8 : decode (am_b 228) 8 = .ok (.invokestatic 106, 3) := by decide +kernel
theorem d_228_11 : decode (am_b 228) 11 = .ok (.ireturn, 1) := by decide +kernel
theorem d_229_0 : decode (am_b 229) 0 = .ok (.aload_n 0, 1) := by decide +kernel
theorem d_229_1 : decode (am_b 229) 1 = .ok (.aload_n 0, 1) := by decide +kernel
theorem d_229_2 : decode (am_b 229) 2 = .ok (.getfield 127, 3) := by decide +kernel
theorem d_229_5 : decode (am_b 229) 5 = .ok (.putfield 134, 3) := by decide +kernel
theorem d_229_8 : decode (am_b 229) 8 = .ok (.iconst 0, 1) := by decide +kernel
theorem d_229_9 : decode (am_b 229) 9 = .ok (.istore_n 3, 1) := by decide +kernel
theorem d_229_10 : decode (am_b 229) 10 = .ok (.iload_n 3, 1) := by decide +kernel
theorem d_229_11 : decode (am_b 229) 11 = .ok (.aload_n 0, 1) := by decide +kernel
theorem d_229_12 : decode (am_b 229) 12 = .ok (.getfield 127, 3) := by decide +kernel
theorem d_229_15 : decode (am_b 229) 15 = .ok (.if_icmp .ge 58, 3) := by decide +kernel
theorem d_229_18 : decode (am_b 229) 18 = .ok (.iconst 0, 1) := by decide +kernel
theorem d_229_19 : decode (am_b 229) 19 = .ok (.istore 4, 2) := by decide +kernel
theorem d_229_21 : decode (am_b 229) 21 = .ok (.iload 4, 2) := by decide +kernel
theorem d_229_23 : decode (am_b 229) 23 = .ok (.aload_n 0, 1) := by decide +kernel
theorem d_229_24 : decode (am_b 229) 24 = .ok (.getfield 127, 3) := by decide +kernel
theorem d_229_27 : decode (am_b 229) 27 = .ok (.if_icmp .ge 40, 3) := by decide +kernel
theorem d_229_30 : decode (am_b 229) 30 = .ok (.aload_n 0, 1) := by decide +kernel
theorem d_229_31 : decode (am_b 229) 31 = .ok (.getfield 26, 3) := by decide +kernel
theorem d_229_34 : decode (am_b 229) 34 = .ok (.aload_n 0, 1) := by decide +kernel
theorem d_229_35 : decode (am_b 229) 35 = .ok (.getfield 127, 3) := by decide +kernel
theorem d_229_38 : decode (am_b 229) 38 = .ok (.iload_n 3, 1) := by decide +kernel
theorem d_229_39 : decode (am_b 229) 39 = .ok (.imul, 1) := by decide +kernel
theorem d_229_40 : decode (am_b 229) 40 = .ok (.iload 4, 2) := by decide +kernel
theorem d_229_42 : decode (am_b 229) 42 = .ok (.iadd, 1) := by decide +kernel
theorem d_229_43 : decode (am_b 229) 43 = .ok (.aload_n 0, 1) := by decide +kernel
theorem d_229_44 : decode (am_b 229) 44 = .ok (.aload_n 0, 1) := by decide +kernel
theorem d_229_45 : decode (am_b 229) 45 = .ok (.iload_n 3, 1) := by decide +kernel
theorem d_229_46 : decode (am_b 229) 46 = .ok (.iload_n 2, 1) := by decide +kernel
theorem d_229_47 : decode (am_b 229) 47 = .ok (.invokevirtual 208, 3) := by decide +kernel
theorem d_229_50 : decode (am_b 229) 50 = .ok (.aload_n 0, 1) := by decide +kernel
theorem d_229_51 : decode (am_b 229) 51 = .ok (.iload_n 1, 1) := by decide +kernel
theorem d_229_52 : decode (am_b 229) 52 = .ok (.iload 4, 2) := by decide +kernel
theorem d_229_54 : decode (am_b 229) 54 = .ok (.invokevirtual 211, 3) := by decide +kernel
theorem d_229_57 : decode (am_b 229) 57 = .ok (.invokevirtual 130, 3) := by decide +kernel
theorem d_229_60 : decode (am_b 229) 60 = .ok (.iastore, 1) := by decide +kernel
theorem d_229_61 : decode (am_b 229) 61 = .ok (.iinc 4 1, 3) := by decide +kernel
theorem d_229_64 : decode (am_b 229) 64 = .ok (.goto (-43), 3) := by decide +kernel
theorem d_229_67 : decode (am_b 229) 67 = .ok (.iinc 3 1, 3) := by decide +kernel
theorem d_229_70 : decode (am_b 229) 70 = .ok (.goto (-60), 3) := by decide +kernel
theorem d_229_73 : decode (am_b 229) 73 = .ok (.return_, 1) := by decide +kernel
theorem d_230_0 : decode (am_b 230) 0 = .ok (.aload_n 0, 1) := by decide +kernel
theorem d_230_1 : decode (am_b 230) 1 = .ok (.iload_n 1, 1) := by decide +kernel
theorem d_230_2 : decode (am_b 230) 2 = .ok (.invokevirtual 124, 3) := by decide +kernel
theorem d_230_5 : decode (am_b 230) 5 = .ok (.ifCond .ne 10, 3) := by decide +kernel
theorem d_230_8 : decode (am_b 230) 8 = .ok (.aload_n 0, 1) := by decide +kernel
theorem d_230_9 : decode (am_b 230) 9 = .ok (.bipush (-2), 2) := by decide +kernel
theorem d_230_11 : decode (am_b 230) 11 = .ok (.invokevirtual 110, 3) := by decide +kernel
theorem d_230_14 : decode (am_b 230) 14 = .ok (.ireturn, 1) := by decide +kernel
theorem d_230_15 : decode (am_b 230) 15 = .ok (.iload_n 2, 1) := by decide +kernel
theorem d_230_16 : decode (am_b 230) 16 = .ok (.iconst 0, 1) := by decide +kernel
theorem d_230_17 : decode (am_b 230) 17 = .ok (.iconst 5, 1) := by decide +kernel
theorem d_230_18 : decode (am_b 230) 18 = .ok (.invokestatic 106, 3) := by decide +kernel
theorem d_230_21 : decode (am_b 230) 21 = .ok (.ifCond .ne 9, 3) := by decide +kernel
theorem d_230_24 : decode (am_b 230) 24 = .ok (.aload_n 0, 1) := by decide +kernel
theorem d_230_25 : decode (am_b 230) 25 = .ok (.iconst (-1), 1) := by decide +kernel
theorem d_230_26 : decode (am_b 230) 26 = .ok (.invokevirtual 110, 3) := by decide +kernel
theorem d_230_29 : decode (am_b 230) 29 = .ok (.ireturn, 1) := by decide +kernel
theorem d_230_30 : decode (am_b 230) 30 = .ok (.aload_n 0, 1) := by decide +kernel
theorem d_230_31 : decode (am_b 230) 31 = .ok (.iload_n 1, 1) := by decide +kernel
theorem d_230_32 : decode (am_b 230) 32 = .ok (.invokevirtual 248, 3) := by decide +kernel
theorem d_230_35 : decode (am_b 230) 35 = .ok (.aload_n 0, 1) := by decide +kernel
theorem d_230_36 : decode (am_b 230) 36 = .ok (.iload_n 2, 1) := by decide +kernel
theorem d_230_37 : decode (am_b 230) 37 = .ok (.invokevirtual 267, 3) := by decide +kernel
theorem d_230_40 : decode (am_b 230) 40 = .ok (.aload_n 0, 1) := by decide +kernel
theorem d_230_41 : decode (am_b 230) 41 = .ok (.iload_n 1, 1) := by decide +kernel
theorem d_230_42 : decode (am_b 230) 42 = .ok (.invokevirtual 257, 3) := by decide +kernel
theorem d_230_45 : decode (am_b 230) 45 = .ok (.aload_n 0, 1) := by decide +kernel
theorem d_230_46 : decode (am_b 230) 46 = .ok (.iconst 0, 1) := by decide +kernel
theorem d_230_47 : decode (am_b 230) 47 = .ok (.invokevirtual 114, 3) := by decide +kernel
theorem d_230_50 : decode (am_b 230) 50 = .ok (.ireturn, 1) := by decide +kernel
theorem d_231_0 : decode (am_b 231) 0 = .ok (.aload_n 0, 1) := by decide +kernel
theorem d_231_1 : decode (am_b 231) 1 = .ok (.aload_n 0, 1) := by decide +kernel
theorem d_231_2 : decode (am_b 231) 2 = .ok (.getfield 127, 3) := by decide +kernel
theorem d_231_5 : decode (am_b 231) 5 = .ok (.putfield 134, 3) := by decide +kernel
theorem d_231_8 : decode (am_b 231) 8 = .ok (.iconst 0, 1) := by decide +kernel
theorem d_231_9 : decode (am_b 231) 9 = .ok (.istore_n 2, 1) := by decide +kernel
theorem d_231_10 : decode (am_b 231) 10 = .ok (.iload_n 2, 1) := by decide +kernel
theorem d_231_11 : decode (am_b 231) 11 = .ok (.aload_n 0, 1) := by decide +kernel
theorem d_231_12 : decode (am_b 231) 12 = .ok (.getfield 127, 3) := by decide +kernel
theorem d_231_15 : decode (am_b 231) 15 = .ok (.if_icmp .ge 174, 3) := by decide +kernel
theorem d_231_18 : decode (am_b 231) 18 = .ok (.iconst 0, 1) := by decide +kernel
theorem d_231_19 : decode (am_b 231) 19 = .ok (.istore_n 3, 1) := by decide +kernel
theorem d_231_20 : decode (am_b 231) 20 = .ok (.iload_n 3, 1) := by decide +kernel
theorem d_231_21 : decode (am_b 231) 21 = .ok (.aload_n 0, 1) := by decide +kernel
theorem d_231_22 : decode (am_b 231) 22 = .ok (.getfield 127, 3) := by decide +kernel
theorem d_231_25 : decode (am_b 231) 25 = .ok (.if_icmp .ge 158, 3) := by decide +kernel
theorem d_231_28 : decode (am_b 231) 28 = .ok (.aload_n 0, 1) := by decide +kernel
theorem d_231_29 : decode (am_b 231) 29 = .ok (.iload_n 2, 1) := by decide +kernel
theorem d_231_30 : decode (am_b 231) 30 = .ok (.iload_n 3, 1) := by decide +kernel
theorem d_231_31 : decode (am_b 231) 31 = .ok (.invokevirtual 130, 3) := by decide +kernel
theorem d_231_34 : decode (am_b 231) 34 = .ok (.istore 4, 2) := by decide +kernel
theorem d_231_36 : decode (am_b 231) 36 = .ok (.iload_n 1, 1) := by decide +kernel
theorem d_231_37 : decode (am_b 231) 37 = .ok (.tableswitch 125 0 4 #[35, 53, 71, 89, 107], 35) := by decide +kernel
theorem d_231_72 : decode (am_b 231) 72 = .ok (.aload_n 0, 1) := by decide +kernel
theorem d_231_73 : decode (am_b 231) 73 = .ok (.getfield 26, 3) := by decide +kernel
theorem d_231_76 : decode (am_b 231) 76 = .ok (.aload_n 0, 1) := by decide +kernel
theorem d_231_77 : decode (am_b 231) 77 = .ok (.getfield 127, 3) := by decide +kernel
theorem d_231_80 : decode (am_b 231) 80 = .ok (.iload_n 2, 1) := by decide +kernel
theorem d_231_81 : decode (am_b 231) 81 = .ok (.imul, 1) := by decide +kernel
theorem d_231_82 : decode (am_b 231) 82 = .ok (.iload_n 3, 1) := by decide +kernel
theorem d_231_83 : decode (am_b 231) 83 = .ok (.iadd, 1) := by decide +kernel
theorem d_231_84 : decode (am_b 231) 84 = .ok (.iload 4, 2) := by decide +kernel
theorem d_231_86 : decode (am_b 231) 86 = .ok (.iastore, 1) := by decide +kernel
theorem d_231_87 : decode (am_b 231) 87 = .ok (.goto 90, 3) := by decide +kernel
theorem d_231_90 : decode (am_b 231) 90 = .ok (.aload_n 0, 1) := by decide +kernel
theorem d_231_91 : decode (am_b 231) 91 = .ok (.getfield 26, 3) := by decide +kernel
theorem d_231_94 : decode (am_b 231) 94 = .ok (.aload_n 0, 1) := by decide +kernel
theorem d_231_95 : decode (am_b 231) 95 = .ok (.getfield 127, 3) := by decide +kernel
theorem d_231_98 : decode (am_b 231) 98 = .ok (.iload_n 3, 1) := by decide +kernel
theorem d_231_99 : decode (am_b 231) 99 = .ok (.imul, 1) := by decide +kernel
theorem d_231_100 : decode (am_b 231) 100 = .ok (.iload_n 2, 1) := by decide +kernel
theorem d_231_101 : decode (am_b 231) 101 = .ok (.iadd, 1) := by decide +kernel
theorem d_231_102 : decode (am_b 231) 102 = .ok (.iload 4, 2) := by decide +kernel
theorem d_231_104 : decode (am_b 231) 104 = .ok (.iastore, 1) := by decide +kernel
theorem d_231_105 : decode (am_b 231) 105 = .ok (.goto 72, 3) := by decide +kernel
theorem d_231_108 : decode (am_b 231) 108 = .ok (.aload_n 0, 1) := by decide +kernel
theorem d_231_109 : decode (am_b 231) 109 = .ok (.getfield 26, 3) := by decide +kernel
theorem d_231_112 : decode (am_b 231) 112 = .ok (.aload_n 0, 1) := by decide +kernel
theorem d_231_113 : decode (am_b 231) 113 = .ok (.getfield 127, 3) := by decide +kernel
theorem d_231_116 : decode (am_b 231) 116 = .ok (.iload_n 2, 1) := by decide +kernel
theorem d_231_117 : decode (am_b 231) 117 = .ok (.imul, 1) := by decide +kernel
theorem d_231_118 : decode (am_b 231) 118 = .ok (.iload 4, 2) := by decide +kernel
theorem d_231_120 : decode (am_b 231) 120 = .ok (.iadd, 1) := by decide +kernel
theorem d_231_121 : decode (am_b 231) 121 = .ok (.iload_n 3, 1) := by decide +kernel
theorem d_231_122 : decode (am_b 231) 122 = .ok (.iastore, 1) := by decide +kernel
theorem d_231_123 : decode (am_b 231) 123 = .ok (.goto 54, 3) := by decide +kernel
theorem d_231_126 : decode (am_b 231) 126 = .ok (.aload_n 0, 1) := by decide +kernel
theorem d_231_127 : decode (am_b 231) 127 = .ok (.getfield 26, 3) := by decide +kernel
theorem d_231_130 : decode (am_b 231) 130 = .ok (.aload_n 0, 1) := by decide +kernel
theorem d_231_131 : decode (am_b 231) 131 = .ok (.getfield 127, 3) := by decide +kernel
theorem d_231_134 : decode (am_b 231) 134 = .ok (.iload 4, 2) := by decide +kernel
theorem d_231_136 : decode (am_b 231) 136 = .ok (.imul, 1) := by decide +kernel
theorem d_231_137 : decode (am_b 231) 137 = .ok (.iload_n 2, 1) := by decide +kernel
theorem d_231_138 : decode (am_b 231) 138 = .ok (.iadd, 1) := by decide +kernel
theorem d_231_139 : decode (am_b 231) 139 = .ok (.iload_n 3, 1) := by decide +kernel
theorem d_231_140 : decode (am_b 231) 140 = .ok (.iastore, 1) := by decide +kernel
theorem d_231_141 : decode (am_b 231) 141 = .ok (.goto 36, 3) := by decide +kernel
theorem d_231_144 : decode (am_b 231) 144 = .ok (.aload_n 0, 1) := by decide +kernel
theorem d_231_145 : decode (am_b 231) 145 = .ok (.getfield 26, 3) := by decide +kernel
theorem d_231_148 : decode (am_b 231) 148 = .ok (.aload_n 0, 1) := by decide +kernel
theorem d_231_149 : decode (am_b 231) 149 = .ok (.getfield 127, 3) := by decide +kernel
theorem d_231_152 : decode (am_b 231) 152 = .ok (.iload_n 3, 1) := by decide +kernel
theorem d_231_153 : decode (am_b 231) 153 = .ok (.imul, 1) := by decide +kernel
theorem d_231_154 : decode (am_b 231) 154 = .ok (.iload 4, 2) := by decide +kernel
theorem d_231_156 : decode (am_b 231) 156 = .ok (.iadd, 1) := by decide +kernel
theorem d_231_157 : decode (am_b 231) 157 = .ok (.iload_n 2, 1) := by decide +kernel
theorem d_231_158 : decode (am_b 231) 158 = .ok (.iastore, 1) := by decide +kernel
theorem d_231_159 : decode (am_b 231) 159 = .ok (.goto 18, 3) := by decide +kernel
theorem d_231_162 : decode (am_b 231) 162 = .ok (.aload_n 0, 1) := by decide +kernel
theorem d_231_163 : decode (am_b 231) 163 = .ok (.getfield 26, 3) := by decide +kernel
theorem d_231_166 : decode (am_b 231) 166 = .ok (.aload_n 0, 1) := by decide +kernel
theorem d_231_167 : decode (am_b 231) 167 = .ok (.getfield 127, 3) := by decide +kernel
theorem d_231_170 : decode (am_b 231) 170 = .ok (.iload 4, 2) := by decide +kernel
theorem d_231_172 : decode (am_b 231) 172 = .ok (.imul, 1) := by decide +kernel
theorem d_231_173 : decode (am_b 231) 173 = .ok (.iload_n 3, 1) := by decide +kernel
theorem d_231_174 : decode (am_b 231) 174 = .ok (.iadd, 1) := by decide +kernel
theorem d_231_175 : decode (am_b 231) 175 = .ok (.iload_n 2, 1) := by decide +kernel
theorem d_231_176 : decode (am_b 231) 176 = .ok (.iastore, 1) := by decide +kernel
theorem d_231_177 : decode (am_b 231) 177 = .ok (.iinc 3 1, 3) := by decide +kernel
theorem d_231_180 : decode (am_b 231) 180 = .ok (.goto (-160), 3) := by decide +kernel
theorem d_231_183 : decode (am_b 231) 183 = .ok (.iinc 2 1, 3) := by decide +kernel
theorem d_231_186 : decode (am_b 231) 186 = .ok (.goto (-176), 3) := by decide +kernel
theorem d_231_189 : decode (am_b 231) 189 = .ok (.return_, 1) := by decide +kernel
theorem d_232_0 : decode (am_b 232) 0 = .ok (.aload_n 0, 1) := by decide +kernel
theorem d_232_1 : decode (am_b 232) 1 = .ok (.iload_n 1, 1) := by decide +kernel
theorem d_232_2 : decode (am_b 232) 2 = .ok (.invokevirtual 124, 3) := by decide +kernel
theorem d_232_5 : decode (am_b 232) 5 = .ok (.ifCond .ne 10, 3) := by decide +kernel
theorem d_232_8 : decode (am_b 232) 8 = .ok (.aload_n 0, 1) := by decide +kernel
theorem d_232_9 : decode (am_b 232) 9 = .ok (.bipush (-2), 2) := by decide +kernel
theorem d_232_11 : decode (am_b 232) 11 = .ok (.invokevirtual 110, 3) := by decide +kernel
theorem d_232_14 : decode (am_b 232) 14 = .ok (.ireturn, 1) := by decide +kernel
theorem d_232_15 : decode (am_b 232) 15 = .ok (.aload_n 0, 1) := by decide +kernel
theorem d_232_16 : decode (am_b 232) 16 = .ok (.iload_n 1, 1) := by decide +kernel
theorem d_232_17 : decode (am_b 232) 17 = .ok (.invokevirtual 248, 3) := by decide +kernel
theorem d_232_20 : decode (am_b 232) 20 = .ok (.iload_n 2, 1) := by decide +kernel
theorem d_232_21 : decode (am_b 232) 21 = .ok (.iconst 0, 1) := by decide +kernel
theorem d_232_22 : decode (am_b 232) 22 = .ok (.aload_n 0, 1) := by decide +kernel
theorem d_232_23 : decode (am_b 232) 23 = .ok (.getfield 127, 3) := by decide +kernel
theorem d_232_26 : decode (am_b 232) 26 = .ok (.invokestatic 270, 3) := by decide +kernel
theorem d_232_29 : decode (am_b 232) 29 = .ok (.iconst 1, 1) := by decide +kernel
theorem d_232_30 : decode (am_b 232) 30 = .ok (.isub, 1) := by decide +kernel
theorem d_232_31 : decode (am_b 232) 31 = .ok (.invokestatic 106, 3) := by decide +kernel
theorem d_232_34 : decode (am_b 232) 34 = .ok (.ifCond .ne 9, 3) := by decide +kernel
theorem d_232_37 : decode (am_b 232) 37 = .ok (.aload_n 0, 1) := by decide +kernel
theorem d_232_38 : decode (am_b 232) 38 = .ok (.iconst (-1), 1) := by decide +kernel
theorem d_232_39 : decode (am_b 232) 39 = .ok (.invokevirtual 110, 3) := by decide +kernel
theorem d_232_42 : decode (am_b 232) 42 = .ok (.ireturn, 1) := by decide +kernel
theorem d_232_43 : decode (am_b 232) 43 = .ok (.aload_n 0, 1) := by decide +kernel
theorem d_232_44 : decode (am_b 232) 44 = .ok (.iload_n 2, 1) := by decide +kernel
theorem d_232_45 : decode (am_b 232) 45 = .ok (.aload_n 0, 1) := by decide +kernel
theorem d_232_46 : decode (am_b 232) 46 = .ok (.getfield 127, 3) := by decide +kernel
theorem d_232_49 : decode (am_b 232) 49 = .ok (.invokevirtual 273, 3) := by decide +kernel
theorem d_232_52 : decode (am_b 232) 52 = .ok (.aload_n 0, 1) := by decide +kernel
theorem d_232_53 : decode (am_b 232) 53 = .ok (.invokevirtual 276, 3) := by decide +kernel
theorem d_232_56 : decode (am_b 232) 56 = .ok (.aload_n 0, 1) := by decide +kernel
theorem d_232_57 : decode (am_b 232) 57 = .ok (.iload_n 1, 1) := by decide +kernel
theorem d_232_58 : decode (am_b 232) 58 = .ok (.invokevirtual 257, 3) := by decide +kernel
theorem d_232_61 : decode (am_b 232) 61 = .ok (.aload_n 0, 1) := by decide +kernel
theorem d_232_62 : decode (am_b 232) 62 = .ok (.iconst 0, 1) := by decide +kernel
theorem d_232_63 : decode (am_b 232) 63 = .ok (.invokevirtual 114, 3) := by decide +kernel
theorem d_232_66 : decode (am_b 232) 66 = .ok (.ireturn, 1) := by decide +kernel
theorem d_233_0 : decode (am_b 233) 0 = .ok (.iconst 1, 1) := by decide +kernel
theorem d_233_1 : decode (am_b 233) 1 = .ok (.istore_n 1, 1) := by decide +kernel
theorem d_233_2 : decode (am_b 233) 2 = .ok (.iconst 2, 1) := by decide +kernel
theorem d_233_3 : decode (am_b 233) 3 = .ok (.istore_n 2, 1) := by decide +kernel
theorem d_233_4 : decode (am_b 233) 4 = .ok (.iload_n 2, 1) := by decide +kernel
theorem d_233_5 : decode (am_b 233) 5 = .ok (.iload_n 0, 1) := by decide +kernel
theorem d_233_6 : decode (am_b 233) 6 = .ok (.if_icmp .gt 13, 3) := by decide +kernel
theorem d_233_9 : decode (am_b 233) 9 = .ok (.iload_n 1, 1) := by decide +kernel
theorem d_233_10 : decode (am_b 233) 10 = .ok (.iload_n 2, 1) := by decide +kernel
theorem d_233_11 : decode (am_b 233) 11 = .ok (.imul, 1) := by decide +kernel
theorem d_233_12 : decode (am_b 233) 12 = .ok (.istore_n 1, 1) := by decide +kernel
theorem d_233_13 : decode (am_b 233) 13 = .ok (.iinc 2 1, 3) := by decide +kernel
theorem d_233_16 : decode (am_b 233) 16 = .ok (.goto (-12), 3) := by decide +kernel
theorem d_233_19 : decode (am_b 233) 19 = .ok (.iload_n 1, 1) := by decide +kernel
theorem d_233_20 : decode (am_b 233) 20 = .ok (.ireturn, 1) := by decide +kernel
theorem d_234_0 : decode (am_b 234) 0 = .ok (.iconst 1, 1) := by decide +kernel
theorem d_234_1 : decode (am_b 234) 1 = .ok (.iload_n 2, 1) := by decide +kernel
theorem d_234_2 : decode (am_b 234) 2 = .ok (.ishl, 1) := by decide +kernel
theorem d_234_3 : decode (am_b 234) 3 = .ok (.iconst 1, 1) := by decide +kernel
theorem d_234_4 : decode (am_b 234) 4 = .ok (.isub, 1) := by decide +kernel
theorem d_234_5 : decode (am_b 234) 5 = .ok (.istore_n 3, 1) := by decide +kernel
theorem d_234_6 : decode (am_b 234) 6 = .ok (.iload_n 1, 1) := by decide +kernel
theorem d_234_7 : decode (am_b 234) 7 = .ok (.istore 4, 2) := by decide +kernel
theorem d_234_9 : decode (am_b 234) 9 = .ok (.iconst 0, 1) := by decide +kernel
theorem d_234_10 : decode (am_b 234) 10 = .ok (.istore 5, 2) := by decide +kernel
theorem d_234_12 : decode (am_b 234) 12 = .ok (.iload 5, 2) := by decide +kernel
theorem d_234_14 : decode (am_b 234) 14 = .ok (.iload_n 2, 1) := by decide +kernel
theorem d_234_15 : decode (am_b 234) 15 = .ok (.if_icmp .ge 86, 3) := by decide +kernel
theorem d_234_18 : decode (am_b 234) 18 = .ok (.iload_n 2, 1) := by decide +kernel
theorem d_234_19 : decode (am_b 234) 19 = .ok (.iconst 1, 1) := by decide +kernel
theorem d_234_20 : decode (am_b 234) 20 = .ok (.isub, 1) := by decide +kernel
theorem d_234_21 : decode (am_b 234) 21 = .ok (.iload 5, 2) := by decide +kernel
theorem d_234_23 : decode (am_b 234) 23 = .ok (.isub, 1) := by decide +kernel
theorem d_234_24 : decode (am_b 234) 24 = .ok (.invokestatic 270, 3) := by decide +kernel
theorem d_234_27 : decode (am_b 234) 27 = .ok (.istore 6, 2) := by decide +kernel
theorem d_234_29 : decode (am_b 234) 29 = .ok (.iload 4, 2) := by decide +kernel
theorem d_234_31 : decode (am_b 234) 31 = .ok (.iload 6, 2) := by decide +kernel
theorem d_234_33 : decode (am_b 234) 33 = .ok (.idiv, 1) := by decide +kernel
theorem d_234_34 : decode (am_b 234) 34 = .ok (.istore 7, 2) := by decide +kernel
theorem d_234_36 : decode (am_b 234) 36 = .ok (.iload 4, 2) := by decide +kernel
theorem d_234_38 : decode (am_b 234) 38 = .ok (.iload 6, 2) := by decide +kernel
theorem d_234_40 : decode (am_b 234) 40 = .ok (.irem, 1) := by decide +kernel
theorem d_234_41 : decode (am_b 234) 41 = .ok (.istore 4, 2) := by decide +kernel
theorem d_234_43 : decode (am_b 234) 43 = .ok (.iconst 0, 1) := by decide +kernel
theorem d_234_44 : decode (am_b 234) 44 = .ok (.istore 8, 2) := by decide +kernel
theorem d_234_46 : decode (am_b 234) 46 = .ok (.iload_n 3, 1) := by decide +kernel
theorem d_234_47 : decode (am_b 234) 47 = .ok (.iload 8, 2) := by decide +kernel
theorem d_234_49 : decode (am_b 234) 49 = .ok (.ishr, 1) := by decide +kernel
theorem d_234_50 : decode (am_b 234) 50 = .ok (.iconst 1, 1) := by decide +kernel
theorem d_234_51 : decode (am_b 234) 51 = .ok (.iand, 1) := by decide +kernel
theorem d_234_52 : decode (am_b 234) 52 = .ok (.ifCond .eq 8, 3) := by decide +kernel
theorem d_234_55 : decode (am_b 234) 55 = .ok (.iload 7, 2) := by decide +kernel
theorem d_234_57 : decode (am_b 234) 57 = .ok (.ifCond .le 20, 3) := by decide +kernel
theorem d_234_60 : decode (am_b 234) 60 = .ok (.iload 7, 2) := by decide +kernel
theorem d_234_62 : decode (am_b 234) 62 = .ok (.iload_n 3, 1) := by decide +kernel
theorem d_234_63 : decode (am_b 234) 63 = .ok (.iload 8, 2) := by decide +kernel
theorem d_234_65 : decode (am_b 234) 65 = .ok (.ishr, 1) := by decide +kernel
theorem d_234_66 : decode (am_b 234) 66 = .ok (.iconst 1, 1) := by decide +kernel
theorem d_234_67 : decode (am_b 234) 67 = .ok (.iand, 1) := by decide +kernel
theorem d_234_68 : decode (am_b 234) 68 = .ok (.isub, 1) := by decide +kernel
theorem d_234_69 : decode (am_b 234) 69 = .ok (.istore 7, 2) := by decide +kernel
theorem d_234_71 : decode (am_b 234) 71 = .ok (.iinc 8 1, 3) := by decide +kernel
theorem d_234_74 : decode (am_b 234) 74 = .ok (.goto (-28), 3) := by decide +kernel
theorem d_234_77 : decode (am_b 234) 77 = .ok (.aload_n 0, 1) := by decide +kernel
theorem d_234_78 : decode (am_b 234) 78 = .ok (.getfield 55, 3) := by decide +kernel
theorem d_234_81 : decode (am_b 234) 81 = .ok (.iload 5, 2) := by decide +kernel
theorem d_234_83 : decode (am_b 234) 83 = .ok (.iload 8, 2) := by decide +kernel
theorem d_234_85 : decode (am_b 234) 85 = .ok (.iastore, 1) := by decide +kernel
theorem d_234_86 : decode (am_b 234) 86 = .ok (.iload_n 3, 1) := by decide +kernel
theorem d_234_87 : decode (am_b 234) 87 = .ok (.iconst 1, 1) := by decide +kernel
theorem d_234_88 : decode (am_b 234) 88 = .ok (.iload 8, 2) := by decide +kernel
theorem d_234_90 : decode (am_b 234) 90 = .ok (.ishl, 1) := by decide +kernel
theorem d_234_91 : decode (am_b 234) 91 = .ok (.iconst (-1), 1) := by decide +kernel
theorem d_234_92 : decode (am_b 234) 92 = .ok (.ixor, 1) := by decide +kernel
theorem d_234_93 : decode (am_b 234) 93 = .ok (.iand, 1) := by decide +kernel
theorem d_234_94 : decode (am_b 234) 94 = .ok (.istore_n 3, 1) := by decide +kernel
theorem d_234_95 : decode (am_b 234) 95 = .ok (.iinc 5 1, 3) := by decide +kernel
theorem d_234_98 : decode (am_b 234) 98 = .ok (.goto (-86), 3) := by decide +kernel
theorem d_234_101 : decode (am_b 234) 101 = .ok (.return_, 1) := by decide +kernel
theorem d_235_0 : decode (am_b 235) 0 = .ok (.aload_n 0, 1) := by decide +kernel
theorem d_235_1 : decode (am_b 235) 1 = .ok (.aload_n 0, 1) := by decide +kernel
theorem d_235_2 : decode (am_b 235) 2 = .ok (.getfield 127, 3) := by decide +kernel
theorem d_235_5 : decode (am_b 235) 5 = .ok (.putfield 134, 3) := by decide +kernel
theorem d_235_8 : decode (am_b 235) 8 = .ok (.iconst 0, 1) := by decide +kernel
theorem d_235_9 : decode (am_b 235) 9 = .ok (.istore_n 1, 1) := by decide +kernel
theorem d_235_10 : decode (am_b 235) 10 = .ok (.iload_n 1, 1) := by decide +kernel
theorem d_235_11 : decode (am_b 235) 11 = .ok (.aload_n 0, 1) := by decide +kernel
theorem d_235_12 : decode (am_b 235) 12 = .ok (.getfield 127, 3) := by decide +kernel
theorem d_235_15 : decode (am_b 235) 15 = .ok (.if_icmp .ge 59, 3) := by decide +kernel
theorem d_235_18 : decode (am_b 235) 18 = .ok (.iconst 0, 1) := by decide +kernel
theorem d_235_19 : decode (am_b 235) 19 = .ok (.istore_n 2, 1) := by decide +kernel
theorem d_235_20 : decode (am_b 235) 20 = .ok (.iload_n 2, 1) := by decide +kernel
theorem d_235_21 : decode (am_b 235) 21 = .ok (.aload_n 0, 1) := by decide +kernel
theorem d_235_22 : decode (am_b 235) 22 = .ok (.getfield 127, 3) := by decide +kernel
theorem d_235_25 : decode (am_b 235) 25 = .ok (.if_icmp .ge 43, 3) := by decide +kernel
theorem d_235_28 : decode (am_b 235) 28 = .ok (.aload_n 0, 1) := by decide +kernel
theorem d_235_29 : decode (am_b 235) 29 = .ok (.getfield 26, 3) := by decide +kernel
theorem d_235_32 : decode (am_b 235) 32 = .ok (.aload_n 0, 1) := by decide +kernel
theorem d_235_33 : decode (am_b 235) 33 = .ok (.getfield 127, 3) := by decide +kernel
theorem d_235_36 : decode (am_b 235) 36 = .ok (.aload_n 0, 1) := by decide +kernel
theorem d_235_37 : decode (am_b 235) 37 = .ok (.getfield 55, 3) := by decide +kernel
theorem d_235_40 : decode (am_b 235) 40 = .ok (.iload_n 1, 1) := by decide +kernel
theorem d_235_41 : decode (am_b 235) 41 = .ok (.iaload, 1) := by decide +kernel
theorem d_235_42 : decode (am_b 235) 42 = .ok (.imul, 1) := by decide +kernel
theorem d_235_43 : decode (am_b 235) 43 = .ok (.aload_n 0, 1) := by decide +kernel
theorem d_235_44 : decode (am_b 235) 44 = .ok (.getfield 55, 3) := by decide +kernel
theorem d_235_47 : decode (am_b 235) 47 = .ok (.iload_n 2, 1) := by decide +kernel
theorem d_235_48 : decode (am_b 235) 48 = .ok (.iaload, 1) := by decide +kernel
theorem d_235_49 : decode (am_b 235) 49 = .ok (.iadd, 1) := by decide +kernel
theorem d_235_50 : decode (am_b 235) 50 = .ok (.aload_n 0, 1) := by decide +kernel
theorem d_235_51 : decode (am_b 235) 51 = .ok (.getfield 55, 3) := by decide +kernel
theorem d_235_54 : decode (am_b 235) 54 = .ok (.aload_n 0, 1) := by decide +kernel
theorem d_235_55 : decode (am_b 235) 55 = .ok (.iload_n 1, 1) := by decide +kernel
theorem d_235_56 : decode (am_b 235) 56 = .ok (.iload_n 2, 1) := by decide +kernel
theorem d_235_57 : decode (am_b 235) 57 = .ok (.invokevirtual 130, 3) := by decide +kernel
theorem d_235_60 : decode (am_b 235) 60 = .ok (.iaload, 1) := by decide +kernel
theorem d_235_61 : decode (am_b 235) 61 = .ok (.iastore, 1) := by decide +kernel
theorem d_235_62 : decode (am_b 235) 62 = .ok (.iinc 2 1, 3) := by decide +kernel
theorem d_235_65 : decode (am_b 235) 65 = .ok (.goto (-45), 3) := by decide +kernel
theorem d_235_68 : decode (am_b 235) 68 = .ok (.iinc 1 1, 3) := by decide +kernel
theorem d_235_71 : decode (am_b 235) 71 = .ok (.goto (-61), 3) := by decide +kernel
theorem d_235_74 : decode (am_b 235) 74 = .ok (.return_, 1) := by decide +kernel
theorem d_236_0 : decode (am_b 236) 0 = .ok (.aload_n 0, 1) := by decide +kernel
theorem d_236_1 : decode (am_b 236) 1 = .ok (.iload_n 1, 1) := by decide +kernel
theorem d_236_2 : decode (am_b 236) 2 = .ok (.invokevirtual 124, 3) := by decide +kernel
theorem d_236_5 : decode (am_b 236) 5 = .ok (.ifCond .ne 10, 3) := by decide +kernel
theorem d_236_8 : decode (am_b 236) 8 = .ok (.aload_n 0, 1) := by decide +kernel
theorem d_236_9 : decode (am_b 236) 9 = .ok (.bipush (-2), 2) := by decide +kernel
theorem d_236_11 : decode (am_b 236) 11 = .ok (.invokevirtual 110, 3) := by decide +kernel
theorem d_236_14 : decode (am_b 236) 14 = .ok (.ireturn, 1) := by decide +kernel
theorem d_236_15 : decode (am_b 236) 15 = .ok (.aload_n 0, 1) := by decide +kernel
theorem d_236_16 : decode (am_b 236) 16 = .ok (.iload_n 1, 1) := by decide +kernel
theorem d_236_17 : decode (am_b 236) 17 = .ok (.invokevirtual 248, 3) := by decide +kernel
theorem d_236_20 : decode (am_b 236) 20 = .ok (.aload_n 0, 1) := by decide +kernel
theorem d_236_21 : decode (am_b 236) 21 = .ok (.iload_n 2, 1) := by decide +kernel
theorem d_236_22 : decode (am_b 236) 22 = .ok (.invokevirtual 260, 3) := by decide +kernel
theorem d_236_25 : decode (am_b 236) 25 = .ok (.ifCond .eq 25, 3) := by decide +kernel
theorem d_236_28 : decode (am_b 236) 28 = .ok (.aload_n 0, 1) := by decide +kernel
theorem d_236_29 : decode (am_b 236) 29 = .ok (.iload_n 3, 1) := by decide +kernel
theorem d_236_30 : decode (am_b 236) 30 = .ok (.invokevirtual 260, 3) := by decide +kernel
theorem d_236_33 : decode (am_b 236) 33 = .ok (.ifCond .eq 17, 3) := by decide +kernel
theorem d_236_36 : decode (am_b 236) 36 = .ok (.iload_n 2, 1) := by decide +kernel
theorem d_236_37 : decode (am_b 236) 37 = .ok (.iload_n 3, 1) := by decide +kernel
theorem d_236_38 : decode (am_b 236) 38 = .ok (.if_icmp .eq 12, 3) := by decide +kernel
theorem d_236_41 : decode (am_b 236) 41 = .ok (.aload_n 0, 1) := by decide +kernel
theorem d_236_42 : decode (am_b 236) 42 = .ok (.iload 4, 2) := by decide +kernel
theorem d_236_44 : decode (am_b 236) 44 = .ok (.invokevirtual 260, 3) := by decide +kernel
theorem d_236_47 : decode (am_b 236) 47 = .ok (.ifCond .ne 9, 3) := by decide +kernel
theorem d_236_50 : decode (am_b 236) 50 = .ok (.aload_n 0, 1) := by decide +kernel
theorem d_236_51 : decode (am_b 236) 51 = .ok (.iconst (-1), 1) := by decide +kernel
theorem d_236_52 : decode (am_b 236) 52 = .ok (.invokevirtual 110, 3) := by decide +kernel
theorem d_236_55 : decode (am_b 236) 55 = .ok (.ireturn, 1) := by decide +kernel
theorem d_236_56 : decode (am_b 236) 56 = .ok (.aload_n 0, 1) := by decide +kernel
theorem d_236_57 : decode (am_b 236) 57 = .ok (.iload_n 2, 1) := by decide +kernel
theorem d_236_58 : decode (am_b 236) 58 = .ok (.iload_n 3, 1) := by decide +kernel
theorem d_236_59 : decode (am_b 236) 59 = .ok (.iload 4, 2) := by decide +kernel
theorem d_236_61 : decode (am_b 236) 61 = .ok (.invokevirtual 279, 3) := by decide +kernel
theorem d_236_64 : decode (am_b 236) 64 = .ok (.istore 5, 2) := by decide +kernel
theorem d_236_66 : decode (am_b 236) 66 = .ok (.aload_n 0, 1) := by decide +kernel
theorem d_236_67 : decode (am_b 236) 67 = .ok (.aload_n 0, 1) := by decide +kernel
theorem d_236_68 : decode (am_b 236) 68 = .ok (.getfield 127, 3) := by decide +kernel
theorem d_236_71 : decode (am_b 236) 71 = .ok (.putfield 134, 3) := by decide +kernel
theorem d_236_74 : decode (am_b 236) 74 = .ok (.iconst 0, 1) := by decide +kernel
theorem d_236_75 : decode (am_b 236) 75 = .ok (.istore 6, 2) := by decide +kernel
theorem d_236_77 : decode (am_b 236) 77 = .ok (.iload 6, 2) := by decide +kernel
theorem d_236_79 : decode (am_b 236) 79 = .ok (.aload_n 0, 1) := by decide +kernel
theorem d_236_80 : decode (am_b 236) 80 = .ok (.getfield 127, 3) := by decide +kernel
theorem d_236_83 : decode (am_b 236) 83 = .ok (.aload_n 0, 1) := by decide +kernel
theorem d_236_84 : decode (am_b 236) 84 = .ok (.getfield 127, 3) := by decide +kernel
theorem d_236_87 : decode (am_b 236) 87 = .ok (.imul, 1) := by decide +kernel
theorem d_236_88 : decode (am_b 236) 88 = .ok (.if_icmp .ge 23, 3) := by decide +kernel
theorem d_236_91 : decode (am_b 236) 91 = .ok (.aload_n 0, 1) := by decide +kernel
theorem d_236_92 : decode (am_b 236) 92 = .ok (.getfield 26, 3) := by decide +kernel
theorem d_236_95 : decode (am_b 236) 95 = .ok (.iload 6, 2) := by decide +kernel
theorem d_236_97 : decode (am_b 236) 97 = .ok (.aload_n 0, 1) := by decide +kernel
theorem d_236_98 : decode (am_b 236) 98 = .ok (.getfield 23, 3) := by decide +kernel
theorem d_236_101 : decode (am_b 236) 101 = .ok (.iload 6, 2) := by decide +kernel
theorem d_236_103 : decode (am_b 236) 103 = .ok (.iaload, 1) := by decide +kernel
theorem d_236_104 : decode (am_b 236) 104 = .ok (.iastore, 1) := by decide +kernel
theorem d_236_105 : decode (am_b 236) 105 = .ok (.iinc 6 1, 3) := by decide +kernel
theorem d_236_108 : decode (am_b 236) 108 = .ok (.goto (-31), 3) := by decide +kernel
theorem d_236_111 : decode (am_b 236) 111 = .ok (.aload_n 0, 1) := by decide +kernel
theorem d_236_112 : decode (am_b 236) 112 = .ok (.iload_n 1, 1) := by decide +kernel
theorem d_236_113 : decode (am_b 236) 113 = .ok (.invokevirtual 257, 3) := by decide +kernel
theorem d_236_116 : decode (am_b 236) 116 = .ok (.aload_n 0, 1) := by decide +kernel
theorem d_236_117 : decode (am_b 236) 117 = .ok (.iload 5, 2) := by decide +kernel
theorem d_236_119 : decode (am_b 236) 119 = .ok (.invokevirtual 114, 3) := by decide +kernel
theorem d_236_122 : decode (am_b 236) 122 = .ok (.ireturn, 1) := by decide +kernel
theorem d_237_0 : decode (am_b 237) 0 = .ok (.iload_n 3, 1) := by decide +kernel
theorem d_237_1 : decode (am_b 237) 1 = .ok (.istore 4, 2) := by decide +kernel
theorem d_237_3 : decode (am_b 237) 3 = .ok (.iconst 0, 1) := by decide +kernel
theorem d_237_4 : decode (am_b 237) 4 = .ok (.istore 5, 2) := by decide +kernel
theorem d_237_6 : decode (am_b 237) 6 = .ok (.iconst 1, 1) := by decide +kernel
theorem d_237_7 : decode (am_b 237) 7 = .ok (.istore 6, 2) := by decide +kernel
theorem d_237_9 : decode (am_b 237) 9 = .ok (.iload 6, 2) := by decide +kernel
theorem d_237_11 : decode (am_b 237) 11 = .ok (.ifCond .eq 103, 3) := by decide +kernel
theorem d_237_14 : decode (am_b 237) 14 = .ok (.aload_n 0, 1) := by decide +kernel
theorem d_237_15 : decode (am_b 237) 15 = .ok (.iload_n 1, 1) := by decide +kernel
theorem d_237_16 : decode (am_b 237) 16 = .ok (.iload 4, 2) := by decide +kernel
theorem d_237_18 : decode (am_b 237) 18 = .ok (.invokevirtual 130, 3) := by decide +kernel
theorem d_237_21 : decode (am_b 237) 21 = .ok (.istore 7, 2) := by decide +kernel
theorem d_237_23 : decode (am_b 237) 23 = .ok (.aload_n 0, 1) := by decide +kernel
theorem d_237_24 : decode (am_b 237) 24 = .ok (.iload_n 2, 1) := by decide +kernel
theorem d_237_25 : decode (am_b 237) 25 = .ok (.iload 4, 2) := by decide +kernel
theorem d_237_27 : decode (am_b 237) 27 = .ok (.invokevirtual 130, 3) := by decide +kernel
theorem d_237_30 : decode (am_b 237) 30 = .ok (.istore 8, 2) := by decide +kernel
theorem d_237_32 : decode (am_b 237) 32 = .ok (.aload_n 0, 1) := by decide +kernel
theorem d_237_33 : decode (am_b 237) 33 = .ok (.getfield 23, 3) := by decide +kernel
theorem d_237_36 : decode (am_b 237) 36 = .ok (.aload_n 0, 1) := by decide +kernel
theorem d_237_37 : decode (am_b 237) 37 = .ok (.getfield 127, 3) := by decide +kernel
theorem d_237_40 : decode (am_b 237) 40 = .ok (.iload_n 1, 1) := by decide +kernel
theorem d_237_41 : decode (am_b 237) 41 = .ok (.imul, 1) := by decide +kernel
theorem d_237_42 : decode (am_b 237) 42 = .ok (.iload 4, 2) := by decide +kernel
theorem d_237_44 : decode (am_b 237) 44 = .ok (.iadd, 1) := by decide +kernel
theorem d_237_45 : decode (am_b 237) 45 = .ok (.iload 8, 2) := by decide +kernel
theorem d_237_47 : decode (am_b 237) 47 = .ok (.iastore, 1) := by decide +kernel
theorem d_237_48 : decode (am_b 237) 48 = .ok (.aload_n 0, 1) := by decide +kernel
theorem d_237_49 : decode (am_b 237) 49 = .ok (.getfield 23, 3) := by decide +kernel
theorem d_237_52 : decode (am_b 237) 52 = .ok (.aload_n 0, 1) := by decide +kernel
theorem d_237_53 : decode (am_b 237) 53 = .ok (.getfield 127, 3) := by decide +kernel
theorem d_237_56 : decode (am_b 237) 56 = .ok (.iload_n 2, 1) := by decide +kernel
theorem d_237_57 : decode (am_b 237) 57 = .ok (.imul, 1) := by decide +kernel
theorem d_237_58 : decode (am_b 237) 58 = .ok (.iload 4, 2) := by decide +kernel
theorem d_237_60 : decode (am_b 237) 60 = .ok (.iadd, 1) := by decide +kernel
theorem d_237_61 : decode (am_b 237) 61 = .ok (.iload 7, 2) := by decide +kernel
theorem d_237_63 : decode (am_b 237) 63 = .ok (.iastore, 1) := by decide +kernel
theorem d_237_64 : decode (am_b 237) 64 = .ok (.iinc 5 1, 3) := by decide +kernel
theorem d_237_67 : decode (am_b 237) 67 = .ok (.iconst 0, 1) := by decide +kernel
theorem d_237_68 : decode (am_b 237) 68 = .ok (.istore 9, 2) := by decide +kernel
theorem d_237_70 : decode (am_b 237) 70 = .ok (.iload 9, 2) := by decide +kernel
theorem d_237_72 : decode (am_b 237) 72 = .ok (.iload 4, 2) := by decide +kernel
theorem d_237_74 : decode (am_b 237) 74 = .ok (.if_icmp .eq 15, 3) := by decide +kernel
theorem d_237_77 : decode (am_b 237) 77 = .ok (.aload_n 0, 1) := by decide +kernel
theorem d_237_78 : decode (am_b 237) 78 = .ok (.iload_n 1, 1) := by decide +kernel
theorem d_237_79 : decode (am_b 237) 79 = .ok (.iload 9, 2) := by decide +kernel
theorem d_237_81 : decode (am_b 237) 81 = .ok (.invokevirtual 130, 3) := by decide +kernel
theorem d_237_84 : decode (am_b 237) 84 = .ok (.iload 8, 2) := by decide +kernel
theorem d_237_86 : decode (am_b 237) 86 = .ok (.if_icmp .eq 21, 3) := by decide +kernel
theorem d_237_89 : decode (am_b 237) 89 = .ok (.iinc 9 1, 3) := by decide +kernel
theorem d_237_92 : decode (am_b 237) 92 = .ok (.iload 9, 2) := by decide +kernel
theorem d_237_94 : decode (am_b 237) 94 = .ok (.aload_n 0, 1) := by decide +kernel
theorem d_237_95 : decode (am_b 237) 95 = .ok (.getfield 127, 3) := by decide +kernel
theorem d_237_98 : decode (am_b 237) 98 = .ok (.if_icmp .ne (-28), 3) := by decide +kernel
theorem d_237_101 : decode (am_b 237) 101 = .ok (.iconst 0, 1) := by decide +kernel
theorem d_237_102 : decode (am_b 237) 102 = .ok (.istore 6, 2) := by decide +kernel
theorem d_237_104 : decode (am_b 237) 104 = .ok (.goto 3, 3) := by decide +kernel
theorem d_237_107 : decode (am_b 237) 107 = .ok (.iload 9, 2) := by decide +kernel
theorem d_237_109 : decode (am_b 237) 109 = .ok (.istore 4, 2) := by decide +kernel
theorem d_237_111 : decode (am_b 237) 111 = .ok (.goto (-102), 3) := by decide +kernel
theorem d_237_114 : decode (am_b 237) 114 = .ok (.iload 5, 2) := by decide +kernel
theorem d_237_116 : decode (am_b 237) 116 = .ok (.ireturn, 1) := by decide +kernel
theorem d_238_0 : decode (am_b 238) 0 = .ok (.iload_n 1, 1) := by decide +kernel
theorem d_238_1 : decode (am_b 238) 1 = .ok (.invokestatic 117, 3) := by decide +kernel
theorem d_238_4 : decode (am_b 238) 4 = .ok (.ifCond .ne 9, 3) := by decide +kernel
theorem d_238_7 : decode (am_b 238) 7 = .ok (.aload_n 0, 1) := by decide +kernel
theorem d_238_8 : decode (am_b 238) 8 = .ok (.iconst (-1), 1) := by decide +kernel
theorem d_238_9 : decode (am_b 238) 9 = .ok (.invokevirtual 110, 3) := by decide +kernel
theorem d_238_12 : decode (am_b 238) 12 = .ok (.ireturn, 1) := by decide +kernel
theorem d_238_13 : decode (am_b 238) 13 = .ok (.aload_n 0, 1) := by decide +kernel
theorem d_238_14 : decode (am_b 238) 14 = .ok (.iload_n 2, 1) := by decide +kernel
theorem d_238_15 : decode (am_b 238) 15 = .ok (.invokevirtual 124, 3) := by decide +kernel
theorem d_238_18 : decode (am_b 238) 18 = .ok (.ifCond .eq 11, 3) := by decide +kernel
theorem d_238_21 : decode (am_b 238) 21 = .ok (.aload_n 0, 1) := by decide +kernel
theorem d_238_22 : decode (am_b 238) 22 = .ok (.iload_n 3, 1) := by decide +kernel
theorem d_238_23 : decode (am_b 238) 23 = .ok (.invokevirtual 124, 3) := by decide +kernel
theorem d_238_26 : decode (am_b 238) 26 = .ok (.ifCond .ne 10, 3) := by decide +kernel
theorem d_238_29 : decode (am_b 238) 29 = .ok (.aload_n 0, 1) := by decide +kernel
theorem d_238_30 : decode (am_b 238) 30 = .ok (.bipush (-2), 2) := by decide +kernel
theorem d_238_32 : decode (am_b 238) 32 = .ok (.invokevirtual 110, 3) := by decide +kernel
theorem d_238_35 : decode (am_b 238) 35 = .ok (.ireturn, 1) := by decide +kernel
theorem d_238_36 : decode (am_b 238) 36 = .ok (.aload_n 0, 1) := by decide +kernel
theorem d_238_37 : decode (am_b 238) 37 = .ok (.iload_n 2, 1) := by decide +kernel
theorem d_238_38 : decode (am_b 238) 38 = .ok (.invokevirtual 121, 3) := by decide +kernel
theorem d_238_41 : decode (am_b 238) 41 = .ok (.istore 4, 2) := by decide +kernel
theorem d_238_43 : decode (am_b 238) 43 = .ok (.aload_n 0, 1) := by decide +kernel
theorem d_238_44 : decode (am_b 238) 44 = .ok (.iload_n 3, 1) := by decide +kernel
theorem d_238_45 : decode (am_b 238) 45 = .ok (.invokevirtual 121, 3) := by decide +kernel
theorem d_238_48 : decode (am_b 238) 48 = .ok (.istore 5, 2) := by decide +kernel
theorem d_238_50 : decode (am_b 238) 50 = .ok (.iload 4, 2) := by decide +kernel
theorem d_238_52 : decode (am_b 238) 52 = .ok (.iload 5, 2) := by decide +kernel
theorem d_238_54 : decode (am_b 238) 54 = .ok (.imul, 1) := by decide +kernel
theorem d_238_55 : decode (am_b 238) 55 = .ok (.bipush 6, 2) := by decide +kernel
theorem d_238_57 : decode (am_b 238) 57 = .ok (.if_icmp .le 10, 3) := by decide +kernel
theorem d_238_60 : decode (am_b 238) 60 = .ok (.aload_n 0, 1) := by decide +kernel
theorem d_238_61 : decode (am_b 238) 61 = .ok (.bipush (-3), 2) := by decide +kernel
theorem d_238_63 : decode (am_b 238) 63 = .ok (.invokevirtual 110, 3) := by decide +kernel
theorem d_238_66 : decode (am_b 238) 66 = .ok (.ireturn, 1) := by decide +kernel
theorem d_238_67 : decode (am_b 238) 67 = .ok (.aload_n 0, 1) := by decide +kernel
theorem d_238_68 : decode (am_b 238) 68 = .ok (.iload 4, 2) := by decide +kernel
theorem d_238_70 : decode (am_b 238) 70 = .ok (.iload 5, 2) := by decide +kernel
theorem d_238_72 : decode (am_b 238) 72 = .ok (.imul, 1) := by decide +kernel
theorem d_238_73 : decode (am_b 238) 73 = .ok (.putfield 134, 3) := by decide +kernel
theorem d_238_76 : decode (am_b 238) 76 = .ok (.iconst 0, 1) := by decide +kernel
theorem d_238_77 : decode (am_b 238) 77 = .ok (.istore 6, 2) := by decide +kernel
theorem d_238_79 : decode (am_b 238) 79 = .ok (.iload 6, 2) := by decide +kernel
theorem d_238_81 : decode (am_b 238) 81 = .ok (.aload_n 0, 1) := by decide +kernel
theorem d_238_82 : decode (am_b 238) 82 = .ok (.getfield 134, 3) := by decide +kernel
theorem d_238_85 : decode (am_b 238) 85 = .ok (.if_icmp .ge 98, 3) := by decide +kernel
theorem d_238_88 : decode (am_b 238) 88 = .ok (.iconst 0, 1) := by decide +kernel
theorem d_238_89 : decode (am_b 238) 89 = .ok (.istore 7, 2) := by decide +kernel
theorem d_238_91 : decode (am_b 238) 91 = .ok (.iload 7, 2) := by decide +kernel
theorem d_238_93 : decode (am_b 238) 93 = .ok (.aload_n 0, 1) := by decide +kernel
theorem d_238_94 : decode (am_b 238) 94 = .ok (.getfield 134, 3) := by decide +kernel
theorem d_238_97 : decode (am_b 238) 97 = .ok (.if_icmp .ge 80, 3) := by decide +kernel
theorem d_238_100 : decode (am_b 238) 100 = .ok (.aload_n 0, 1) := by decide +kernel
theorem d_238_101 : decode (am_b 238) 101 = .ok (.getfield 26, 3) := by decide +kernel
theorem d_238_104 : decode (am_b 238) 104 = .ok (.aload_n 0, 1) := by decide +kernel
theorem d_238_105 : decode (am_b 238) 105 = .ok (.getfield 134, 3) := by decide +kernel
theorem d_238_108 : decode (am_b 238) 108 = .ok (.iload 6, 2) := by decide +kernel
theorem d_238_110 : decode (am_b 238) 110 = .ok (.imul, 1) := by decide +kernel
theorem d_238_111 : decode (am_b 238) 111 = .ok (.iload 7, 2) := by decide +kernel
theorem d_238_113 : decode (am_b 238) 113 = .ok (.iadd, 1) := by decide +kernel
theorem d_238_114 : decode (am_b 238) 114 = .ok (.iload 5, 2) := by decide +kernel
theorem d_238_116 : decode (am_b 238) 116 = .ok (.aload_n 0, 1) := by decide +kernel
theorem d_238_117 : decode (am_b 238) 117 = .ok (.getfield 13, 3) := by decide +kernel
theorem d_238_120 : decode (am_b 238) 120 = .ok (.bipush 37, 2) := by decide +kernel
theorem d_238_122 : decode (am_b 238) 122 = .ok (.iload_n 2, 1) := by decide +kernel
theorem d_238_123 : decode (am_b 238) 123 = .ok (.imul, 1) := by decide +kernel
theorem d_238_124 : decode (am_b 238) 124 = .ok (.iconst 1, 1) := by decide +kernel
theorem d_238_125 : decode (am_b 238) 125 = .ok (.iadd, 1) := by decide +kernel
theorem d_238_126 : decode (am_b 238) 126 = .ok (.iload 4, 2) := by decide +kernel
theorem d_238_128 : decode (am_b 238) 128 = .ok (.iload 6, 2) := by decide +kernel
theorem d_238_130 : decode (am_b 238) 130 = .ok (.iload 5, 2) := by decide +kernel
theorem d_238_132 : decode (am_b 238) 132 = .ok (.idiv, 1) := by decide +kernel
theorem d_238_133 : decode (am_b 238) 133 = .ok (.imul, 1) := by decide +kernel
theorem d_238_134 : decode (am_b 238) 134 = .ok (.iadd, 1) := by decide +kernel
theorem d_238_135 : decode (am_b 238) 135 = .ok (.iload 7, 2) := by decide +kernel
theorem d_238_137 : decode (am_b 238) 137 = .ok (.iload 5, 2) := by decide +kernel
theorem d_238_139 : decode (am_b 238) 139 = .ok (.idiv, 1) := by decide +kernel
theorem d_238_140 : decode (am_b 238) 140 = .ok (.iadd, 1) := by decide +kernel
theorem d_238_141 : decode (am_b 238) 141 = .ok (.iaload, 1) := by decide +kernel
theorem d_238_142 : decode (am_b 238) 142 = .ok (.imul, 1) := by decide +kernel
theorem d_238_143 : decode (am_b 238) 143 = .ok (.aload_n 0, 1) := by decide +kernel
theorem d_238_144 : decode (am_b 238) 144 = .ok (.getfield 13, 3) := by decide +kernel
theorem d_238_147 : decode (am_b 238) 147 = .ok (.bipush 37, 2) := by decide +kernel
theorem d_238_149 : decode (am_b 238) 149 = .ok (.iload_n 3, 1) := by decide +kernel
theorem d_238_150 : decode (am_b 238) 150 = .ok (.imul, 1) := by decide +kernel
theorem d_238_151 : decode (am_b 238) 151 = .ok (.iconst 1, 1) := by decide +kernel
theorem d_238_152 : decode (am_b 238) 152 = .ok (.iadd, 1) := by decide +kernel
theorem d_238_153 : decode (am_b 238) 153 = .ok (.iload 5, 2) := by decide +kernel
theorem d_238_155 : decode (am_b 238) 155 = .ok (.iload 6, 2) := by decide +kernel
theorem d_238_157 : decode (am_b 238) 157 = .ok (.iload 5, 2) := by decide +kernel
theorem d_238_159 : decode (am_b 238) 159 = .ok (.irem, 1) := by decide +kernel
theorem d_238_160 : decode (am_b 238) 160 = .ok (.imul, 1) := by decide +kernel
theorem d_238_161 : decode (am_b 238) 161 = .ok (.iadd, 1) := by decide +kernel
theorem d_238_162 : decode (am_b 238) 162 = .ok (.iload 7, 2) := by decide +kernel
theorem d_238_164 : decode (am_b 238) 164 = .ok (.iload 5, 2) := by decide +kernel
theorem d_238_166 : decode (am_b 238) 166 = .ok (.irem, 1) := by decide +kernel
theorem d_238_167 : decode (am_b 238) 167 = .ok (.iadd, 1) := by decide +kernel
theorem d_238_168 : decode (am_b 238) 168 = .ok (.iaload, 1) := by decide +kernel
theorem d_238_169 : decode (am_b 238) 169 = .ok (.iadd, 1) := by decide +kernel
theorem d_238_170 : decode (am_b 238) 170 = .ok (.iastore, 1) := by decide +kernel
theorem d_238_171 : decode (am_b 238) 171 = .ok (.iinc 7 1, 3) := by decide +kernel
theorem d_238_174 : decode (am_b 238) 174 = .ok (.goto (-83), 3) := by decide +kernel
theorem d_238_177 : decode (am_b 238) 177 = .ok (.iinc 6 1, 3) := by decide +kernel
theorem d_238_180 : decode (am_b 238) 180 = .ok (.goto (-101), 3) := by decide +kernel
theorem d_238_183 : decode (am_b 238) 183 = .ok (.aload_n 0, 1) := by decide +kernel
theorem d_238_184 : decode (am_b 238) 184 = .ok (.iload_n 1, 1) := by decide +kernel
theorem d_238_185 : decode (am_b 238) 185 = .ok (.invokevirtual 257, 3) := by decide +kernel
theorem d_238_188 : decode (am_b 238) 188 = .ok (.aload_n 0, 1) := by decide +kernel
theorem d_238_189 : decode (am_b 238) 189 = .ok (.aload_n 0, 1) := by decide +kernel
theorem d_238_190 : decode (am_b 238) 190 = .ok (.getfield 134, 3) := by decide +kernel
theorem d_238_193 : decode (am_b 238) 193 = .ok (.invokevirtual 114, 3) := by decide +kernel
theorem d_238_196 : decode (am_b 238) 196 = .ok (.ireturn, 1) := by decide +kernel
theorem d_239_0 : decode (am_b 239) 0 = .ok (.iload_n 1, 1) := by decide +kernel
theorem d_239_1 : decode (am_b 239) 1 = .ok (.invokestatic 117, 3) := by decide +kernel
theorem d_239_4 : decode (am_b 239) 4 = .ok (.ifCond .eq 14, 3) := by decide +kernel
theorem d_239_7 : decode (am_b 239) 7 = .ok (.iload_n 3, 1) := by decide +kernel
theorem d_239_8 : decode (am_b 239) 8 = .ok (.iconst 0, 1) := by decide +kernel
theorem d_239_9 : decode (am_b 239) 9 = .ok (.sipush 511, 3) := by decide +kernel
theorem d_239_12 : decode (am_b 239) 12 = .ok (.invokestatic 106, 3) := by decide +kernel
theorem d_239_15 : decode (am_b 239) 15 = .ok (.ifCond .ne 9, 3) := by decide +kernel
theorem d_239_18 : decode (am_b 239) 18 = .ok (.aload_n 0, 1) := by decide +kernel
theorem d_239_19 : decode (am_b 239) 19 = .ok (.iconst (-1), 1) := by decide +kernel
theorem d_239_20 : decode (am_b 239) 20 = .ok (.invokevirtual 110, 3) := by decide +kernel
theorem d_239_23 : decode (am_b 239) 23 = .ok (.ireturn, 1) := by decide +kernel
theorem d_239_24 : decode (am_b 239) 24 = .ok (.aload_n 0, 1) := by decide +kernel
theorem d_239_25 : decode (am_b 239) 25 = .ok (.iload_n 2, 1) := by decide +kernel
theorem d_239_26 : decode (am_b 239) 26 = .ok (.invokevirtual 124, 3) := by decide +kernel
theorem d_239_29 : decode (am_b 239) 29 = .ok (.ifCond .ne 10, 3) := by decide +kernel
theorem d_239_32 : decode (am_b 239) 32 = .ok (.aload_n 0, 1) := by decide +kernel
theorem d_239_33 : decode (am_b 239) 33 = .ok (.bipush (-2), 2) := by decide +kernel
theorem d_239_35 : decode (am_b 239) 35 = .ok (.invokevirtual 110, 3) := by decide +kernel
theorem d_239_38 : decode (am_b 239) 38 = .ok (.ireturn, 1) := by decide +kernel
theorem d_239_39 : decode (am_b 239) 39 = .ok (.aload_n 0, 1) := by decide +kernel
theorem d_239_40 : decode (am_b 239) 40 = .ok (.iload_n 2, 1) := by decide +kernel
theorem d_239_41 : decode (am_b 239) 41 = .ok (.invokevirtual 248, 3) := by decide +kernel
theorem d_239_44 : decode (am_b 239) 44 = .ok (.aload_n 0, 1) := by decide +kernel
theorem d_239_45 : decode (am_b 239) 45 = .ok (.getfield 127, 3) := by decide +kernel
theorem d_239_48 : decode (am_b 239) 48 = .ok (.iconst 3, 1) := by decide +kernel
theorem d_239_49 : decode (am_b 239) 49 = .ok (.if_icmp .le 10, 3) := by decide +kernel
theorem d_239_52 : decode (am_b 239) 52 = .ok (.aload_n 0, 1) := by decide +kernel
theorem d_239_53 : decode (am_b 239) 53 = .ok (.bipush (-3), 2) := by decide +kernel
theorem d_239_55 : decode (am_b 239) 55 = .ok (.invokevirtual 110, 3) := by decide +kernel
theorem d_239_58 : decode (am_b 239) 58 = .ok (.ireturn, 1) := by decide +kernel
theorem d_239_59 : decode (am_b 239) 59 = .ok (.aload_n 0, 1) := by decide +kernel
theorem d_239_60 : decode (am_b 239) 60 = .ok (.iconst 2, 1) := by decide +kernel
theorem d_239_61 : decode (am_b 239) 61 = .ok (.aload_n 0, 1) := by decide +kernel
theorem d_239_62 : decode (am_b 239) 62 = .ok (.getfield 127, 3) := by decide +kernel
theorem d_239_65 : decode (am_b 239) 65 = .ok (.imul, 1) := by decide +kernel
theorem d_239_66 : decode (am_b 239) 66 = .ok (.putfield 134, 3) := by decide +kernel
theorem d_239_69 : decode (am_b 239) 69 = .ok (.iconst 0, 1) := by decide +kernel
theorem d_239_70 : decode (am_b 239) 70 = .ok (.istore 4, 2) := by decide +kernel
theorem d_239_72 : decode (am_b 239) 72 = .ok (.iload 4, 2) := by decide +kernel
theorem d_239_74 : decode (am_b 239) 74 = .ok (.aload_n 0, 1) := by decide +kernel
theorem d_239_75 : decode (am_b 239) 75 = .ok (.getfield 134, 3) := by decide +kernel
theorem d_239_78 : decode (am_b 239) 78 = .ok (.if_icmp .ge 87, 3) := by decide +kernel
theorem d_239_81 : decode (am_b 239) 81 = .ok (.iconst 0, 1) := by decide +kernel
theorem d_239_82 : decode (am_b 239) 82 = .ok (.istore 5, 2) := by decide +kernel
theorem d_239_84 : decode (am_b 239) 84 = .ok (.iload 5, 2) := by decide +kernel
theorem d_239_86 : decode (am_b 239) 86 = .ok (.aload_n 0, 1) := by decide +kernel
theorem d_239_87 : decode (am_b 239) 87 = .ok (.getfield 134, 3) := by decide +kernel
theorem d_239_90 : decode (am_b 239) 90 = .ok (.if_icmp .ge 69, 3) := by decide +kernel
theorem d_239_93 : decode (am_b 239) 93 = .ok (.aload_n 0, 1) := by decide +kernel
theorem d_239_94 : decode (am_b 239) 94 = .ok (.getfield 26, 3) := by decide +kernel
theorem d_239_97 : decode (am_b 239) 97 = .ok (.aload_n 0, 1) := by decide +kernel
theorem d_239_98 : decode (am_b 239) 98 = .ok (.getfield 134, 3) := by decide +kernel
theorem d_239_101 : decode (am_b 239) 101 = .ok (.iload 4, 2) := by decide +kernel
theorem d_239_103 : decode (am_b 239) 103 = .ok (.imul, 1) := by decide +kernel
theorem d_239_104 : decode (am_b 239) 104 = .ok (.iload 5, 2) := by decide +kernel
theorem d_239_106 : decode (am_b 239) 106 = .ok (.iadd, 1) := by decide +kernel
theorem d_239_107 : decode (am_b 239) 107 = .ok (.iconst 2, 1) := by decide +kernel
theorem d_239_108 : decode (am_b 239) 108 = .ok (.aload_n 0, 1) := by decide +kernel
theorem d_239_109 : decode (am_b 239) 109 = .ok (.iload 4, 2) := by decide +kernel
theorem d_239_111 : decode (am_b 239) 111 = .ok (.iconst 2, 1) := by decide +kernel
theorem d_239_112 : decode (am_b 239) 112 = .ok (.idiv, 1) := by decide +kernel
theorem d_239_113 : decode (am_b 239) 113 = .ok (.iload 5, 2) := by decide +kernel
theorem d_239_115 : decode (am_b 239) 115 = .ok (.iconst 2, 1) := by decide +kernel
theorem d_239_116 : decode (am_b 239) 116 = .ok (.idiv, 1) := by decide +kernel
theorem d_239_117 : decode (am_b 239) 117 = .ok (.invokevirtual 130, 3) := by decide +kernel
theorem d_239_120 : decode (am_b 239) 120 = .ok (.imul, 1) := by decide +kernel
theorem d_239_121 : decode (am_b 239) 121 = .ok (.iload 4, 2) := by decide +kernel
theorem d_239_123 : decode (am_b 239) 123 = .ok (.iconst 2, 1) := by decide +kernel
theorem d_239_124 : decode (am_b 239) 124 = .ok (.irem, 1) := by decide +kernel
theorem d_239_125 : decode (am_b 239) 125 = .ok (.iload 5, 2) := by decide +kernel
theorem d_239_127 : decode (am_b 239) 127 = .ok (.iconst 2, 1) := by decide +kernel
theorem d_239_128 : decode (am_b 239) 128 = .ok (.irem, 1) := by decide +kernel
theorem d_239_129 : decode (am_b 239) 129 = .ok (.iadd, 1) := by decide +kernel
theorem d_239_130 : decode (am_b 239) 130 = .ok (.iload_n 3, 1) := by decide +kernel
theorem d_239_131 : decode (am_b 239) 131 = .ok (.aload_n 0, 1) := by decide +kernel
theorem d_239_132 : decode (am_b 239) 132 = .ok (.getfield 127, 3) := by decide +kernel
theorem d_239_135 : decode (am_b 239) 135 = .ok (.iload 4, 2) := by decide +kernel
theorem d_239_137 : decode (am_b 239) 137 = .ok (.iconst 2, 1) := by decide +kernel
theorem d_239_138 : decode (am_b 239) 138 = .ok (.idiv, 1) := by decide +kernel
theorem d_239_139 : decode (am_b 239) 139 = .ok (.imul, 1) := by decide +kernel
theorem d_239_140 : decode (am_b 239) 140 = .ok (.iload 5, 2) := by decide +kernel
theorem d_239_142 : decode (am_b 239) 142 = .ok (.iconst 2, 1) := by decide +kernel
theorem d_239_143 : decode (am_b 239) 143 = .ok (.idiv, 1) := by decide +kernel
theorem d_239_144 : decode (am_b 239) 144 = .ok (.iadd, 1) := by decide +kernel
theorem d_239_145 : decode (am_b 239) 145 = .ok (.ishr, 1) := by decide +kernel
theorem d_239_146 : decode (am_b 239) 146 = .ok (.iconst 1, 1) := by decide +kernel
theorem d_239_147 : decode (am_b 239) 147 = .ok (.iand, 1) := by decide +kernel
theorem d_239_148 : decode (am_b 239) 148 = .ok (.iadd, 1) := by decide +kernel
theorem d_239_149 : decode (am_b 239) 149 = .ok (.iconst 2, 1) := by decide +kernel
theorem d_239_150 : decode (am_b 239) 150 = .ok (.irem, 1) := by decide +kernel
theorem d_239_151 : decode (am_b 239) 151 = .ok (.iadd, 1) := by decide +kernel
theorem d_239_152 : decode (am_b 239) 152 = .ok (.iastore, 1) := by decide +kernel
theorem d_239_153 : decode (am_b 239) 153 = .ok (.iinc 5 1, 3) := by decide +kernel
theorem d_239_156 : decode (am_b 239) 156 = .ok (.goto (-72), 3) := by decide +kernel
theorem d_239_159 : decode (am_b 239) 159 = .ok (.iinc 4 1, 3) := by decide +kernel
theorem d_239_162 : decode (am_b 239) 162 = .ok (.goto (-90), 3) := by decide +kernel
theorem d_239_165 : decode (am_b 239) 165 = .ok (.aload_n 0, 1) := by decide +kernel
theorem d_239_166 : decode (am_b 239) 166 = .ok (.iload_n 1, 1) := by decide +kernel
theorem d_239_167 : decode (am_b 239) 167 = .ok (.invokevirtual 257, 3) := by decide +kernel
theorem d_239_170 : decode (am_b 239) 170 = .ok (.aload_n 0, 1) := by decide +kernel
theorem d_239_171 : decode (am_b 239) 171 = .ok (.aload_n 0, 1) := by decide +kernel
theorem d_239_172 : decode (am_b 239) 172 = .ok (.getfield 134, 3) := by decide +kernel
theorem d_239_175 : decode (am_b 239) 175 = .ok (.invokevirtual 114, 3) := by decide +kernel
theorem d_239_178 : decode (am_b 239) 178 = .ok (.ireturn, 1) := by decide +kernel
theorem d_240_0 : decode (am_b 240) 0 = .ok (.aload_n 0, 1) := by decide +kernel
theorem d_240_1 : decode (am_b 240) 1 = .ok (.iload_n 1, 1) := by decide +kernel
theorem d_240_2 : decode (am_b 240) 2 = .ok (.invokevirtual 124, 3) := by decide +kernel
theorem d_240_5 : decode (am_b 240) 5 = .ok (.ifCond .eq 12, 3) := by decide +kernel
theorem d_240_8 : decode (am_b 240) 8 = .ok (.iload_n 2, 1) := by decide +kernel
theorem d_240_9 : decode (am_b 240) 9 = .ok (.iconst 0, 1) := by decide +kernel
theorem d_240_10 : decode (am_b 240) 10 = .ok (.iconst 2, 1) := by decide +kernel
theorem d_240_11 : decode (am_b 240) 11 = .ok (.invokestatic 106, 3) := by decide +kernel
theorem d_240_14 : decode (am_b 240) 14 = .ok (.ifCond .ne 5, 3) := by decide +kernel
theorem d_240_17 : decode (am_b 240) 17 = .ok (.iconst (-1), 1) := by decide +kernel
theorem d_240_18 : decode (am_b 240) 18 = .ok (.ireturn, 1) := by decide +kernel
theorem d_240_19 : decode (am_b 240) 19 = .ok (.aload_n 0, 1) := by decide +kernel
theorem d_240_20 : decode (am_b 240) 20 = .ok (.iload_n 1, 1) := by decide +kernel
theorem d_240_21 : decode (am_b 240) 21 = .ok (.invokevirtual 248, 3) := by decide +kernel
theorem d_240_24 : decode (am_b 240) 24 = .ok (.aload_n 0, 1) := by decide +kernel
theorem d_240_25 : decode (am_b 240) 25 = .ok (.iload_n 3, 1) := by decide +kernel
theorem d_240_26 : decode (am_b 240) 26 = .ok (.invokevirtual 260, 3) := by decide +kernel
theorem d_240_29 : decode (am_b 240) 29 = .ok (.ifCond .eq 12, 3) := by decide +kernel
theorem d_240_32 : decode (am_b 240) 32 = .ok (.aload_n 0, 1) := by decide +kernel
theorem d_240_33 : decode (am_b 240) 33 = .ok (.iload 4, 2) := by decide +kernel
theorem d_240_35 : decode (am_b 240) 35 = .ok (.invokevirtual 260, 3) := by decide +kernel
theorem d_240_38 : decode (am_b 240) 38 = .ok (.ifCond .ne 5, 3) := by decide +kernel
theorem d_240_41 : decode (am_b 240) 41 = .ok (.iconst (-1), 1) := by decide +kernel
theorem d_240_42 : decode (am_b 240) 42 = .ok (.ireturn, 1) := by decide +kernel
theorem d_240_43 : decode (am_b 240) 43 = .ok (.iload_n 2, 1) := by decide +kernel
theorem d_240_44 : decode (am_b 240) 44 = .ok (.ifCond .ne 13, 3) := by decide +kernel
theorem d_240_47 : decode (am_b 240) 47 = .ok (.aload_n 0, 1) := by decide +kernel
theorem d_240_48 : decode (am_b 240) 48 = .ok (.iload_n 3, 1) := by decide +kernel
theorem d_240_49 : decode (am_b 240) 49 = .ok (.iload 4, 2) := by decide +kernel
theorem d_240_51 : decode (am_b 240) 51 = .ok (.invokevirtual 130, 3) := by decide +kernel
theorem d_240_54 : decode (am_b 240) 54 = .ok (.goto 25, 3) := by decide +kernel
theorem d_240_57 : decode (am_b 240) 57 = .ok (.iload_n 2, 1) := by decide +kernel
theorem d_240_58 : decode (am_b 240) 58 = .ok (.iconst 1, 1) := by decide +kernel
theorem d_240_59 : decode (am_b 240) 59 = .ok (.if_icmp .ne 13, 3) := by decide +kernel
theorem d_240_62 : decode (am_b 240) 62 = .ok (.aload_n 0, 1) := by decide +kernel
theorem d_240_63 : decode (am_b 240) 63 = .ok (.iload_n 3, 1) := by decide +kernel
theorem d_240_64 : decode (am_b 240) 64 = .ok (.iload 4, 2) := by decide +kernel
theorem d_240_66 : decode (am_b 240) 66 = .ok (.invokevirtual 211, 3) := by decide +kernel
theorem d_240_69 : decode (am_b 240) 69 = .ok (.goto 10, 3) := by decide +kernel
theorem d_240_72 : decode (am_b 240) 72 = .ok (.aload_n 0, 1) := by decide +kernel
theorem d_240_73 : decode (am_b 240) 73 = .ok (.iload_n 3, 1) := by decide +kernel
theorem d_240_74 : decode (am_b 240) 74 = .ok (.iload 4, 2) := by decide +kernel
theorem d_240_76 : decode (am_b 240) 76 = .ok (.invokevirtual 208, 3) := by decide +kernel
theorem d_240_79 : decode (am_b 240) 79 = .ok (.ireturn, 1) := by decide +kernel
theorem d_241_0 : decode (am_b 241) 0 = .ok (.aload_n 0, 1) := by decide +kernel
theorem d_241_1 : decode (am_b 241) 1 = .ok (.iload_n 1, 1) := by decide +kernel
theorem d_241_2 : decode (am_b 241) 2 = .ok (.invokevirtual 124, 3) := by decide +kernel
theorem d_241_5 : decode (am_b 241) 5 = .ok (.ifCond .eq 12, 3) := by decide +kernel
theorem d_241_8 : decode (am_b 241) 8 = .ok (.iload_n 2, 1) := by decide +kernel
theorem d_241_9 : decode (am_b 241) 9 = .ok (.iconst 0, 1) := by decide +kernel
theorem d_241_10 : decode (am_b 241) 10 = .ok (.iconst 2, 1) := by decide +kernel
theorem d_241_11 : decode (am_b 241) 11 = .ok (.invokestatic 106, 3) := by decide +kernel
theorem d_241_14 : decode (am_b 241) 14 = .ok (.ifCond .ne 5, 3) := by decide +kernel
theorem d_241_17 : decode (am_b 241) 17 = .ok (.iconst (-1), 1) := by decide +kernel
theorem d_241_18 : decode (am_b 241) 18 = .ok (.ireturn, 1) := by decide +kernel
theorem d_241_19 : decode (am_b 241) 19 = .ok (.aload_n 0, 1) := by decide +kernel
theorem d_241_20 : decode (am_b 241) 20 = .ok (.iload_n 1, 1) := by decide +kernel
theorem d_241_21 : decode (am_b 241) 21 = .ok (.invokevirtual 248, 3) := by decide +kernel
theorem d_241_24 : decode (am_b 241) 24 = .ok (.aload_n 0, 1) := by decide +kernel
theorem d_241_25 : decode (am_b 241) 25 = .ok (.iload_n 2, 1) := by decide +kernel
theorem d_241_26 : decode (am_b 241) 26 = .ok (.invokevirtual 223, 3) := by decide +kernel
theorem d_241_29 : decode (am_b 241) 29 = .ok (.ireturn, 1) := by decide +kernel
theorem d_242_0 : decode (am_b 242) 0 = .ok (.iload_n 1, 1) := by decide +kernel
theorem d_242_1 : decode (am_b 242) 1 = .ok (.invokestatic 117, 3) := by decide +kernel
theorem d_242_4 : decode (am_b 242) 4 = .ok (.ifCond .eq 13, 3) := by decide +kernel
theorem d_242_7 : decode (am_b 242) 7 = .ok (.iload_n 3, 1) := by decide +kernel
theorem d_242_8 : decode (am_b 242) 8 = .ok (.iconst 0, 1) := by decide +kernel
theorem d_242_9 : decode (am_b 242) 9 = .ok (.bipush 63, 2) := by decide +kernel
theorem d_242_11 : decode (am_b 242) 11 = .ok (.invokestatic 106, 3) := by decide +kernel
theorem d_242_14 : decode (am_b 242) 14 = .ok (.ifCond .ne 9, 3) := by decide +kernel
theorem d_242_17 : decode (am_b 242) 17 = .ok (.aload_n 0, 1) := by decide +kernel
theorem d_242_18 : decode (am_b 242) 18 = .ok (.iconst (-1), 1) := by decide +kernel
theorem d_242_19 : decode (am_b 242) 19 = .ok (.invokevirtual 110, 3) := by decide +kernel
theorem d_242_22 : decode (am_b 242) 22 = .ok (.ireturn, 1) := by decide +kernel
theorem d_242_23 : decode (am_b 242) 23 = .ok (.aload_n 0, 1) := by decide +kernel
theorem d_242_24 : decode (am_b 242) 24 = .ok (.iload_n 2, 1) := by decide +kernel
theorem d_242_25 : decode (am_b 242) 25 = .ok (.invokevirtual 124, 3) := by decide +kernel
theorem d_242_28 : decode (am_b 242) 28 = .ok (.ifCond .ne 10, 3) := by decide +kernel
theorem d_242_31 : decode (am_b 242) 31 = .ok (.aload_n 0, 1) := by decide +kernel
theorem d_242_32 : decode (am_b 242) 32 = .ok (.bipush (-2), 2) := by decide +kernel
theorem d_242_34 : decode (am_b 242) 34 = .ok (.invokevirtual 110, 3) := by decide +kernel
theorem d_242_37 : decode (am_b 242) 37 = .ok (.ireturn, 1) := by decide +kernel
theorem d_242_38 : decode (am_b 242) 38 = .ok (.aload_n 0, 1) := by decide +kernel
theorem d_242_39 : decode (am_b 242) 39 = .ok (.iload_n 2, 1) := by decide +kernel
theorem d_242_40 : decode (am_b 242) 40 = .ok (.invokevirtual 248, 3) := by decide +kernel
theorem d_242_43 : decode (am_b 242) 43 = .ok (.aload_n 0, 1) := by decide +kernel
theorem d_242_44 : decode (am_b 242) 44 = .ok (.iconst 0, 1) := by decide +kernel
theorem d_242_45 : decode (am_b 242) 45 = .ok (.invokevirtual 223, 3) := by decide +kernel
theorem d_242_48 : decode (am_b 242) 48 = .ok (.iconst (-1), 1) := by decide +kernel
theorem d_242_49 : decode (am_b 242) 49 = .ok (.if_icmp .eq 11, 3) := by decide +kernel
theorem d_242_52 : decode (am_b 242) 52 = .ok (.aload_n 0, 1) := by decide +kernel
theorem d_242_53 : decode (am_b 242) 53 = .ok (.iload_n 3, 1) := by decide +kernel
theorem d_242_54 : decode (am_b 242) 54 = .ok (.invokevirtual 295, 3) := by decide +kernel
theorem d_242_57 : decode (am_b 242) 57 = .ok (.ifCond .ne 10, 3) := by decide +kernel
theorem d_242_60 : decode (am_b 242) 60 = .ok (.aload_n 0, 1) := by decide +kernel
theorem d_242_61 : decode (am_b 242) 61 = .ok (.bipush (-3), 2) := by decide +kernel
theorem d_242_63 : decode (am_b 242) 63 = .ok (.invokevirtual 110, 3) := by decide +kernel
theorem d_242_66 : decode (am_b 242) 66 = .ok (.ireturn, 1) := by decide +kernel
theorem d_242_67 : decode (am_b 242) 67 = .ok (.aload_n 0, 1) := by decide +kernel
theorem d_242_68 : decode (am_b 242) 68 = .ok (.iconst 0, 1) := by decide +kernel
theorem d_242_69 : decode (am_b 242) 69 = .ok (.putfield 134, 3) := by decide +kernel
theorem d_242_72 : decode (am_b 242) 72 = .ok (.iconst 0, 1) := by decide +kernel
theorem d_242_73 : decode (am_b 242) 73 = .ok (.istore 4, 2) := by decide +kernel
theorem d_242_75 : decode (am_b 242) 75 = .ok (.iload 4, 2) := by decide +kernel
theorem d_242_77 : decode (am_b 242) 77 = .ok (.aload_n 0, 1) := by decide +kernel
theorem d_242_78 : decode (am_b 242) 78 = .ok (.getfield 127, 3) := by decide +kernel
theorem d_242_81 : decode (am_b 242) 81 = .ok (.if_icmp .ge 31, 3) := by decide +kernel
theorem d_242_84 : decode (am_b 242) 84 = .ok (.aload_n 0, 1) := by decide +kernel
theorem d_242_85 : decode (am_b 242) 85 = .ok (.getfield 58, 3) := by decide +kernel
theorem d_242_88 : decode (am_b 242) 88 = .ok (.iload 4, 2) := by decide +kernel
theorem d_242_90 : decode (am_b 242) 90 = .ok (.iaload, 1) := by decide +kernel
theorem d_242_91 : decode (am_b 242) 91 = .ok (.iload 4, 2) := by decide +kernel
theorem d_242_93 : decode (am_b 242) 93 = .ok (.if_icmp .ne 13, 3) := by decide +kernel
theorem d_242_96 : decode (am_b 242) 96 = .ok (.aload_n 0, 1) := by decide +kernel
theorem d_242_97 : decode (am_b 242) 97 = .ok (.dup, 1) := by decide +kernel
theorem d_242_98 : decode (am_b 242) 98 = .ok (.getfield 134, 3) := by decide +kernel
theorem d_242_101 : decode (am_b 242) 101 = .ok (.iconst 1, 1) := by decide +kernel
theorem d_242_102 : decode (am_b 242) 102 = .ok (.iadd, 1) := by decide +kernel
theorem d_242_103 : decode (am_b 242) 103 = .ok (.putfield 134, 3) := by decide +kernel
theorem d_242_106 : decode (am_b 242) 106 = .ok (.iinc 4 1, 3) := by decide +kernel
theorem d_242_109 : decode (am_b 242) 109 = .ok (.goto (-34), 3) := by decide +kernel
theorem d_242_112 : decode (am_b 242) 112 = .ok (.iconst 0, 1) := by decide +kernel
theorem d_242_113 : decode (am_b 242) 113 = .ok (.istore 4, 2) := by decide +kernel
theorem d_242_115 : decode (am_b 242) 115 = .ok (.iconst 0, 1) := by decide +kernel
theorem d_242_116 : decode (am_b 242) 116 = .ok (.istore 5, 2) := by decide +kernel
theorem d_242_118 : decode (am_b 242) 118 = .ok (.iload 5, 2) := by decide +kernel
theorem d_242_120 : decode (am_b 242) 120 = .ok (.aload_n 0, 1) := by decide +kernel
theorem d_242_121 : decode (am_b 242) 121 = .ok (.getfield 127, 3) := by decide +kernel
theorem d_242_124 : decode (am_b 242) 124 = .ok (.if_icmp .ge 135, 3) := by decide +kernel
theorem d_242_127 : decode (am_b 242) 127 = .ok (.aload_n 0, 1) := by decide +kernel
theorem d_242_128 : decode (am_b 242) 128 = .ok (.getfield 58, 3) := by decide +kernel
theorem d_242_131 : decode (am_b 242) 131 = .ok (.iload 5, 2) := by decide +kernel
theorem d_242_133 : decode (am_b 242) 133 = .ok (.iaload, 1) := by decide +kernel
theorem d_242_134 : decode (am_b 242) 134 = .ok (.iload 5, 2) := by decide +kernel
theorem d_242_136 : decode (am_b 242) 136 = .ok (.if_icmp .eq 6, 3) := by decide +kernel
theorem d_242_139 : decode (am_b 242) 139 = .ok (.goto 114, 3) := by decide +kernel
theorem d_242_142 : decode (am_b 242) 142 = .ok (.iconst 0, 1) := by decide +kernel
theorem d_242_143 : decode (am_b 242) 143 = .ok (.istore 6, 2) := by decide +kernel
theorem d_242_145 : decode (am_b 242) 145 = .ok (.iconst 0, 1) := by decide +kernel
theorem d_242_146 : decode (am_b 242) 146 = .ok (.istore 7, 2) := by decide +kernel
theorem d_242_148 : decode (am_b 242) 148 = .ok (.iload 7, 2) := by decide +kernel
theorem d_242_150 : decode (am_b 242) 150 = .ok (.aload_n 0, 1) := by decide +kernel
theorem d_242_151 : decode (am_b 242) 151 = .ok (.getfield 127, 3) := by decide +kernel
theorem d_242_154 : decode (am_b 242) 154 = .ok (.if_icmp .ge 96, 3) := by decide +kernel
theorem d_242_157 : decode (am_b 242) 157 = .ok (.aload_n 0, 1) := by decide +kernel
theorem d_242_158 : decode (am_b 242) 158 = .ok (.getfield 58, 3) := by decide +kernel
theorem d_242_161 : decode (am_b 242) 161 = .ok (.iload 7, 2) := by decide +kernel
theorem d_242_163 : decode (am_b 242) 163 = .ok (.iaload, 1) := by decide +kernel
theorem d_242_164 : decode (am_b 242) 164 = .ok (.iload 7, 2) := by decide +kernel
theorem d_242_166 : decode (am_b 242) 166 = .ok (.if_icmp .eq 6, 3) := by decide +kernel
theorem d_242_169 : decode (am_b 242) 169 = .ok (.goto 75, 3) := by decide +kernel
theorem d_242_172 : decode (am_b 242) 172 = .ok (.iconst 0, 1) := by decide +kernel
theorem d_242_173 : decode (am_b 242) 173 = .ok (.istore 8, 2) := by decide +kernel
theorem d_242_175 : decode (am_b 242) 175 = .ok (.iconst 0, 1) := by decide +kernel
theorem d_242_176 : decode (am_b 242) 176 = .ok (.istore 9, 2) := by decide +kernel
theorem d_242_178 : decode (am_b 242) 178 = .ok (.iload 9, 2) := by decide +kernel
theorem d_242_180 : decode (am_b 242) 180 = .ok (.aload_n 0, 1) := by decide +kernel
theorem d_242_181 : decode (am_b 242) 181 = .ok (.getfield 58, 3) := by decide +kernel
theorem d_242_184 : decode (am_b 242) 184 = .ok (.aload_n 0, 1) := by decide +kernel
theorem d_242_185 : decode (am_b 242) 185 = .ok (.iload 5, 2) := by decide +kernel
theorem d_242_187 : decode (am_b 242) 187 = .ok (.iload 7, 2) := by decide +kernel
theorem d_242_189 : decode (am_b 242) 189 = .ok (.invokevirtual 130, 3) := by decide +kernel
theorem d_242_192 : decode (am_b 242) 192 = .ok (.iaload, 1) := by decide +kernel
theorem d_242_193 : decode (am_b 242) 193 = .ok (.if_icmp .ge 31, 3) := by decide +kernel
theorem d_242_196 : decode (am_b 242) 196 = .ok (.iload 8, 2) := by decide +kernel
theorem d_242_198 : decode (am_b 242) 198 = .ok (.aload_n 0, 1) := by decide +kernel
theorem d_242_199 : decode (am_b 242) 199 = .ok (.getfield 58, 3) := by decide +kernel
theorem d_242_202 : decode (am_b 242) 202 = .ok (.iload 9, 2) := by decide +kernel
theorem d_242_204 : decode (am_b 242) 204 = .ok (.iaload, 1) := by decide +kernel
theorem d_242_205 : decode (am_b 242) 205 = .ok (.iload 9, 2) := by decide +kernel
theorem d_242_207 : decode (am_b 242) 207 = .ok (.if_icmp .ne 7, 3) := by decide +kernel
theorem d_242_210 : decode (am_b 242) 210 = .ok (.iconst 1, 1) := by decide +kernel
theorem d_242_211 : decode (am_b 242) 211 = .ok (.goto 4, 3) := by decide +kernel
theorem d_242_214 : decode (am_b 242) 214 = .ok (.iconst 0, 1) := by decide +kernel
theorem d_242_215 : decode (am_b 242) 215 = .ok (.iadd, 1) := by decide +kernel
theorem d_242_216 : decode (am_b 242) 216 = .ok (.istore 8, 2) := by decide +kernel
theorem d_242_218 : decode (am_b 242) 218 = .ok (.iinc 9 1, 3) := by decide +kernel
theorem d_242_221 : decode (am_b 242) 221 = .ok (.goto (-43), 3) := by decide +kernel
theorem d_242_224 : decode (am_b 242) 224 = .ok (.aload_n 0, 1) := by decide +kernel
theorem d_242_225 : decode (am_b 242) 225 = .ok (.getfield 26, 3) := by decide +kernel
theorem d_242_228 : decode (am_b 242) 228 = .ok (.aload_n 0, 1) := by decide +kernel
theorem d_242_229 : decode (am_b 242) 229 = .ok (.getfield 134, 3) := by decide +kernel
theorem d_242_232 : decode (am_b 242) 232 = .ok (.iload 4, 2) := by decide +kernel
theorem d_242_234 : decode (am_b 242) 234 = .ok (.imul, 1) := by decide +kernel
theorem d_242_235 : decode (am_b 242) 235 = .ok (.iload 6, 2) := by decide +kernel
theorem d_242_237 : decode (am_b 242) 237 = .ok (.iadd, 1) := by decide +kernel
theorem d_242_238 : decode (am_b 242) 238 = .ok (.iload 8, 2) := by decide +kernel
theorem d_242_240 : decode (am_b 242) 240 = .ok (.iastore, 1) := by decide +kernel
theorem d_242_241 : decode (am_b 242) 241 = .ok (.iinc 6 1, 3) := by decide +kernel
theorem d_242_244 : decode (am_b 242) 244 = .ok (.iinc 7 1, 3) := by decide +kernel
theorem d_242_247 : decode (am_b 242) 247 = .ok (.goto (-99), 3) := by decide +kernel
theorem d_242_250 : decode (am_b 242) 250 = .ok (.iinc 4 1, 3) := by decide +kernel
theorem d_242_253 : decode (am_b 242) 253 = .ok (.iinc 5 1, 3) := by decide +kernel
theorem d_242_256 : decode (am_b 242) 256 = .ok (.goto (-138), 3) := by decide +kernel
theorem d_242_259 : decode (am_b 242) 259 = .ok (.aload_n 0, 1) := by decide +kernel
theorem d_242_260 : decode (am_b 242) 260 = .ok (.iload_n 1, 1) := by decide +kernel
theorem d_242_261 : decode (am_b 242) 261 = .ok (.invokevirtual 257, 3) := by decide +kernel
theorem d_242_264 : decode (am_b 242) 264 = .ok (.aload_n 0, 1) := by decide +kernel
theorem d_242_265 : decode (am_b 242) 265 = .ok (.aload_n 0, 1) := by decide +kernel
theorem d_242_266 : decode (am_b 242) 266 = .ok (.getfield 134, 3) := by decide +kernel
theorem d_242_269 : decode (am_b 242) 269 = .ok (.invokevirtual 114, 3) := by decide +kernel
theorem d_242_272 : decode (am_b 242) 272 = .ok (.ireturn, 1) := by decide +kernel
theorem d_243_0 : decode (am_b 243) 0 = .ok (.aload_n 0, 1) := by decide +kernel
theorem d_243_1 : decode (am_b 243) 1 = .ok (.iload_n 1, 1) := by decide +kernel
theorem d_243_2 : decode (am_b 243) 2 = .ok (.invokevirtual 289, 3) := by decide +kernel
theorem d_243_5 : decode (am_b 243) 5 = .ok (.ifCond .ne 5, 3) := by decide +kernel
theorem d_243_8 : decode (am_b 243) 8 = .ok (.iconst 0, 1) := by decide +kernel
theorem d_243_9 : decode (am_b 243) 9 = .ok (.ireturn, 1) := by decide +kernel
theorem d_243_10 : decode (am_b 243) 10 = .ok (.iconst 0, 1) := by decide +kernel
theorem d_243_11 : decode (am_b 243) 11 = .ok (.istore_n 2, 1) := by decide +kernel
theorem d_243_12 : decode (am_b 243) 12 = .ok (.iload_n 2, 1) := by decide +kernel
theorem d_243_13 : decode (am_b 243) 13 = .ok (.aload_n 0, 1) := by decide +kernel
theorem d_243_14 : decode (am_b 243) 14 = .ok (.getfield 127, 3) := by decide +kernel
theorem d_243_17 : decode (am_b 243) 17 = .ok (.if_icmp .ge 16, 3) := by decide +kernel
theorem d_243_20 : decode (am_b 243) 20 = .ok (.aload_n 0, 1) := by decide +kernel
theorem d_243_21 : decode (am_b 243) 21 = .ok (.getfield 58, 3) := by decide +kernel
theorem d_243_24 : decode (am_b 243) 24 = .ok (.iload_n 2, 1) := by decide +kernel
theorem d_243_25 : decode (am_b 243) 25 = .ok (.iconst (-1), 1) := by decide +kernel
theorem d_243_26 : decode (am_b 243) 26 = .ok (.iastore, 1) := by decide +kernel
theorem d_243_27 : decode (am_b 243) 27 = .ok (.iinc 2 1, 3) := by decide +kernel
theorem d_243_30 : decode (am_b 243) 30 = .ok (.goto (-18), 3) := by decide +kernel
theorem d_243_33 : decode (am_b 243) 33 = .ok (.iconst 0, 1) := by decide +kernel
theorem d_243_34 : decode (am_b 243) 34 = .ok (.istore_n 2, 1) := by decide +kernel
theorem d_243_35 : decode (am_b 243) 35 = .ok (.iload_n 2, 1) := by decide +kernel
theorem d_243_36 : decode (am_b 243) 36 = .ok (.aload_n 0, 1) := by decide +kernel
theorem d_243_37 : decode (am_b 243) 37 = .ok (.getfield 127, 3) := by decide +kernel
theorem d_243_40 : decode (am_b 243) 40 = .ok (.if_icmp .ge 133, 3) := by decide +kernel
theorem d_243_43 : decode (am_b 243) 43 = .ok (.iconst 0, 1) := by decide +kernel
theorem d_243_44 : decode (am_b 243) 44 = .ok (.istore_n 3, 1) := by decide +kernel
theorem d_243_45 : decode (am_b 243) 45 = .ok (.iconst 0, 1) := by decide +kernel
theorem d_243_46 : decode (am_b 243) 46 = .ok (.istore 4, 2) := by decide +kernel
theorem d_243_48 : decode (am_b 243) 48 = .ok (.iload 4, 2) := by decide +kernel
theorem d_243_50 : decode (am_b 243) 50 = .ok (.aload_n 0, 1) := by decide +kernel
theorem d_243_51 : decode (am_b 243) 51 = .ok (.getfield 127, 3) := by decide +kernel
theorem d_243_54 : decode (am_b 243) 54 = .ok (.if_icmp .ge 31, 3) := by decide +kernel
theorem d_243_57 : decode (am_b 243) 57 = .ok (.iload_n 1, 1) := by decide +kernel
theorem d_243_58 : decode (am_b 243) 58 = .ok (.iload 4, 2) := by decide +kernel
theorem d_243_60 : decode (am_b 243) 60 = .ok (.ishr, 1) := by decide +kernel
theorem d_243_61 : decode (am_b 243) 61 = .ok (.iconst 1, 1) := by decide +kernel
theorem d_243_62 : decode (am_b 243) 62 = .ok (.iand, 1) := by decide +kernel
theorem d_243_63 : decode (am_b 243) 63 = .ok (.iconst 1, 1) := by decide +kernel
theorem d_243_64 : decode (am_b 243) 64 = .ok (.if_icmp .ne 15, 3) := by decide +kernel
theorem d_243_67 : decode (am_b 243) 67 = .ok (.iload_n 3, 1) := by decide +kernel
theorem d_243_68 : decode (am_b 243) 68 = .ok (.iconst 1, 1) := by decide +kernel
theorem d_243_69 : decode (am_b 243) 69 = .ok (.aload_n 0, 1) := by decide +kernel
theorem d_243_70 : decode (am_b 243) 70 = .ok (.iload_n 2, 1) := by decide +kernel
theorem d_243_71 : decode (am_b 243) 71 = .ok (.iload 4, 2) := by decide +kernel
theorem d_243_73 : decode (am_b 243) 73 = .ok (.invokevirtual 130, 3) := by decide +kernel
theorem d_243_76 : decode (am_b 243) 76 = .ok (.ishl, 1) := by decide +kernel
theorem d_243_77 : decode (am_b 243) 77 = .ok (.ior, 1) := by decide +kernel
theorem d_243_78 : decode (am_b 243) 78 = .ok (.istore_n 3, 1) := by decide +kernel
theorem d_243_79 : decode (am_b 243) 79 = .ok (.iinc 4 1, 3) := by decide +kernel
theorem d_243_82 : decode (am_b 243) 82 = .ok (.goto (-34), 3) := by decide +kernel
theorem d_243_85 : decode (am_b 243) 85 = .ok (.iconst 0, 1) := by decide +kernel
theorem d_243_86 : decode (am_b 243) 86 = .ok (.istore 4, 2) := by decide +kernel
theorem d_243_88 : decode (am_b 243) 88 = .ok (.iload_n 3, 1) := by decide +kernel
theorem d_243_89 : decode (am_b 243) 89 = .ok (.iload 4, 2) := by decide +kernel
theorem d_243_91 : decode (am_b 243) 91 = .ok (.ishr, 1) := by decide +kernel
theorem d_243_92 : decode (am_b 243) 92 = .ok (.iconst 1, 1) := by decide +kernel
theorem d_243_93 : decode (am_b 243) 93 = .ok (.iand, 1) := by decide +kernel
theorem d_243_94 : decode (am_b 243) 94 = .ok (.ifCond .ne 9, 3) := by decide +kernel
theorem d_243_97 : decode (am_b 243) 97 = .ok (.iinc 4 1, 3) := by decide +kernel
theorem d_243_100 : decode (am_b 243) 100 = .ok (.goto (-12), 3) := by decide +kernel
theorem d_243_103 : decode (am_b 243) 103 = .ok (.iconst 0, 1) := by decide +kernel
theorem d_243_104 : decode (am_b 243) 104 = .ok (.istore 5, 2) := by decide +kernel
theorem d_243_106 : decode (am_b 243) 106 = .ok (.iload 5, 2) := by decide +kernel
theorem d_243_108 : decode (am_b 243) 108 = .ok (.aload_n 0, 1) := by decide +kernel
theorem d_243_109 : decode (am_b 243) 109 = .ok (.getfield 127, 3) := by decide +kernel
theorem d_243_112 : decode (am_b 243) 112 = .ok (.if_icmp .ge 55, 3) := by decide +kernel
theorem d_243_115 : decode (am_b 243) 115 = .ok (.iload_n 3, 1) := by decide +kernel
theorem d_243_116 : decode (am_b 243) 116 = .ok (.iload 5, 2) := by decide +kernel
theorem d_243_118 : decode (am_b 243) 118 = .ok (.ishr, 1) := by decide +kernel
theorem d_243_119 : decode (am_b 243) 119 = .ok (.iconst 1, 1) := by decide +kernel
theorem d_243_120 : decode (am_b 243) 120 = .ok (.iand, 1) := by decide +kernel
theorem d_243_121 : decode (am_b 243) 121 = .ok (.ifCond .ne 6, 3) := by decide +kernel
theorem d_243_124 : decode (am_b 243) 124 = .ok (.goto 37, 3) := by decide +kernel
theorem d_243_127 : decode (am_b 243) 127 = .ok (.aload_n 0, 1) := by decide +kernel
theorem d_243_128 : decode (am_b 243) 128 = .ok (.getfield 58, 3) := by decide +kernel
theorem d_243_131 : decode (am_b 243) 131 = .ok (.iload 5, 2) := by decide +kernel
theorem d_243_133 : decode (am_b 243) 133 = .ok (.iaload, 1) := by decide +kernel
theorem d_243_134 : decode (am_b 243) 134 = .ok (.iconst (-1), 1) := by decide +kernel
theorem d_243_135 : decode (am_b 243) 135 = .ok (.if_icmp .eq 17, 3) := by decide +kernel
theorem d_243_138 : decode (am_b 243) 138 = .ok (.aload_n 0, 1) := by decide +kernel
theorem d_243_139 : decode (am_b 243) 139 = .ok (.getfield 58, 3) := by decide +kernel
theorem d_243_142 : decode (am_b 243) 142 = .ok (.iload 5, 2) := by decide +kernel
theorem d_243_144 : decode (am_b 243) 144 = .ok (.iaload, 1) := by decide +kernel
theorem d_243_145 : decode (am_b 243) 145 = .ok (.iload 4, 2) := by decide +kernel
theorem d_243_147 : decode (am_b 243) 147 = .ok (.if_icmp .eq 5, 3) := by decide +kernel
theorem d_243_150 : decode (am_b 243) 150 = .ok (.iconst 0, 1) := by decide +kernel
theorem d_243_151 : decode (am_b 243) 151 = .ok (.ireturn, 1) := by decide +kernel
theorem d_243_152 : decode (am_b 243) 152 = .ok (.aload_n 0, 1) := by decide +kernel
theorem d_243_153 : decode (am_b 243) 153 = .ok (.getfield 58, 3) := by decide +kernel
theorem d_243_156 : decode (am_b 243) 156 = .ok (.iload 5, 2) := by decide +kernel
theorem d_243_158 : decode (am_b 243) 158 = .ok (.iload 4, 2) := by decide +kernel
theorem d_243_160 : decode (am_b 243) 160 = .ok (.iastore, 1) := by decide +kernel
theorem d_243_161 : decode (am_b 243) 161 = .ok (.iinc 5 1, 3) := by decide +kernel
theorem d_243_164 : decode (am_b 243) 164 = .ok (.goto (-58), 3) := by decide +kernel
theorem d_243_167 : decode (am_b 243) 167 = .ok (.iinc 2 1, 3) := by decide +kernel
theorem d_243_170 : decode (am_b 243) 170 = .ok (.goto (-135), 3) := by decide +kernel
theorem d_243_173 : decode (am_b 243) 173 = .ok (.iconst 0, 1) := by decide +kernel
theorem d_243_174 : decode (am_b 243) 174 = .ok (.istore_n 2, 1) := by decide +kernel
theorem d_243_175 : decode (am_b 243) 175 = .ok (.iload_n 2, 1) := by decide +kernel
theorem d_243_176 : decode (am_b 243) 176 = .ok (.aload_n 0, 1) := by decide +kernel
theorem d_243_177 : decode (am_b 243) 177 = .ok (.getfield 127, 3) := by decide +kernel
theorem d_243_180 : decode (am_b 243) 180 = .ok (.if_icmp .ge 73, 3) := by decide +kernel
theorem d_243_183 : decode (am_b 243) 183 = .ok (.iconst 0, 1) := by decide +kernel
theorem d_243_184 : decode (am_b 243) 184 = .ok (.istore_n 3, 1) := by decide +kernel
theorem d_243_185 : decode (am_b 243) 185 = .ok (.iconst 0, 1) := by decide +kernel
theorem d_243_186 : decode (am_b 243) 186 = .ok (.istore 4, 2) := by decide +kernel
theorem d_243_188 : decode (am_b 243) 188 = .ok (.iload 4, 2) := by decide +kernel
theorem d_243_190 : decode (am_b 243) 190 = .ok (.aload_n 0, 1) := by decide +kernel
theorem d_243_191 : decode (am_b 243) 191 = .ok (.getfield 127, 3) := by decide +kernel
theorem d_243_194 : decode (am_b 243) 194 = .ok (.if_icmp .ge 33, 3) := by decide +kernel
theorem d_243_197 : decode (am_b 243) 197 = .ok (.iload_n 3, 1) := by decide +kernel
theorem d_243_198 : decode (am_b 243) 198 = .ok (.aload_n 0, 1) := by decide +kernel
theorem d_243_199 : decode (am_b 243) 199 = .ok (.getfield 58, 3) := by decide +kernel
theorem d_243_202 : decode (am_b 243) 202 = .ok (.iload 4, 2) := by decide +kernel
theorem d_243_204 : decode (am_b 243) 204 = .ok (.iaload, 1) := by decide +kernel
theorem d_243_205 : decode (am_b 243) 205 = .ok (.aload_n 0, 1) := by decide +kernel
theorem d_243_206 : decode (am_b 243) 206 = .ok (.getfield 58, 3) := by decide +kernel
theorem d_243_209 : decode (am_b 243) 209 = .ok (.iload_n 2, 1) := by decide +kernel
theorem d_243_210 : decode (am_b 243) 210 = .ok (.iaload, 1) := by decide +kernel
theorem d_243_211 : decode (am_b 243) 211 = .ok (.if_icmp .ne 7, 3) := by decide +kernel
theorem d_243_214 : decode (am_b 243) 214 = .ok (.iconst 1, 1) := by decide +kernel
theorem d_243_215 : decode (am_b 243) 215 = .ok (.goto 4, 3) := by decide +kernel
theorem d_243_218 : decode (am_b 243) 218 = .ok (.iconst 0, 1) := by decide +kernel
theorem d_243_219 : decode (am_b 243) 219 = .ok (.iadd, 1) := by decide +kernel
theorem d_243_220 : decode (am_b 243) 220 = .ok (.istore_n 3, 1) := by decide +kernel
theorem d_243_221 : decode (am_b 243) 221 = .ok (.iinc 4 1, 3) := by decide +kernel
theorem d_243_224 : decode (am_b 243) 224 = .ok (.goto (-36), 3) := by decide +kernel
theorem d_243_227 : decode (am_b 243) 227 = .ok (.aload_n 0, 1) := by decide +kernel
theorem d_243_228 : decode (am_b 243) 228 = .ok (.getfield 58, 3) := by decide +kernel
theorem d_243_231 : decode (am_b 243) 231 = .ok (.iload_n 2, 1) := by decide +kernel
theorem d_243_232 : decode (am_b 243) 232 = .ok (.iaload, 1) := by decide +kernel
theorem d_243_233 : decode (am_b 243) 233 = .ok (.iconst (-1), 1) := by decide +kernel
theorem d_243_234 : decode (am_b 243) 234 = .ok (.if_icmp .eq 11, 3) := by decide +kernel
theorem d_243_237 : decode (am_b 243) 237 = .ok (.iload_n 3, 1) := by decide +kernel
theorem d_243_238 : decode (am_b 243) 238 = .ok (.iload_n 1, 1) := by decide +kernel
theorem d_243_239 : decode (am_b 243) 239 = .ok (.invokestatic 292, 3) := by decide +kernel
theorem d_243_242 : decode (am_b 243) 242 = .ok (.if_icmp .eq 5, 3) := by decide +kernel
theorem d_243_245 : decode (am_b 243) 245 = .ok (.iconst 0, 1) := by decide +kernel
theorem d_243_246 : decode (am_b 243) 246 = .ok (.ireturn, 1) := by decide +kernel
theorem d_243_247 : decode (am_b 243) 247 = .ok (.iinc 2 1, 3) := by decide +kernel
theorem d_243_250 : decode (am_b 243) 250 = .ok (.goto (-75), 3) := by decide +kernel
theorem d_243_253 : decode (am_b 243) 253 = .ok (.iconst 0, 1) := by decide +kernel
theorem d_243_254 : decode (am_b 243) 254 = .ok (.istore_n 2, 1) := by decide +kernel
theorem d_243_255 : decode (am_b 243) 255 = .ok (.iload_n 2, 1) := by decide +kernel
theorem d_243_256 : decode (am_b 243) 256 = .ok (.aload_n 0, 1) := by decide +kernel
theorem d_243_257 : decode (am_b 243) 257 = .ok (.getfield 127, 3) := by decide +kernel
theorem d_243_260 : decode (am_b 243) 260 = .ok (.if_icmp .ge 62, 3) := by decide +kernel
theorem d_243_263 : decode (am_b 243) 263 = .ok (.iconst 0, 1) := by decide +kernel
theorem d_243_264 : decode (am_b 243) 264 = .ok (.istore_n 3, 1) := by decide +kernel
theorem d_243_265 : decode (am_b 243) 265 = .ok (.iload_n 3, 1) := by decide +kernel
theorem d_243_266 : decode (am_b 243) 266 = .ok (.aload_n 0, 1) := by decide +kernel
theorem d_243_267 : decode (am_b 243) 267 = .ok (.getfield 127, 3) := by decide +kernel
theorem d_243_270 : decode (am_b 243) 270 = .ok (.if_icmp .ge 46, 3) := by decide +kernel
theorem d_243_273 : decode (am_b 243) 273 = .ok (.aload_n 0, 1) := by decide +kernel
theorem d_243_274 : decode (am_b 243) 274 = .ok (.getfield 58, 3) := by decide +kernel
theorem d_243_277 : decode (am_b 243) 277 = .ok (.aload_n 0, 1) := by decide +kernel
theorem d_243_278 : decode (am_b 243) 278 = .ok (.iload_n 2, 1) := by decide +kernel
theorem d_243_279 : decode (am_b 243) 279 = .ok (.iload_n 3, 1) := by decide +kernel
theorem d_243_280 : decode (am_b 243) 280 = .ok (.invokevirtual 130, 3) := by decide +kernel
theorem d_243_283 : decode (am_b 243) 283 = .ok (.iaload, 1) := by decide +kernel
theorem d_243_284 : decode (am_b 243) 284 = .ok (.aload_n 0, 1) := by decide +kernel
theorem d_243_285 : decode (am_b 243) 285 = .ok (.getfield 58, 3) := by decide +kernel
theorem d_243_288 : decode (am_b 243) 288 = .ok (.aload_n 0, 1) := by decide +kernel
theorem d_243_289 : decode (am_b 243) 289 = .ok (.aload_n 0, 1) := by decide +kernel
theorem d_243_290 : decode (am_b 243) 290 = .ok (.getfield 58, 3) := by decide +kernel
theorem d_243_293 : decode (am_b 243) 293 = .ok (.iload_n 2, 1) := by decide +kernel
theorem d_243_294 : decode (am_b 243) 294 = .ok (.iaload, 1) := by decide +kernel
theorem d_243_295 : decode (am_b 243) 295 = .ok (.aload_n 0, 1) := by decide +kernel
theorem d_243_296 : decode (am_b 243) 296 = .ok (.getfield 58, 3) := by decide +kernel
theorem d_243_299 : decode (am_b 243) 299 = .ok (.iload_n 3, 1) := by decide +kernel
theorem d_243_300 : decode (am_b 243) 300 = .ok (.iaload, 1) := by decide +kernel
theorem d_243_301 : decode (am_b 243) 301 = .ok (.invokevirtual 130, 3) := by decide +kernel
theorem d_243_304 : decode (am_b 243) 304 = .ok (.iaload, 1) := by decide +kernel
theorem d_243_305 : decode (am_b 243) 305 = .ok (.if_icmp .eq 5, 3) := by decide +kernel
theorem d_243_308 : decode (am_b 243) 308 = .ok (.iconst 0, 1) := by decide +kernel
theorem d_243_309 : decode (am_b 243) 309 = .ok (.ireturn, 1) := by decide +kernel
theorem d_243_310 : decode (am_b 243) 310 = .ok (.iinc 3 1, 3) := by decide +kernel
theorem d_243_313 : decode (am_b 243) 313 = .ok (.goto (-48), 3) := by decide +kernel
theorem d_243_316 : decode (am_b 243) 316 = .ok (.iinc 2 1, 3) := by decide +kernel
theorem d_243_319 : decode (am_b 243) 319 = .ok (.goto (-64), 3) := by decide +kernel
theorem d_243_322 : decode (am_b 243) 322 = .ok (.iconst 1, 1) := by decide +kernel
theorem d_243_323 : decode (am_b 243) 323 = .ok (.ireturn, 1) := by decide +kernel
theorem d_244_0 : decode (am_b 244) 0 = .ok (.aload_n 0, 1) := by decide +kernel
theorem d_244_1 : decode (am_b 244) 1 = .ok (.iload_n 1, 1) := by decide +kernel
theorem d_244_2 : decode (am_b 244) 2 = .ok (.invokevirtual 283, 3) := by decide +kernel
theorem d_244_5 : decode (am_b 244) 5 = .ok (.ifCond .eq 16, 3) := by decide +kernel
theorem d_244_8 : decode (am_b 244) 8 = .ok (.aload_n 0, 1) := by decide +kernel
theorem d_244_9 : decode (am_b 244) 9 = .ok (.iload_n 1, 1) := by decide +kernel
theorem d_244_10 : decode (am_b 244) 10 = .ok (.invokevirtual 286, 3) := by decide +kernel
theorem d_244_13 : decode (am_b 244) 13 = .ok (.iload_n 1, 1) := by decide +kernel
theorem d_244_14 : decode (am_b 244) 14 = .ok (.if_icmp .ne 7, 3) := by decide +kernel
theorem d_244_17 : decode (am_b 244) 17 = .ok (.iconst 1, 1) := by decide +kernel
theorem d_244_18 : decode (am_b 244) 18 = .ok (.goto 4, 3) := by decide +kernel
theorem d_244_21 : decode (am_b 244) 21 = .ok (.iconst 0, 1) := by decide +kernel
theorem d_244_22 : decode (am_b 244) 22 = .ok (.ireturn, 1) := by decide +kernel
theorem d_245_0 : decode (am_b 245) 0 = .ok (.iload_n 1, 1) := by decide +kernel
theorem d_245_1 : decode (am_b 245) 1 = .ok (.iconst 1, 1) := by decide +kernel
theorem d_245_2 : decode (am_b 245) 2 = .ok (.iconst 1, 1) := by decide +kernel
theorem d_245_3 : decode (am_b 245) 3 = .ok (.aload_n 0, 1) := by decide +kernel
theorem d_245_4 : decode (am_b 245) 4 = .ok (.getfield 127, 3) := by decide +kernel
theorem d_245_7 : decode (am_b 245) 7 = .ok (.ishl, 1) := by decide +kernel
theorem d_245_8 : decode (am_b 245) 8 = .ok (.iconst 1, 1) := by decide +kernel
theorem d_245_9 : decode (am_b 245) 9 = .ok (.isub, 1) := by decide +kernel
theorem d_245_10 : decode (am_b 245) 10 = .ok (.invokestatic 106, 3) := by decide +kernel
theorem d_245_13 : decode (am_b 245) 13 = .ok (.ireturn, 1) := by decide +kernel
theorem d_246_0 : decode (am_b 246) 0 = .ok (.iload_n 1, 1) := by decide +kernel
theorem d_246_1 : decode (am_b 246) 1 = .ok (.istore_n 2, 1) := by decide +kernel
theorem d_246_2 : decode (am_b 246) 2 = .ok (.iconst 0, 1) := by decide +kernel
theorem d_246_3 : decode (am_b 246) 3 = .ok (.istore_n 3, 1) := by decide +kernel
theorem d_246_4 : decode (am_b 246) 4 = .ok (.iload_n 2, 1) := by decide +kernel
theorem d_246_5 : decode (am_b 246) 5 = .ok (.iload_n 3, 1) := by decide +kernel
theorem d_246_6 : decode (am_b 246) 6 = .ok (.if_icmp .eq 72, 3) := by decide +kernel
theorem d_246_9 : decode (am_b 246) 9 = .ok (.iload_n 2, 1) := by decide +kernel
theorem d_246_10 : decode (am_b 246) 10 = .ok (.istore_n 3, 1) := by decide +kernel
theorem d_246_11 : decode (am_b 246) 11 = .ok (.iconst 0, 1) := by decide +kernel
theorem d_246_12 : decode (am_b 246) 12 = .ok (.istore 4, 2) := by decide +kernel
theorem d_246_14 : decode (am_b 246) 14 = .ok (.iload 4, 2) := by decide +kernel
theorem d_246_16 : decode (am_b 246) 16 = .ok (.aload_n 0, 1) := by decide +kernel
theorem d_246_17 : decode (am_b 246) 17 = .ok (.getfield 127, 3) := by decide +kernel
theorem d_246_20 : decode (am_b 246) 20 = .ok (.if_icmp .ge 55, 3) := by decide +kernel
theorem d_246_23 : decode (am_b 246) 23 = .ok (.iconst 0, 1) := by decide +kernel
theorem d_246_24 : decode (am_b 246) 24 = .ok (.istore 5, 2) := by decide +kernel
theorem d_246_26 : decode (am_b 246) 26 = .ok (.iload 5, 2) := by decide +kernel
theorem d_246_28 : decode (am_b 246) 28 = .ok (.aload_n 0, 1) := by decide +kernel
theorem d_246_29 : decode (am_b 246) 29 = .ok (.getfield 127, 3) := by decide +kernel
theorem d_246_32 : decode (am_b 246) 32 = .ok (.if_icmp .ge 37, 3) := by decide +kernel
theorem d_246_35 : decode (am_b 246) 35 = .ok (.iload_n 3, 1) := by decide +kernel
theorem d_246_36 : decode (am_b 246) 36 = .ok (.iload 4, 2) := by decide +kernel
theorem d_246_38 : decode (am_b 246) 38 = .ok (.ishr, 1) := by decide +kernel
theorem d_246_39 : decode (am_b 246) 39 = .ok (.iload_n 3, 1) := by decide +kernel
theorem d_246_40 : decode (am_b 246) 40 = .ok (.iload 5, 2) := by decide +kernel
theorem d_246_42 : decode (am_b 246) 42 = .ok (.ishr, 1) := by decide +kernel
theorem d_246_43 : decode (am_b 246) 43 = .ok (.iand, 1) := by decide +kernel
theorem d_246_44 : decode (am_b 246) 44 = .ok (.iconst 1, 1) := by decide +kernel
theorem d_246_45 : decode (am_b 246) 45 = .ok (.iand, 1) := by decide +kernel
theorem d_246_46 : decode (am_b 246) 46 = .ok (.iconst 1, 1) := by decide +kernel
theorem d_246_47 : decode (am_b 246) 47 = .ok (.if_icmp .ne 16, 3) := by decide +kernel
theorem d_246_50 : decode (am_b 246) 50 = .ok (.iload_n 2, 1) := by decide +kernel
theorem d_246_51 : decode (am_b 246) 51 = .ok (.iconst 1, 1) := by decide +kernel
theorem d_246_52 : decode (am_b 246) 52 = .ok (.aload_n 0, 1) := by decide +kernel
theorem d_246_53 : decode (am_b 246) 53 = .ok (.iload 4, 2) := by decide +kernel
theorem d_246_55 : decode (am_b 246) 55 = .ok (.iload 5, 2) := by decide +kernel
theorem d_246_57 : decode (am_b 246) 57 = .ok (.invokevirtual 130, 3) := by decide +kernel
theorem d_246_60 : decode (am_b 246) 60 = .ok (.ishl, 1) := by decide +kernel
theorem d_246_61 : decode (am_b 246) 61 = .ok (.ior, 1) := by decide +kernel
theorem d_246_62 : decode (am_b 246) 62 = .ok (.istore_n 2, 1) := by decide +kernel
theorem d_246_63 : decode (am_b 246) 63 = .ok (.iinc 5 1, 3) := by decide +kernel
theorem d_246_66 : decode (am_b 246) 66 = .ok (.goto (-40), 3) := by decide +kernel
theorem d_246_69 : decode (am_b 246) 69 = .ok (.iinc 4 1, 3) := by decide +kernel
theorem d_246_72 : decode (am_b 246) 72 = .ok (.goto (-58), 3) := by decide +kernel
theorem d_246_75 : decode (am_b 246) 75 = .ok (.goto (-71), 3) := by decide +kernel
theorem d_246_78 : decode (am_b 246) 78 = .ok (.iload_n 2, 1) := by decide +kernel
theorem d_246_79 : decode (am_b 246) 79 = .ok (.ireturn, 1) := by decide +kernel
theorem d_247_0 : decode (am_b 247) 0 = .ok (.iconst 0, 1) := by decide +kernel
theorem d_247_1 : decode (am_b 247) 1 = .ok (.istore_n 1, 1) := by decide +kernel
theorem d_247_2 : decode (am_b 247) 2 = .ok (.iconst 0, 1) := by decide +kernel
theorem d_247_3 : decode (am_b 247) 3 = .ok (.istore_n 2, 1) := by decide +kernel
theorem d_247_4 : decode (am_b 247) 4 = .ok (.iload_n 2, 1) := by decide +kernel
theorem d_247_5 : decode (am_b 247) 5 = .ok (.bipush 16, 2) := by decide +kernel
theorem d_247_7 : decode (am_b 247) 7 = .ok (.if_icmp .ge 17, 3) := by decide +kernel
theorem d_247_10 : decode (am_b 247) 10 = .ok (.iload_n 1, 1) := by decide +kernel
theorem d_247_11 : decode (am_b 247) 11 = .ok (.iload_n 0, 1) := by decide +kernel
theorem d_247_12 : decode (am_b 247) 12 = .ok (.iload_n 2, 1) := by decide +kernel
theorem d_247_13 : decode (am_b 247) 13 = .ok (.ishr, 1) := by decide +kernel
theorem d_247_14 : decode (am_b 247) 14 = .ok (.iconst 1, 1) := by decide +kernel
theorem d_247_15 : decode (am_b 247) 15 = .ok (.iand, 1) := by decide +kernel
theorem d_247_16 : decode (am_b 247) 16 = .ok (.iadd, 1) := by decide +kernel
theorem d_247_17 : decode (am_b 247) 17 = .ok (.istore_n 1, 1) := by decide +kernel
theorem d_247_18 : decode (am_b 247) 18 = .ok (.iinc 2 1, 3) := by decide +kernel
theorem d_247_21 : decode (am_b 247) 21 = .ok (.goto (-17), 3) := by decide +kernel
theorem d_247_24 : decode (am_b 247) 24 = .ok (.iload_n 1, 1) := by decide +kernel
theorem d_247_25 : decode (am_b 247) 25 = .ok (.ireturn, 1) := by decide +kernel
theorem d_248_0 : decode (am_b 248) 0 = .ok (.aload_n 0, 1) := by decide +kernel
theorem d_248_1 : decode (am_b 248) 1 = .ok (.iload_n 1, 1) := by decide +kernel
theorem d_248_2 : decode (am_b 248) 2 = .ok (.invokevirtual 124, 3) := by decide +kernel
theorem d_248_5 : decode (am_b 248) 5 = .ok (.ifCond .ne 5, 3) := by decide +kernel
theorem d_248_8 : decode (am_b 248) 8 = .ok (.iconst (-1), 1) := by decide +kernel
theorem d_248_9 : decode (am_b 248) 9 = .ok (.ireturn, 1) := by decide +kernel
theorem d_248_10 : decode (am_b 248) 10 = .ok (.aload_n 0, 1) := by decide +kernel
theorem d_248_11 : decode (am_b 248) 11 = .ok (.iload_n 1, 1) := by decide +kernel
theorem d_248_12 : decode (am_b 248) 12 = .ok (.invokevirtual 248, 3) := by decide +kernel
theorem d_248_15 : decode (am_b 248) 15 = .ok (.aload_n 0, 1) := by decide +kernel
theorem d_248_16 : decode (am_b 248) 16 = .ok (.iload_n 2, 1) := by decide +kernel
theorem d_248_17 : decode (am_b 248) 17 = .ok (.invokevirtual 283, 3) := by decide +kernel
theorem d_248_20 : decode (am_b 248) 20 = .ok (.ifCond .eq 11, 3) := by decide +kernel
theorem d_248_23 : decode (am_b 248) 23 = .ok (.aload_n 0, 1) := by decide +kernel
theorem d_248_24 : decode (am_b 248) 24 = .ok (.iload_n 2, 1) := by decide +kernel
theorem d_248_25 : decode (am_b 248) 25 = .ok (.invokevirtual 286, 3) := by decide +kernel
theorem d_248_28 : decode (am_b 248) 28 = .ok (.goto 4, 3) := by decide +kernel
theorem d_248_31 : decode (am_b 248) 31 = .ok (.iconst (-1), 1) := by decide +kernel
theorem d_248_32 : decode (am_b 248) 32 = .ok (.ireturn, 1) := by decide +kernel
theorem d_249_0 : decode (am_b 249) 0 = .ok (.aload_n 0, 1) := by decide +kernel
theorem d_249_1 : decode (am_b 249) 1 = .ok (.iload_n 1, 1) := by decide +kernel
theorem d_249_2 : decode (am_b 249) 2 = .ok (.invokevirtual 124, 3) := by decide +kernel
theorem d_249_5 : decode (am_b 249) 5 = .ok (.ifCond .eq 12, 3) := by decide +kernel
theorem d_249_8 : decode (am_b 249) 8 = .ok (.iload_n 2, 1) := by decide +kernel
theorem d_249_9 : decode (am_b 249) 9 = .ok (.iconst 0, 1) := by decide +kernel
theorem d_249_10 : decode (am_b 249) 10 = .ok (.iconst 1, 1) := by decide +kernel
theorem d_249_11 : decode (am_b 249) 11 = .ok (.invokestatic 106, 3) := by decide +kernel
theorem d_249_14 : decode (am_b 249) 14 = .ok (.ifCond .ne 5, 3) := by decide +kernel
theorem d_249_17 : decode (am_b 249) 17 = .ok (.iconst (-1), 1) := by decide +kernel
theorem d_249_18 : decode (am_b 249) 18 = .ok (.ireturn, 1) := by decide +kernel
theorem d_249_19 : decode (am_b 249) 19 = .ok (.aload_n 0, 1) := by decide +kernel
theorem d_249_20 : decode (am_b 249) 20 = .ok (.iload_n 1, 1) := by decide +kernel
theorem d_249_21 : decode (am_b 249) 21 = .ok (.invokevirtual 248, 3) := by decide +kernel
theorem d_249_24 : decode (am_b 249) 24 = .ok (.iload_n 2, 1) := by decide +kernel
theorem d_249_25 : decode (am_b 249) 25 = .ok (.iconst 1, 1) := by decide +kernel
theorem d_249_26 : decode (am_b 249) 26 = .ok (.if_icmp .ne 14, 3) := by decide +kernel
theorem d_249_29 : decode (am_b 249) 29 = .ok (.aload_n 0, 1) := by decide +kernel
theorem d_249_30 : decode (am_b 249) 30 = .ok (.iconst 0, 1) := by decide +kernel
theorem d_249_31 : decode (am_b 249) 31 = .ok (.invokevirtual 223, 3) := by decide +kernel
theorem d_249_34 : decode (am_b 249) 34 = .ok (.iconst (-1), 1) := by decide +kernel
theorem d_249_35 : decode (am_b 249) 35 = .ok (.if_icmp .ne 5, 3) := by decide +kernel
theorem d_249_38 : decode (am_b 249) 38 = .ok (.iconst (-1), 1) := by decide +kernel
theorem d_249_39 : decode (am_b 249) 39 = .ok (.ireturn, 1) := by decide +kernel
theorem d_249_40 : decode (am_b 249) 40 = .ok (.iconst 0, 1) := by decide +kernel
theorem d_249_41 : decode (am_b 249) 41 = .ok (.istore_n 3, 1) := by decide +kernel
theorem d_249_42 : decode (am_b 249) 42 = .ok (.iconst 1, 1) := by decide +kernel
theorem d_249_43 : decode (am_b 249) 43 = .ok (.istore 4, 2) := by decide +kernel
theorem d_249_45 : decode (am_b 249) 45 = .ok (.iload 4, 2) := by decide +kernel
theorem d_249_47 : decode (am_b 249) 47 = .ok (.iconst 1, 1) := by decide +kernel
theorem d_249_48 : decode (am_b 249) 48 = .ok (.aload_n 0, 1) := by decide +kernel
theorem d_249_49 : decode (am_b 249) 49 = .ok (.getfield 127, 3) := by decide +kernel
theorem d_249_52 : decode (am_b 249) 52 = .ok (.ishl, 1) := by decide +kernel
theorem d_249_53 : decode (am_b 249) 53 = .ok (.if_icmp .ge 42, 3) := by decide +kernel
theorem d_249_56 : decode (am_b 249) 56 = .ok (.iload_n 3, 1) := by decide +kernel
theorem d_249_57 : decode (am_b 249) 57 = .ok (.iload_n 2, 1) := by decide +kernel
theorem d_249_58 : decode (am_b 249) 58 = .ok (.ifCond .ne 15, 3) := by decide +kernel
theorem d_249_61 : decode (am_b 249) 61 = .ok (.aload_n 0, 1) := by decide +kernel
theorem d_249_62 : decode (am_b 249) 62 = .ok (.iload 4, 2) := by decide +kernel
theorem d_249_64 : decode (am_b 249) 64 = .ok (.invokevirtual 289, 3) := by decide +kernel
theorem d_249_67 : decode (am_b 249) 67 = .ok (.ifCond .eq 19, 3) := by decide +kernel
theorem d_249_70 : decode (am_b 249) 70 = .ok (.goto 12, 3) := by decide +kernel
theorem d_249_73 : decode (am_b 249) 73 = .ok (.aload_n 0, 1) := by decide +kernel
theorem d_249_74 : decode (am_b 249) 74 = .ok (.iload 4, 2) := by decide +kernel
theorem d_249_76 : decode (am_b 249) 76 = .ok (.invokevirtual 295, 3) := by decide +kernel
theorem d_249_79 : decode (am_b 249) 79 = .ok (.ifCond .eq 7, 3) := by decide +kernel
theorem d_249_82 : decode (am_b 249) 82 = .ok (.iconst 1, 1) := by decide +kernel
theorem d_249_83 : decode (am_b 249) 83 = .ok (.goto 4, 3) := by decide +kernel
theorem d_249_86 : decode (am_b 249) 86 = .ok (.iconst 0, 1) := by decide +kernel
theorem d_249_87 : decode (am_b 249) 87 = .ok (.iadd, 1) := by decide +kernel
theorem d_249_88 : decode (am_b 249) 88 = .ok (.istore_n 3, 1) := by decide +kernel
theorem d_249_89 : decode (am_b 249) 89 = .ok (.iinc 4 1, 3) := by decide +kernel
theorem d_249_92 : decode (am_b 249) 92 = .ok (.goto (-47), 3) := by decide +kernel
theorem d_249_95 : decode (am_b 249) 95 = .ok (.iload_n 3, 1) := by decide +kernel
theorem d_249_96 : decode (am_b 249) 96 = .ok (.ireturn, 1) := by decide +kernel
theorem d_289_0 : decode (am_b 289) 0 = .ok (.aload_n 0, 1) := by decide +kernel
theorem d_289_1 : decode (am_b 289) 1 = .ok (.getfield 100, 3) := by decide +kernel
theorem d_289_4 : decode (am_b 289) 4 = .ok (.ireturn, 1) := by decide +kernel
