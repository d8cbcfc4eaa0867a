theorem dM_takeBut_8 : decode YM_takeBut.2.1 8 = .ok (.aload_n 0, 1) := by decide +kernel
theorem dM_takeBut_9 : decode YM_takeBut.2.1 9 = .ok (.invokevirtual 142, 3) := by decide +kernel
theorem dM_takeBut_12 : decode YM_takeBut.2.1 12 = .ok (.ireturn, 1) := by decide +kernel
theorem dM_takeBut_13 : decode YM_takeBut.2.1 13 = .ok (.aload_n 0, 1) := by decide +kernel
theorem dM_takeBut_14 : decode YM_takeBut.2.1 14 = .ok (.getfield 38, 3) := by decide +kernel
theorem dM_takeBut_17 : decode YM_takeBut.2.1 17 = .ok (.iload_n 1, 1) := by decide +kernel
theorem dM_takeBut_18 : decode YM_takeBut.2.1 18 = .ok (.aload_n 0, 1) := by decide +kernel
theorem dM_takeBut_19 : decode YM_takeBut.2.1 19 = .ok (.getfield 130, 3) := by decide +kernel
theorem dM_takeBut_22 : decode YM_takeBut.2.1 22 = .ok (.iastore, 1) := by decide +kernel
theorem dM_takeBut_23 : decode YM_takeBut.2.1 23 = .ok (.aload_n 0, 1) := by decide +kernel
theorem dM_takeBut_24 : decode YM_takeBut.2.1 24 = .ok (.getfield 130, 3) := by decide +kernel
theorem dM_takeBut_27 : decode YM_takeBut.2.1 27 = .ok (.iload_n 2, 1) := by decide +kernel
theorem dM_takeBut_28 : decode YM_takeBut.2.1 28 = .ok (.iload_n 3, 1) := by decide +kernel
theorem dM_takeBut_29 : decode YM_takeBut.2.1 29 = .ok (.invokestatic 102, 3) := by decide +kernel
theorem dM_takeBut_32 : decode YM_takeBut.2.1 32 = .ok (.ifCond .eq 12, 3) := by decide +kernel
theorem dM_takeBut_35 : decode YM_takeBut.2.1 35 = .ok (.aload_n 0, 1) := by decide +kernel
theorem dM_takeBut_36 : decode YM_takeBut.2.1 36 = .ok (.getfield 130, 3) := by decide +kernel
theorem dM_takeBut_39 : decode YM_takeBut.2.1 39 = .ok (.iload 4, 2) := by decide +kernel
theorem dM_takeBut_41 : decode YM_takeBut.2.1 41 = .ok (.if_icmp .ne 17, 3) := by decide +kernel
theorem dM_takeBut_44 : decode YM_takeBut.2.1 44 = .ok (.aload_n 0, 1) := by decide +kernel
theorem dM_takeBut_45 : decode YM_takeBut.2.1 45 = .ok (.iconst 2, 1) := by decide +kernel
theorem dM_takeBut_46 : decode YM_takeBut.2.1 46 = .ok (.aload_n 0, 1) := by decide +kernel
theorem dM_takeBut_47 : decode YM_takeBut.2.1 47 = .ok (.getfield 120, 3) := by decide +kernel
theorem dM_takeBut_50 : decode YM_takeBut.2.1 50 = .ok (.invokevirtual 146, 3) := by decide +kernel
theorem dM_takeBut_53 : decode YM_takeBut.2.1 53 = .ok (.aload_n 0, 1) := by decide +kernel
theorem dM_takeBut_54 : decode YM_takeBut.2.1 54 = .ok (.iconst 0, 1) := by decide +kernel
theorem dM_takeBut_55 : decode YM_takeBut.2.1 55 = .ok (.putfield 150, 3) := by decide +kernel
theorem dM_takeBut_58 : decode YM_takeBut.2.1 58 = .ok (.aload_n 0, 1) := by decide +kernel
theorem dM_takeBut_59 : decode YM_takeBut.2.1 59 = .ok (.invokevirtual 154, 3) := by decide +kernel
theorem dM_takeBut_62 : decode YM_takeBut.2.1 62 = .ok (.iconst 1, 1) := by decide +kernel
theorem dM_takeBut_63 : decode YM_takeBut.2.1 63 = .ok (.ireturn, 1) := by decide +kernel
theorem dM_take_0 : decode YM_take.2.1 0 = .ok (.aload_n 0, 1) := by decide +kernel
theorem dM_take_1 : decode YM_take.2.1 1 = .ok (.iload_n 1, 1) := by decide +kernel
theorem dM_take_2 : decode YM_take.2.1 2 = .ok (.iload_n 2, 1) := by decide +kernel
theorem dM_take_3 : decode YM_take.2.1 3 = .ok (.iload_n 3, 1) := by decide +kernel
theorem dM_take_4 : decode YM_take.2.1 4 = .ok (.iconst (-1), 1) := by decide +kernel
theorem dM_take_5 : decode YM_take.2.1 5 = .ok (.invokevirtual 157, 3) := by decide +kernel
theorem dM_take_8 : decode YM_take.2.1 8 = .ok (.ireturn, 1) := by decide +kernel
theorem dM_takeHouse_0 : decode YM_takeHouse.2.1 0 = .ok (.aload_n 0, 1) := by decide +kernel
theorem dM_takeHouse_1 : decode YM_takeHouse.2.1 1 = .ok (.iload_n 1, 1) := by decide +kernel
theorem dM_takeHouse_2 : decode YM_takeHouse.2.1 2 = .ok (.iconst 0, 1) := by decide +kernel
theorem dM_takeHouse_3 : decode YM_takeHouse.2.1 3 = .ok (.iconst 5, 1) := by decide +kernel
theorem dM_takeHouse_4 : decode YM_takeHouse.2.1 4 = .ok (.invokevirtual 161, 3) := by decide +kernel
theorem dM_takeHouse_7 : decode YM_takeHouse.2.1 7 = .ok (.ifCond .ne 5, 3) := by decide +kernel
theorem dM_takeHouse_10 : decode YM_takeHouse.2.1 10 = .ok (.iconst 0, 1) := by decide +kernel
theorem dM_takeHouse_11 : decode YM_takeHouse.2.1 11 = .ok (.ireturn, 1) := by decide +kernel
theorem dM_takeHouse_12 : decode YM_takeHouse.2.1 12 = .ok (.aload_n 0, 1) := by decide +kernel
theorem dM_takeHouse_13 : decode YM_takeHouse.2.1 13 = .ok (.aload_n 0, 1) := by decide +kernel
theorem dM_takeHouse_14 : decode YM_takeHouse.2.1 14 = .ok (.getfield 164, 3) := by decide +kernel
theorem dM_takeHouse_17 : decode YM_takeHouse.2.1 17 = .ok (.aload_n 0, 1) := by decide +kernel
theorem dM_takeHouse_18 : decode YM_takeHouse.2.1 18 = .ok (.getfield 38, 3) := by decide +kernel
theorem dM_takeHouse_21 : decode YM_takeHouse.2.1 21 = .ok (.iload_n 1, 1) := by decide +kernel
theorem dM_takeHouse_22 : decode YM_takeHouse.2.1 22 = .ok (.iaload, 1) := by decide +kernel
theorem dM_takeHouse_23 : decode YM_takeHouse.2.1 23 = .ok (.invokestatic 167, 3) := by decide +kernel
theorem dM_takeHouse_26 : decode YM_takeHouse.2.1 26 = .ok (.putfield 164, 3) := by decide +kernel
theorem dM_takeHouse_29 : decode YM_takeHouse.2.1 29 = .ok (.iconst 1, 1) := by decide +kernel
theorem dM_takeHouse_30 : decode YM_takeHouse.2.1 30 = .ok (.ireturn, 1) := by decide +kernel
theorem dM_takeLetter_0 : decode YM_takeLetter.2.1 0 = .ok (.aload_n 0, 1) := by decide +kernel
theorem dM_takeLetter_1 : decode YM_takeLetter.2.1 1 = .ok (.iload_n 1, 1) := by decide +kernel
theorem dM_takeLetter_2 : decode YM_takeLetter.2.1 2 = .ok (.iconst 0, 1) := by decide +kernel
theorem dM_takeLetter_3 : decode YM_takeLetter.2.1 3 = .ok (.bipush 9, 2) := by decide +kernel
theorem dM_takeLetter_5 : decode YM_takeLetter.2.1 5 = .ok (.iload_n 2, 1) := by decide +kernel
theorem dM_takeLetter_6 : decode YM_takeLetter.2.1 6 = .ok (.invokevirtual 157, 3) := by decide +kernel
theorem dM_takeLetter_9 : decode YM_takeLetter.2.1 9 = .ok (.ifCond .ne 5, 3) := by decide +kernel
theorem dM_takeLetter_12 : decode YM_takeLetter.2.1 12 = .ok (.iconst 0, 1) := by decide +kernel
theorem dM_takeLetter_13 : decode YM_takeLetter.2.1 13 = .ok (.ireturn, 1) := by decide +kernel
theorem dM_takeLetter_14 : decode YM_takeLetter.2.1 14 = .ok (.aload_n 0, 1) := by decide +kernel
theorem dM_takeLetter_15 : decode YM_takeLetter.2.1 15 = .ok (.aload_n 0, 1) := by decide +kernel
theorem dM_takeLetter_16 : decode YM_takeLetter.2.1 16 = .ok (.getfield 171, 3) := by decide +kernel
theorem dM_takeLetter_19 : decode YM_takeLetter.2.1 19 = .ok (.aload_n 0, 1) := by decide +kernel
theorem dM_takeLetter_20 : decode YM_takeLetter.2.1 20 = .ok (.getfield 38, 3) := by decide +kernel
theorem dM_takeLetter_23 : decode YM_takeLetter.2.1 23 = .ok (.iload_n 1, 1) := by decide +kernel
theorem dM_takeLetter_24 : decode YM_takeLetter.2.1 24 = .ok (.iaload, 1) := by decide +kernel
theorem dM_takeLetter_25 : decode YM_takeLetter.2.1 25 = .ok (.invokestatic 167, 3) := by decide +kernel
theorem dM_takeLetter_28 : decode YM_takeLetter.2.1 28 = .ok (.putfield 171, 3) := by decide +kernel
theorem dM_takeLetter_31 : decode YM_takeLetter.2.1 31 = .ok (.iconst 1, 1) := by decide +kernel
theorem dM_takeLetter_32 : decode YM_takeLetter.2.1 32 = .ok (.ireturn, 1) := by decide +kernel
theorem dM_takeKind_0 : decode YM_takeKind.2.1 0 = .ok (.aload_n 0, 1) := by decide +kernel
theorem dM_takeKind_1 : decode YM_takeKind.2.1 1 = .ok (.getfield 127, 3) := by decide +kernel
theorem dM_takeKind_4 : decode YM_takeKind.2.1 4 = .ok (.iconst 2, 1) := by decide +kernel
theorem dM_takeKind_5 : decode YM_takeKind.2.1 5 = .ok (.if_icmp .eq 7, 3) := by decide +kernel
theorem dM_takeKind_8 : decode YM_takeKind.2.1 8 = .ok (.iconst (-1), 1) := by decide +kernel
theorem dM_takeKind_9 : decode YM_takeKind.2.1 9 = .ok (.goto 64, 3) := by decide +kernel
theorem dM_takeKind_12 : decode YM_takeKind.2.1 12 = .ok (.aload_n 0, 1) := by decide +kernel
theorem dM_takeKind_13 : decode YM_takeKind.2.1 13 = .ok (.getfield 123, 3) := by decide +kernel
theorem dM_takeKind_16 : decode YM_takeKind.2.1 16 = .ok (.ldc2_w 174, 3) := by decide +kernel
theorem dM_takeKind_19 : decode YM_takeKind.2.1 19 = .ok (.lcmp, 1) := by decide +kernel
theorem dM_takeKind_20 : decode YM_takeKind.2.1 20 = .ok (.ifCond .ne 7, 3) := by decide +kernel
theorem dM_takeKind_23 : decode YM_takeKind.2.1 23 = .ok (.iconst 0, 1) := by decide +kernel
theorem dM_takeKind_24 : decode YM_takeKind.2.1 24 = .ok (.goto 49, 3) := by decide +kernel
theorem dM_takeKind_27 : decode YM_takeKind.2.1 27 = .ok (.aload_n 0, 1) := by decide +kernel
theorem dM_takeKind_28 : decode YM_takeKind.2.1 28 = .ok (.getfield 123, 3) := by decide +kernel
theorem dM_takeKind_31 : decode YM_takeKind.2.1 31 = .ok (.ldc2_w 176, 3) := by decide +kernel
theorem dM_takeKind_34 : decode YM_takeKind.2.1 34 = .ok (.lcmp, 1) := by decide +kernel
theorem dM_takeKind_35 : decode YM_takeKind.2.1 35 = .ok (.ifCond .ne 7, 3) := by decide +kernel
theorem dM_takeKind_38 : decode YM_takeKind.2.1 38 = .ok (.iconst 1, 1) := by decide +kernel
theorem dM_takeKind_39 : decode YM_takeKind.2.1 39 = .ok (.goto 34, 3) := by decide +kernel
theorem dM_takeKind_42 : decode YM_takeKind.2.1 42 = .ok (.aload_n 0, 1) := by decide +kernel
theorem dM_takeKind_43 : decode YM_takeKind.2.1 43 = .ok (.getfield 123, 3) := by decide +kernel
theorem dM_takeKind_46 : decode YM_takeKind.2.1 46 = .ok (.ldc2_w 178, 3) := by decide +kernel
theorem dM_takeKind_49 : decode YM_takeKind.2.1 49 = .ok (.lcmp, 1) := by decide +kernel
theorem dM_takeKind_50 : decode YM_takeKind.2.1 50 = .ok (.ifCond .ne 7, 3) := by decide +kernel
theorem dM_takeKind_53 : decode YM_takeKind.2.1 53 = .ok (.iconst 2, 1) := by decide +kernel
theorem dM_takeKind_54 : decode YM_takeKind.2.1 54 = .ok (.goto 19, 3) := by decide +kernel
theorem dM_takeKind_57 : decode YM_takeKind.2.1 57 = .ok (.aload_n 0, 1) := by decide +kernel
theorem dM_takeKind_58 : decode YM_takeKind.2.1 58 = .ok (.getfield 123, 3) := by decide +kernel
theorem dM_takeKind_61 : decode YM_takeKind.2.1 61 = .ok (.ldc2_w 180, 3) := by decide +kernel
theorem dM_takeKind_64 : decode YM_takeKind.2.1 64 = .ok (.lcmp, 1) := by decide +kernel
theorem dM_takeKind_65 : decode YM_takeKind.2.1 65 = .ok (.ifCond .ne 7, 3) := by decide +kernel
theorem dM_takeKind_68 : decode YM_takeKind.2.1 68 = .ok (.iconst 3, 1) := by decide +kernel
theorem dM_takeKind_69 : decode YM_takeKind.2.1 69 = .ok (.goto 4, 3) := by decide +kernel
theorem dM_takeKind_72 : decode YM_takeKind.2.1 72 = .ok (.iconst (-1), 1) := by decide +kernel
theorem dM_takeKind_73 : decode YM_takeKind.2.1 73 = .ok (.istore_n 2, 1) := by decide +kernel
theorem dM_takeKind_74 : decode YM_takeKind.2.1 74 = .ok (.iload_n 2, 1) := by decide +kernel
theorem dM_takeKind_75 : decode YM_takeKind.2.1 75 = .ok (.iconst (-1), 1) := by decide +kernel
theorem dM_takeKind_76 : decode YM_takeKind.2.1 76 = .ok (.if_icmp .ne 8, 3) := by decide +kernel
theorem dM_takeKind_79 : decode YM_takeKind.2.1 79 = .ok (.aload_n 0, 1) := by decide +kernel
theorem dM_takeKind_80 : decode YM_takeKind.2.1 80 = .ok (.invokevirtual 142, 3) := by decide +kernel
theorem dM_takeKind_83 : decode YM_takeKind.2.1 83 = .ok (.ireturn, 1) := by decide +kernel
theorem dM_takeKind_84 : decode YM_takeKind.2.1 84 = .ok (.aload_n 0, 1) := by decide +kernel
theorem dM_takeKind_85 : decode YM_takeKind.2.1 85 = .ok (.getfield 38, 3) := by decide +kernel
theorem dM_takeKind_88 : decode YM_takeKind.2.1 88 = .ok (.iload_n 1, 1) := by decide +kernel
theorem dM_takeKind_89 : decode YM_takeKind.2.1 89 = .ok (.iload_n 2, 1) := by decide +kernel
theorem dM_takeKind_90 : decode YM_takeKind.2.1 90 = .ok (.iastore, 1) := by decide +kernel
theorem dM_takeKind_91 : decode YM_takeKind.2.1 91 = .ok (.aload_n 0, 1) := by decide +kernel
theorem dM_takeKind_92 : decode YM_takeKind.2.1 92 = .ok (.invokevirtual 154, 3) := by decide +kernel
theorem dM_takeKind_95 : decode YM_takeKind.2.1 95 = .ok (.iconst 1, 1) := by decide +kernel
theorem dM_takeKind_96 : decode YM_takeKind.2.1 96 = .ok (.ireturn, 1) := by decide +kernel
theorem dM_full_0 : decode YM_full.2.1 0 = .ok (.aload_n 0, 1) := by decide +kernel
theorem dM_full_1 : decode YM_full.2.1 1 = .ok (.getfield 35, 3) := by decide +kernel
theorem dM_full_4 : decode YM_full.2.1 4 = .ok (.iload_n 1, 1) := by decide +kernel
theorem dM_full_5 : decode YM_full.2.1 5 = .ok (.iaload, 1) := by decide +kernel
theorem dM_full_6 : decode YM_full.2.1 6 = .ok (.iload_n 2, 1) := by decide +kernel
theorem dM_full_7 : decode YM_full.2.1 7 = .ok (.if_icmp .ne 9, 3) := by decide +kernel
theorem dM_full_10 : decode YM_full.2.1 10 = .ok (.aload_n 0, 1) := by decide +kernel
theorem dM_full_11 : decode YM_full.2.1 11 = .ok (.iconst 3, 1) := by decide +kernel
theorem dM_full_12 : decode YM_full.2.1 12 = .ok (.iload_n 3, 1) := by decide +kernel
theorem dM_full_13 : decode YM_full.2.1 13 = .ok (.invokevirtual 146, 3) := by decide +kernel
theorem dM_full_16 : decode YM_full.2.1 16 = .ok (.return_, 1) := by decide +kernel
theorem dM_letterLine_0 : decode YM_letterLine.2.1 0 = .ok (.aload_n 0, 1) := by decide +kernel
theorem dM_letterLine_1 : decode YM_letterLine.2.1 1 = .ok (.iconst 0, 1) := by decide +kernel
theorem dM_letterLine_2 : decode YM_letterLine.2.1 2 = .ok (.invokevirtual 182, 3) := by decide +kernel
theorem dM_letterLine_5 : decode YM_letterLine.2.1 5 = .ok (.ifCond .eq 22, 3) := by decide +kernel
theorem dM_letterLine_8 : decode YM_letterLine.2.1 8 = .ok (.aload_n 0, 1) := by decide +kernel
theorem dM_letterLine_9 : decode YM_letterLine.2.1 9 = .ok (.iconst 1, 1) := by decide +kernel
theorem dM_letterLine_10 : decode YM_letterLine.2.1 10 = .ok (.invokevirtual 186, 3) := by decide +kernel
theorem dM_letterLine_13 : decode YM_letterLine.2.1 13 = .ok (.ifCond .eq 14, 3) := by decide +kernel
theorem dM_letterLine_16 : decode YM_letterLine.2.1 16 = .ok (.aload_n 0, 1) := by decide +kernel
theorem dM_letterLine_17 : decode YM_letterLine.2.1 17 = .ok (.iconst 2, 1) := by decide +kernel
theorem dM_letterLine_18 : decode YM_letterLine.2.1 18 = .ok (.iconst 1, 1) := by decide +kernel
theorem dM_letterLine_19 : decode YM_letterLine.2.1 19 = .ok (.bipush 9, 2) := by decide +kernel
theorem dM_letterLine_21 : decode YM_letterLine.2.1 21 = .ok (.invokevirtual 161, 3) := by decide +kernel
theorem dM_letterLine_24 : decode YM_letterLine.2.1 24 = .ok (.ifCond .ne 5, 3) := by decide +kernel
theorem dM_letterLine_27 : decode YM_letterLine.2.1 27 = .ok (.iconst 0, 1) := by decide +kernel
theorem dM_letterLine_28 : decode YM_letterLine.2.1 28 = .ok (.ireturn, 1) := by decide +kernel
theorem dM_letterLine_29 : decode YM_letterLine.2.1 29 = .ok (.aload_n 0, 1) := by decide +kernel
theorem dM_letterLine_30 : decode YM_letterLine.2.1 30 = .ok (.getfield 35, 3) := by decide +kernel
theorem dM_letterLine_33 : decode YM_letterLine.2.1 33 = .ok (.iconst 1, 1) := by decide +kernel
theorem dM_letterLine_34 : decode YM_letterLine.2.1 34 = .ok (.iaload, 1) := by decide +kernel
theorem dM_letterLine_35 : decode YM_letterLine.2.1 35 = .ok (.istore_n 1, 1) := by decide +kernel
theorem dM_letterLine_36 : decode YM_letterLine.2.1 36 = .ok (.iload_n 1, 1) := by decide +kernel
theorem dM_letterLine_37 : decode YM_letterLine.2.1 37 = .ok (.bipush 10, 2) := by decide +kernel
theorem dM_letterLine_39 : decode YM_letterLine.2.1 39 = .ok (.if_icmp .ge 46, 3) := by decide +kernel
theorem dM_letterLine_42 : decode YM_letterLine.2.1 42 = .ok (.iconst 0, 1) := by decide +kernel
theorem dM_letterLine_43 : decode YM_letterLine.2.1 43 = .ok (.istore_n 2, 1) := by decide +kernel
theorem dM_letterLine_44 : decode YM_letterLine.2.1 44 = .ok (.iload_n 2, 1) := by decide +kernel
theorem dM_letterLine_45 : decode YM_letterLine.2.1 45 = .ok (.iconst 3, 1) := by decide +kernel
theorem dM_letterLine_46 : decode YM_letterLine.2.1 46 = .ok (.if_icmp .ge 29, 3) := by decide +kernel
theorem dM_letterLine_49 : decode YM_letterLine.2.1 49 = .ok (.aload_n 0, 1) := by decide +kernel
theorem dM_letterLine_50 : decode YM_letterLine.2.1 50 = .ok (.getfield 35, 3) := by decide +kernel
theorem dM_letterLine_53 : decode YM_letterLine.2.1 53 = .ok (.bipush 9, 2) := by decide +kernel
theorem dM_letterLine_55 : decode YM_letterLine.2.1 55 = .ok (.bipush 10, 2) := by decide +kernel
theorem dM_letterLine_57 : decode YM_letterLine.2.1 57 = .ok (.iload_n 2, 1) := by decide +kernel
theorem dM_letterLine_58 : decode YM_letterLine.2.1 58 = .ok (.imul, 1) := by decide +kernel
theorem dM_letterLine_59 : decode YM_letterLine.2.1 59 = .ok (.iadd, 1) := by decide +kernel
theorem dM_letterLine_60 : decode YM_letterLine.2.1 60 = .ok (.iload_n 1, 1) := by decide +kernel
theorem dM_letterLine_61 : decode YM_letterLine.2.1 61 = .ok (.iadd, 1) := by decide +kernel
theorem dM_letterLine_62 : decode YM_letterLine.2.1 62 = .ok (.aload_n 0, 1) := by decide +kernel
theorem dM_letterLine_63 : decode YM_letterLine.2.1 63 = .ok (.getfield 38, 3) := by decide +kernel
theorem dM_letterLine_66 : decode YM_letterLine.2.1 66 = .ok (.iload_n 2, 1) := by decide +kernel
theorem dM_letterLine_67 : decode YM_letterLine.2.1 67 = .ok (.iaload, 1) := by decide +kernel
theorem dM_letterLine_68 : decode YM_letterLine.2.1 68 = .ok (.iastore, 1) := by decide +kernel
theorem dM_letterLine_69 : decode YM_letterLine.2.1 69 = .ok (.iinc 2 1, 3) := by decide +kernel
theorem dM_letterLine_72 : decode YM_letterLine.2.1 72 = .ok (.goto (-28), 3) := by decide +kernel
theorem dM_letterLine_75 : decode YM_letterLine.2.1 75 = .ok (.aload_n 0, 1) := by decide +kernel
theorem dM_letterLine_76 : decode YM_letterLine.2.1 76 = .ok (.getfield 35, 3) := by decide +kernel
theorem dM_letterLine_79 : decode YM_letterLine.2.1 79 = .ok (.iconst 1, 1) := by decide +kernel
theorem dM_letterLine_80 : decode YM_letterLine.2.1 80 = .ok (.dup2, 1) := by decide +kernel
theorem dM_letterLine_81 : decode YM_letterLine.2.1 81 = .ok (.iaload, 1) := by decide +kernel
theorem dM_letterLine_82 : decode YM_letterLine.2.1 82 = .ok (.iconst 1, 1) := by decide +kernel
theorem dM_letterLine_83 : decode YM_letterLine.2.1 83 = .ok (.iadd, 1) := by decide +kernel
theorem dM_letterLine_84 : decode YM_letterLine.2.1 84 = .ok (.iastore, 1) := by decide +kernel
theorem dM_letterLine_85 : decode YM_letterLine.2.1 85 = .ok (.iconst 1, 1) := by decide +kernel
theorem dM_letterLine_86 : decode YM_letterLine.2.1 86 = .ok (.ireturn, 1) := by decide +kernel
theorem dM_lawLine_0 : decode YM_lawLine.2.1 0 = .ok (.aload_n 0, 1) := by decide +kernel
theorem dM_lawLine_1 : decode YM_lawLine.2.1 1 = .ok (.iconst 0, 1) := by decide +kernel
theorem dM_lawLine_2 : decode YM_lawLine.2.1 2 = .ok (.invokevirtual 186, 3) := by decide +kernel
theorem dM_lawLine_5 : decode YM_lawLine.2.1 5 = .ok (.ifCond .eq 11, 3) := by decide +kernel
theorem dM_lawLine_8 : decode YM_lawLine.2.1 8 = .ok (.aload_n 0, 1) := by decide +kernel
theorem dM_lawLine_9 : decode YM_lawLine.2.1 9 = .ok (.iconst 1, 1) := by decide +kernel
theorem dM_lawLine_10 : decode YM_lawLine.2.1 10 = .ok (.invokevirtual 186, 3) := by decide +kernel
theorem dM_lawLine_13 : decode YM_lawLine.2.1 13 = .ok (.ifCond .ne 5, 3) := by decide +kernel
theorem dM_lawLine_16 : decode YM_lawLine.2.1 16 = .ok (.iconst 0, 1) := by decide +kernel
theorem dM_lawLine_17 : decode YM_lawLine.2.1 17 = .ok (.ireturn, 1) := by decide +kernel
theorem dM_lawLine_18 : decode YM_lawLine.2.1 18 = .ok (.bipush 59, 2) := by decide +kernel
theorem dM_lawLine_20 : decode YM_lawLine.2.1 20 = .ok (.iconst 4, 1) := by decide +kernel
theorem dM_lawLine_21 : decode YM_lawLine.2.1 21 = .ok (.aload_n 0, 1) := by decide +kernel
theorem dM_lawLine_22 : decode YM_lawLine.2.1 22 = .ok (.getfield 38, 3) := by decide +kernel
theorem dM_lawLine_25 : decode YM_lawLine.2.1 25 = .ok (.iconst 0, 1) := by decide +kernel
theorem dM_lawLine_26 : decode YM_lawLine.2.1 26 = .ok (.iaload, 1) := by decide +kernel
theorem dM_lawLine_27 : decode YM_lawLine.2.1 27 = .ok (.imul, 1) := by decide +kernel
theorem dM_lawLine_28 : decode YM_lawLine.2.1 28 = .ok (.iadd, 1) := by decide +kernel
theorem dM_lawLine_29 : decode YM_lawLine.2.1 29 = .ok (.aload_n 0, 1) := by decide +kernel
theorem dM_lawLine_30 : decode YM_lawLine.2.1 30 = .ok (.getfield 38, 3) := by decide +kernel
theorem dM_lawLine_33 : decode YM_lawLine.2.1 33 = .ok (.iconst 1, 1) := by decide +kernel
theorem dM_lawLine_34 : decode YM_lawLine.2.1 34 = .ok (.iaload, 1) := by decide +kernel
theorem dM_lawLine_35 : decode YM_lawLine.2.1 35 = .ok (.iadd, 1) := by decide +kernel
theorem dM_lawLine_36 : decode YM_lawLine.2.1 36 = .ok (.istore_n 2, 1) := by decide +kernel
theorem dM_lawLine_37 : decode YM_lawLine.2.1 37 = .ok (.aload_n 0, 1) := by decide +kernel
theorem dM_lawLine_38 : decode YM_lawLine.2.1 38 = .ok (.getfield 35, 3) := by decide +kernel
theorem dM_lawLine_41 : decode YM_lawLine.2.1 41 = .ok (.iload_n 2, 1) := by decide +kernel
theorem dM_lawLine_42 : decode YM_lawLine.2.1 42 = .ok (.iaload, 1) := by decide +kernel
theorem dM_lawLine_43 : decode YM_lawLine.2.1 43 = .ok (.iconst (-1), 1) := by decide +kernel
theorem dM_lawLine_44 : decode YM_lawLine.2.1 44 = .ok (.if_icmp .ne 7, 3) := by decide +kernel
theorem dM_lawLine_47 : decode YM_lawLine.2.1 47 = .ok (.iconst 1, 1) := by decide +kernel
theorem dM_lawLine_48 : decode YM_lawLine.2.1 48 = .ok (.goto 4, 3) := by decide +kernel
theorem dM_lawLine_51 : decode YM_lawLine.2.1 51 = .ok (.iconst 0, 1) := by decide +kernel
theorem dM_lawLine_52 : decode YM_lawLine.2.1 52 = .ok (.istore_n 3, 1) := by decide +kernel
theorem dM_lawLine_53 : decode YM_lawLine.2.1 53 = .ok (.iload_n 3, 1) := by decide +kernel
theorem dM_lawLine_54 : decode YM_lawLine.2.1 54 = .ok (.ifCond .eq 11, 3) := by decide +kernel
theorem dM_lawLine_57 : decode YM_lawLine.2.1 57 = .ok (.aload_n 0, 1) := by decide +kernel
theorem dM_lawLine_58 : decode YM_lawLine.2.1 58 = .ok (.iconst 2, 1) := by decide +kernel
theorem dM_lawLine_59 : decode YM_lawLine.2.1 59 = .ok (.bipush 8, 2) := by decide +kernel
theorem dM_lawLine_61 : decode YM_lawLine.2.1 61 = .ok (.iload_n 1, 1) := by decide +kernel
theorem dM_lawLine_62 : decode YM_lawLine.2.1 62 = .ok (.invokevirtual 189, 3) := by decide +kernel
theorem dM_lawLine_65 : decode YM_lawLine.2.1 65 = .ok (.aload_n 0, 1) := by decide +kernel
theorem dM_lawLine_66 : decode YM_lawLine.2.1 66 = .ok (.iconst 2, 1) := by decide +kernel
theorem dM_lawLine_67 : decode YM_lawLine.2.1 67 = .ok (.iconst 0, 1) := by decide +kernel
theorem dM_lawLine_68 : decode YM_lawLine.2.1 68 = .ok (.bipush 9, 2) := by decide +kernel
theorem dM_lawLine_70 : decode YM_lawLine.2.1 70 = .ok (.invokevirtual 161, 3) := by decide +kernel
theorem dM_lawLine_73 : decode YM_lawLine.2.1 73 = .ok (.ifCond .ne 5, 3) := by decide +kernel
theorem dM_lawLine_76 : decode YM_lawLine.2.1 76 = .ok (.iconst 0, 1) := by decide +kernel
theorem dM_lawLine_77 : decode YM_lawLine.2.1 77 = .ok (.ireturn, 1) := by decide +kernel
theorem dM_lawLine_78 : decode YM_lawLine.2.1 78 = .ok (.iload_n 3, 1) := by decide +kernel
theorem dM_lawLine_79 : decode YM_lawLine.2.1 79 = .ok (.ifCond .eq 14, 3) := by decide +kernel
theorem dM_lawLine_82 : decode YM_lawLine.2.1 82 = .ok (.aload_n 0, 1) := by decide +kernel
theorem dM_lawLine_83 : decode YM_lawLine.2.1 83 = .ok (.getfield 35, 3) := by decide +kernel
theorem dM_lawLine_86 : decode YM_lawLine.2.1 86 = .ok (.iconst 2, 1) := by decide +kernel
theorem dM_lawLine_87 : decode YM_lawLine.2.1 87 = .ok (.iaload, 1) := by decide +kernel
theorem dM_lawLine_88 : decode YM_lawLine.2.1 88 = .ok (.bipush 8, 2) := by decide +kernel
theorem dM_lawLine_90 : decode YM_lawLine.2.1 90 = .ok (.if_icmp .ge 33, 3) := by decide +kernel
theorem dM_lawLine_93 : decode YM_lawLine.2.1 93 = .ok (.aload_n 0, 1) := by decide +kernel
theorem dM_lawLine_94 : decode YM_lawLine.2.1 94 = .ok (.getfield 35, 3) := by decide +kernel
theorem dM_lawLine_97 : decode YM_lawLine.2.1 97 = .ok (.iload_n 2, 1) := by decide +kernel
theorem dM_lawLine_98 : decode YM_lawLine.2.1 98 = .ok (.aload_n 0, 1) := by decide +kernel
theorem dM_lawLine_99 : decode YM_lawLine.2.1 99 = .ok (.getfield 38, 3) := by decide +kernel
theorem dM_lawLine_102 : decode YM_lawLine.2.1 102 = .ok (.iconst 2, 1) := by decide +kernel
theorem dM_lawLine_103 : decode YM_lawLine.2.1 103 = .ok (.iaload, 1) := by decide +kernel
theorem dM_lawLine_104 : decode YM_lawLine.2.1 104 = .ok (.iastore, 1) := by decide +kernel
theorem dM_lawLine_105 : decode YM_lawLine.2.1 105 = .ok (.aload_n 0, 1) := by decide +kernel
theorem dM_lawLine_106 : decode YM_lawLine.2.1 106 = .ok (.getfield 35, 3) := by decide +kernel
theorem dM_lawLine_109 : decode YM_lawLine.2.1 109 = .ok (.iconst 2, 1) := by decide +kernel
theorem dM_lawLine_110 : decode YM_lawLine.2.1 110 = .ok (.dup2, 1) := by decide +kernel
theorem dM_lawLine_111 : decode YM_lawLine.2.1 111 = .ok (.iaload, 1) := by decide +kernel
theorem dM_lawLine_112 : decode YM_lawLine.2.1 112 = .ok (.iload_n 3, 1) := by decide +kernel
theorem dM_lawLine_113 : decode YM_lawLine.2.1 113 = .ok (.ifCond .eq 7, 3) := by decide +kernel
theorem dM_lawLine_116 : decode YM_lawLine.2.1 116 = .ok (.iconst 1, 1) := by decide +kernel
theorem dM_lawLine_117 : decode YM_lawLine.2.1 117 = .ok (.goto 4, 3) := by decide +kernel
theorem dM_lawLine_120 : decode YM_lawLine.2.1 120 = .ok (.iconst 0, 1) := by decide +kernel
theorem dM_lawLine_121 : decode YM_lawLine.2.1 121 = .ok (.iadd, 1) := by decide +kernel
theorem dM_lawLine_122 : decode YM_lawLine.2.1 122 = .ok (.iastore, 1) := by decide +kernel
theorem dM_lawLine_123 : decode YM_lawLine.2.1 123 = .ok (.iconst 1, 1) := by decide +kernel
theorem dM_lawLine_124 : decode YM_lawLine.2.1 124 = .ok (.ireturn, 1) := by decide +kernel
theorem dM_mindsLine_0 : decode YM_mindsLine.2.1 0 = .ok (.aload_n 0, 1) := by decide +kernel
theorem dM_mindsLine_1 : decode YM_mindsLine.2.1 1 = .ok (.iconst 0, 1) := by decide +kernel
theorem dM_mindsLine_2 : decode YM_mindsLine.2.1 2 = .ok (.iconst (-1), 1) := by decide +kernel
theorem dM_mindsLine_3 : decode YM_mindsLine.2.1 3 = .ok (.invokevirtual 193, 3) := by decide +kernel
theorem dM_mindsLine_6 : decode YM_mindsLine.2.1 6 = .ok (.ifCond .eq 27, 3) := by decide +kernel
theorem dM_mindsLine_9 : decode YM_mindsLine.2.1 9 = .ok (.aload_n 0, 1) := by decide +kernel
theorem dM_mindsLine_10 : decode YM_mindsLine.2.1 10 = .ok (.iconst 1, 1) := by decide +kernel
theorem dM_mindsLine_11 : decode YM_mindsLine.2.1 11 = .ok (.aload_n 0, 1) := by decide +kernel
theorem dM_mindsLine_12 : decode YM_mindsLine.2.1 12 = .ok (.getfield 38, 3) := by decide +kernel
theorem dM_mindsLine_15 : decode YM_mindsLine.2.1 15 = .ok (.iconst 0, 1) := by decide +kernel
theorem dM_mindsLine_16 : decode YM_mindsLine.2.1 16 = .ok (.iaload, 1) := by decide +kernel
theorem dM_mindsLine_17 : decode YM_mindsLine.2.1 17 = .ok (.invokevirtual 193, 3) := by decide +kernel
theorem dM_mindsLine_20 : decode YM_mindsLine.2.1 20 = .ok (.ifCond .eq 13, 3) := by decide +kernel
theorem dM_mindsLine_23 : decode YM_mindsLine.2.1 23 = .ok (.aload_n 0, 1) := by decide +kernel
theorem dM_mindsLine_24 : decode YM_mindsLine.2.1 24 = .ok (.iconst 2, 1) := by decide +kernel
theorem dM_mindsLine_25 : decode YM_mindsLine.2.1 25 = .ok (.iconst 0, 1) := by decide +kernel
theorem dM_mindsLine_26 : decode YM_mindsLine.2.1 26 = .ok (.iconst 3, 1) := by decide +kernel
theorem dM_mindsLine_27 : decode YM_mindsLine.2.1 27 = .ok (.invokevirtual 161, 3) := by decide +kernel
theorem dM_mindsLine_30 : decode YM_mindsLine.2.1 30 = .ok (.ifCond .ne 5, 3) := by decide +kernel
theorem dM_mindsLine_33 : decode YM_mindsLine.2.1 33 = .ok (.iconst 0, 1) := by decide +kernel
theorem dM_mindsLine_34 : decode YM_mindsLine.2.1 34 = .ok (.ireturn, 1) := by decide +kernel
theorem dM_mindsLine_35 : decode YM_mindsLine.2.1 35 = .ok (.aload_n 0, 1) := by decide +kernel
theorem dM_mindsLine_36 : decode YM_mindsLine.2.1 36 = .ok (.getfield 150, 3) := by decide +kernel
theorem dM_mindsLine_39 : decode YM_mindsLine.2.1 39 = .ok (.ifCond .eq 43, 3) := by decide +kernel
theorem dM_mindsLine_42 : decode YM_mindsLine.2.1 42 = .ok (.aload_n 0, 1) := by decide +kernel
theorem dM_mindsLine_43 : decode YM_mindsLine.2.1 43 = .ok (.getfield 35, 3) := by decide +kernel
theorem dM_mindsLine_46 : decode YM_mindsLine.2.1 46 = .ok (.bipush 39, 2) := by decide +kernel
theorem dM_mindsLine_48 : decode YM_mindsLine.2.1 48 = .ok (.aload_n 0, 1) := by decide +kernel
theorem dM_mindsLine_49 : decode YM_mindsLine.2.1 49 = .ok (.getfield 38, 3) := by decide +kernel
theorem dM_mindsLine_52 : decode YM_mindsLine.2.1 52 = .ok (.iconst 0, 1) := by decide +kernel
theorem dM_mindsLine_53 : decode YM_mindsLine.2.1 53 = .ok (.iaload, 1) := by decide +kernel
theorem dM_mindsLine_54 : decode YM_mindsLine.2.1 54 = .ok (.iadd, 1) := by decide +kernel
theorem dM_mindsLine_55 : decode YM_mindsLine.2.1 55 = .ok (.aload_n 0, 1) := by decide +kernel
theorem dM_mindsLine_56 : decode YM_mindsLine.2.1 56 = .ok (.getfield 38, 3) := by decide +kernel
theorem dM_mindsLine_59 : decode YM_mindsLine.2.1 59 = .ok (.iconst 1, 1) := by decide +kernel
theorem dM_mindsLine_60 : decode YM_mindsLine.2.1 60 = .ok (.iaload, 1) := by decide +kernel
theorem dM_mindsLine_61 : decode YM_mindsLine.2.1 61 = .ok (.iastore, 1) := by decide +kernel
theorem dM_mindsLine_62 : decode YM_mindsLine.2.1 62 = .ok (.aload_n 0, 1) := by decide +kernel
theorem dM_mindsLine_63 : decode YM_mindsLine.2.1 63 = .ok (.getfield 35, 3) := by decide +kernel
theorem dM_mindsLine_66 : decode YM_mindsLine.2.1 66 = .ok (.bipush 49, 2) := by decide +kernel
theorem dM_mindsLine_68 : decode YM_mindsLine.2.1 68 = .ok (.aload_n 0, 1) := by decide +kernel
theorem dM_mindsLine_69 : decode YM_mindsLine.2.1 69 = .ok (.getfield 38, 3) := by decide +kernel
theorem dM_mindsLine_72 : decode YM_mindsLine.2.1 72 = .ok (.iconst 0, 1) := by decide +kernel
theorem dM_mindsLine_73 : decode YM_mindsLine.2.1 73 = .ok (.iaload, 1) := by decide +kernel
theorem dM_mindsLine_74 : decode YM_mindsLine.2.1 74 = .ok (.iadd, 1) := by decide +kernel
theorem dM_mindsLine_75 : decode YM_mindsLine.2.1 75 = .ok (.aload_n 0, 1) := by decide +kernel
theorem dM_mindsLine_76 : decode YM_mindsLine.2.1 76 = .ok (.getfield 38, 3) := by decide +kernel
theorem dM_mindsLine_79 : decode YM_mindsLine.2.1 79 = .ok (.iconst 2, 1) := by decide +kernel
theorem dM_mindsLine_80 : decode YM_mindsLine.2.1 80 = .ok (.iaload, 1) := by decide +kernel
theorem dM_mindsLine_81 : decode YM_mindsLine.2.1 81 = .ok (.iastore, 1) := by decide +kernel
theorem dM_mindsLine_82 : decode YM_mindsLine.2.1 82 = .ok (.iconst 1, 1) := by decide +kernel
theorem dM_mindsLine_83 : decode YM_mindsLine.2.1 83 = .ok (.ireturn, 1) := by decide +kernel
theorem dM_moodLine_0 : decode YM_moodLine.2.1 0 = .ok (.aload_n 0, 1) := by decide +kernel
theorem dM_moodLine_1 : decode YM_moodLine.2.1 1 = .ok (.iconst 0, 1) := by decide +kernel
theorem dM_moodLine_2 : decode YM_moodLine.2.1 2 = .ok (.invokevirtual 182, 3) := by decide +kernel
theorem dM_moodLine_5 : decode YM_moodLine.2.1 5 = .ok (.ifCond .eq 14, 3) := by decide +kernel
theorem dM_moodLine_8 : decode YM_moodLine.2.1 8 = .ok (.aload_n 0, 1) := by decide +kernel
theorem dM_moodLine_9 : decode YM_moodLine.2.1 9 = .ok (.iconst 1, 1) := by decide +kernel
theorem dM_moodLine_10 : decode YM_moodLine.2.1 10 = .ok (.iconst 0, 1) := by decide +kernel
theorem dM_moodLine_11 : decode YM_moodLine.2.1 11 = .ok (.bipush 50, 2) := by decide +kernel
theorem dM_moodLine_13 : decode YM_moodLine.2.1 13 = .ok (.invokevirtual 161, 3) := by decide +kernel
theorem dM_moodLine_16 : decode YM_moodLine.2.1 16 = .ok (.ifCond .ne 5, 3) := by decide +kernel
theorem dM_moodLine_19 : decode YM_moodLine.2.1 19 = .ok (.iconst 0, 1) := by decide +kernel
theorem dM_moodLine_20 : decode YM_moodLine.2.1 20 = .ok (.ireturn, 1) := by decide +kernel
theorem dM_moodLine_21 : decode YM_moodLine.2.1 21 = .ok (.aload_n 0, 1) := by decide +kernel
theorem dM_moodLine_22 : decode YM_moodLine.2.1 22 = .ok (.getfield 150, 3) := by decide +kernel
theorem dM_moodLine_25 : decode YM_moodLine.2.1 25 = .ok (.ifCond .eq 22, 3) := by decide +kernel
theorem dM_moodLine_28 : decode YM_moodLine.2.1 28 = .ok (.aload_n 0, 1) := by decide +kernel
theorem dM_moodLine_29 : decode YM_moodLine.2.1 29 = .ok (.getfield 35, 3) := by decide +kernel
theorem dM_moodLine_32 : decode YM_moodLine.2.1 32 = .ok (.iconst 3, 1) := by decide +kernel
theorem dM_moodLine_33 : decode YM_moodLine.2.1 33 = .ok (.aload_n 0, 1) := by decide +kernel
theorem dM_moodLine_34 : decode YM_moodLine.2.1 34 = .ok (.getfield 38, 3) := by decide +kernel
theorem dM_moodLine_37 : decode YM_moodLine.2.1 37 = .ok (.iconst 0, 1) := by decide +kernel
theorem dM_moodLine_38 : decode YM_moodLine.2.1 38 = .ok (.iaload, 1) := by decide +kernel
theorem dM_moodLine_39 : decode YM_moodLine.2.1 39 = .ok (.iadd, 1) := by decide +kernel
theorem dM_moodLine_40 : decode YM_moodLine.2.1 40 = .ok (.aload_n 0, 1) := by decide +kernel
theorem dM_moodLine_41 : decode YM_moodLine.2.1 41 = .ok (.getfield 38, 3) := by decide +kernel
theorem dM_moodLine_44 : decode YM_moodLine.2.1 44 = .ok (.iconst 1, 1) := by decide +kernel
theorem dM_moodLine_45 : decode YM_moodLine.2.1 45 = .ok (.iaload, 1) := by decide +kernel
theorem dM_moodLine_46 : decode YM_moodLine.2.1 46 = .ok (.iastore, 1) := by decide +kernel
theorem dM_moodLine_47 : decode YM_moodLine.2.1 47 = .ok (.iconst 1, 1) := by decide +kernel
theorem dM_moodLine_48 : decode YM_moodLine.2.1 48 = .ok (.ireturn, 1) := by decide +kernel
theorem dM_officeLine_0 : decode YM_officeLine.2.1 0 = .ok (.lload_n 1, 1) := by decide +kernel
theorem dM_officeLine_1 : decode YM_officeLine.2.1 1 = .ok (.ldc2_w 196, 3) := by decide +kernel
theorem dM_officeLine_4 : decode YM_officeLine.2.1 4 = .ok (.lcmp, 1) := by decide +kernel
theorem dM_officeLine_5 : decode YM_officeLine.2.1 5 = .ok (.ifCond .eq 40, 3) := by decide +kernel
theorem dM_officeLine_8 : decode YM_officeLine.2.1 8 = .ok (.lload_n 1, 1) := by decide +kernel
theorem dM_officeLine_9 : decode YM_officeLine.2.1 9 = .ok (.ldc2_w 198, 3) := by decide +kernel
theorem dM_officeLine_12 : decode YM_officeLine.2.1 12 = .ok (.lcmp, 1) := by decide +kernel
theorem dM_officeLine_13 : decode YM_officeLine.2.1 13 = .ok (.ifCond .eq 32, 3) := by decide +kernel
theorem dM_officeLine_16 : decode YM_officeLine.2.1 16 = .ok (.lload_n 1, 1) := by decide +kernel
theorem dM_officeLine_17 : decode YM_officeLine.2.1 17 = .ok (.ldc2_w 200, 3) := by decide +kernel
theorem dM_officeLine_20 : decode YM_officeLine.2.1 20 = .ok (.lcmp, 1) := by decide +kernel
theorem dM_officeLine_21 : decode YM_officeLine.2.1 21 = .ok (.ifCond .eq 24, 3) := by decide +kernel
theorem dM_officeLine_24 : decode YM_officeLine.2.1 24 = .ok (.lload_n 1, 1) := by decide +kernel
theorem dM_officeLine_25 : decode YM_officeLine.2.1 25 = .ok (.ldc2_w 202, 3) := by decide +kernel
theorem dM_officeLine_28 : decode YM_officeLine.2.1 28 = .ok (.lcmp, 1) := by decide +kernel
theorem dM_officeLine_29 : decode YM_officeLine.2.1 29 = .ok (.ifCond .eq 16, 3) := by decide +kernel
theorem dM_officeLine_32 : decode YM_officeLine.2.1 32 = .ok (.lload_n 1, 1) := by decide +kernel
theorem dM_officeLine_33 : decode YM_officeLine.2.1 33 = .ok (.ldc2_w 204, 3) := by decide +kernel
theorem dM_officeLine_36 : decode YM_officeLine.2.1 36 = .ok (.lcmp, 1) := by decide +kernel
theorem dM_officeLine_37 : decode YM_officeLine.2.1 37 = .ok (.ifCond .eq 8, 3) := by decide +kernel
theorem dM_officeLine_40 : decode YM_officeLine.2.1 40 = .ok (.aload_n 0, 1) := by decide +kernel
theorem dM_officeLine_41 : decode YM_officeLine.2.1 41 = .ok (.invokevirtual 142, 3) := by decide +kernel
theorem dM_officeLine_44 : decode YM_officeLine.2.1 44 = .ok (.ireturn, 1) := by decide +kernel
theorem dM_officeLine_45 : decode YM_officeLine.2.1 45 = .ok (.lload_n 1, 1) := by decide +kernel
theorem dM_officeLine_46 : decode YM_officeLine.2.1 46 = .ok (.ldc2_w 200, 3) := by decide +kernel
theorem dM_officeLine_49 : decode YM_officeLine.2.1 49 = .ok (.lcmp, 1) := by decide +kernel
theorem dM_officeLine_50 : decode YM_officeLine.2.1 50 = .ok (.ifCond .ne 11, 3) := by decide +kernel
theorem dM_officeLine_53 : decode YM_officeLine.2.1 53 = .ok (.aload_n 0, 1) := by decide +kernel
theorem dM_officeLine_54 : decode YM_officeLine.2.1 54 = .ok (.iconst 1, 1) := by decide +kernel
theorem dM_officeLine_55 : decode YM_officeLine.2.1 55 = .ok (.bipush 10, 2) := by decide +kernel
theorem dM_officeLine_57 : decode YM_officeLine.2.1 57 = .ok (.iload_n 3, 1) := by decide +kernel
theorem dM_officeLine_58 : decode YM_officeLine.2.1 58 = .ok (.invokevirtual 189, 3) := by decide +kernel
theorem dM_officeLine_61 : decode YM_officeLine.2.1 61 = .ok (.aload_n 0, 1) := by decide +kernel
theorem dM_officeLine_62 : decode YM_officeLine.2.1 62 = .ok (.invokevirtual 154, 3) := by decide +kernel
theorem dM_officeLine_65 : decode YM_officeLine.2.1 65 = .ok (.lload_n 1, 1) := by decide +kernel
theorem dM_officeLine_66 : decode YM_officeLine.2.1 66 = .ok (.ldc2_w 196, 3) := by decide +kernel
theorem dM_officeLine_69 : decode YM_officeLine.2.1 69 = .ok (.lcmp, 1) := by decide +kernel
theorem dM_officeLine_70 : decode YM_officeLine.2.1 70 = .ok (.ifCond .ne 30, 3) := by decide +kernel
theorem dM_officeLine_73 : decode YM_officeLine.2.1 73 = .ok (.aload_n 0, 1) := by decide +kernel
theorem dM_officeLine_74 : decode YM_officeLine.2.1 74 = .ok (.iconst 0, 1) := by decide +kernel
theorem dM_officeLine_75 : decode YM_officeLine.2.1 75 = .ok (.iconst 1, 1) := by decide +kernel
theorem dM_officeLine_76 : decode YM_officeLine.2.1 76 = .ok (.bipush 6, 2) := by decide +kernel
theorem dM_officeLine_78 : decode YM_officeLine.2.1 78 = .ok (.invokevirtual 161, 3) := by decide +kernel
theorem dM_officeLine_81 : decode YM_officeLine.2.1 81 = .ok (.ifCond .ne 5, 3) := by decide +kernel
theorem dM_officeLine_84 : decode YM_officeLine.2.1 84 = .ok (.iconst 0, 1) := by decide +kernel
theorem dM_officeLine_85 : decode YM_officeLine.2.1 85 = .ok (.ireturn, 1) := by decide +kernel
theorem dM_officeLine_86 : decode YM_officeLine.2.1 86 = .ok (.aload_n 0, 1) := by decide +kernel
theorem dM_officeLine_87 : decode YM_officeLine.2.1 87 = .ok (.getfield 35, 3) := by decide +kernel
theorem dM_officeLine_90 : decode YM_officeLine.2.1 90 = .ok (.iconst 0, 1) := by decide +kernel
theorem dM_officeLine_91 : decode YM_officeLine.2.1 91 = .ok (.aload_n 0, 1) := by decide +kernel
theorem dM_officeLine_92 : decode YM_officeLine.2.1 92 = .ok (.getfield 38, 3) := by decide +kernel
theorem dM_officeLine_95 : decode YM_officeLine.2.1 95 = .ok (.iconst 0, 1) := by decide +kernel
theorem dM_officeLine_96 : decode YM_officeLine.2.1 96 = .ok (.iaload, 1) := by decide +kernel
theorem dM_officeLine_97 : decode YM_officeLine.2.1 97 = .ok (.iastore, 1) := by decide +kernel
theorem dM_officeLine_98 : decode YM_officeLine.2.1 98 = .ok (.iconst 1, 1) := by decide +kernel
theorem dM_officeLine_99 : decode YM_officeLine.2.1 99 = .ok (.ireturn, 1) := by decide +kernel
theorem dM_officeLine_100 : decode YM_officeLine.2.1 100 = .ok (.lload_n 1, 1) := by decide +kernel
theorem dM_officeLine_101 : decode YM_officeLine.2.1 101 = .ok (.ldc2_w 198, 3) := by decide +kernel
theorem dM_officeLine_104 : decode YM_officeLine.2.1 104 = .ok (.lcmp, 1) := by decide +kernel
theorem dM_officeLine_105 : decode YM_officeLine.2.1 105 = .ok (.ifCond .ne 10, 3) := by decide +kernel
theorem dM_officeLine_108 : decode YM_officeLine.2.1 108 = .ok (.aload_n 0, 1) := by decide +kernel
theorem dM_officeLine_109 : decode YM_officeLine.2.1 109 = .ok (.invokevirtual 206, 3) := by decide +kernel
theorem dM_officeLine_112 : decode YM_officeLine.2.1 112 = .ok (.goto 38, 3) := by decide +kernel
theorem dM_officeLine_115 : decode YM_officeLine.2.1 115 = .ok (.lload_n 1, 1) := by decide +kernel
theorem dM_officeLine_116 : decode YM_officeLine.2.1 116 = .ok (.ldc2_w 200, 3) := by decide +kernel
theorem dM_officeLine_119 : decode YM_officeLine.2.1 119 = .ok (.lcmp, 1) := by decide +kernel
theorem dM_officeLine_120 : decode YM_officeLine.2.1 120 = .ok (.ifCond .ne 10, 3) := by decide +kernel
theorem dM_officeLine_123 : decode YM_officeLine.2.1 123 = .ok (.aload_n 0, 1) := by decide +kernel
theorem dM_officeLine_124 : decode YM_officeLine.2.1 124 = .ok (.invokevirtual 209, 3) := by decide +kernel
theorem dM_officeLine_127 : decode YM_officeLine.2.1 127 = .ok (.goto 23, 3) := by decide +kernel
theorem dM_officeLine_130 : decode YM_officeLine.2.1 130 = .ok (.lload_n 1, 1) := by decide +kernel
theorem dM_officeLine_131 : decode YM_officeLine.2.1 131 = .ok (.ldc2_w 202, 3) := by decide +kernel
theorem dM_officeLine_134 : decode YM_officeLine.2.1 134 = .ok (.lcmp, 1) := by decide +kernel
theorem dM_officeLine_135 : decode YM_officeLine.2.1 135 = .ok (.ifCond .ne 11, 3) := by decide +kernel
theorem dM_officeLine_138 : decode YM_officeLine.2.1 138 = .ok (.aload_n 0, 1) := by decide +kernel
theorem dM_officeLine_139 : decode YM_officeLine.2.1 139 = .ok (.iload_n 3, 1) := by decide +kernel
theorem dM_officeLine_140 : decode YM_officeLine.2.1 140 = .ok (.invokevirtual 212, 3) := by decide +kernel
theorem dM_officeLine_143 : decode YM_officeLine.2.1 143 = .ok (.goto 7, 3) := by decide +kernel
theorem dM_officeLine_146 : decode YM_officeLine.2.1 146 = .ok (.aload_n 0, 1) := by decide +kernel
theorem dM_officeLine_147 : decode YM_officeLine.2.1 147 = .ok (.invokevirtual 215, 3) := by decide +kernel
theorem dM_officeLine_150 : decode YM_officeLine.2.1 150 = .ok (.ireturn, 1) := by decide +kernel
theorem dM_keepRow_0 : decode YM_keepRow.2.1 0 = .ok (.aload_n 0, 1) := by decide +kernel
theorem dM_keepRow_1 : decode YM_keepRow.2.1 1 = .ok (.getfield 35, 3) := by decide +kernel
theorem dM_keepRow_4 : decode YM_keepRow.2.1 4 = .ok (.iconst 0, 1) := by decide +kernel
theorem dM_keepRow_5 : decode YM_keepRow.2.1 5 = .ok (.iaload, 1) := by decide +kernel
theorem dM_keepRow_6 : decode YM_keepRow.2.1 6 = .ok (.istore_n 3, 1) := by decide +kernel
theorem dM_keepRow_7 : decode YM_keepRow.2.1 7 = .ok (.iload_n 3, 1) := by decide +kernel
theorem dM_keepRow_8 : decode YM_keepRow.2.1 8 = .ok (.iload_n 2, 1) := by decide +kernel
theorem dM_keepRow_9 : decode YM_keepRow.2.1 9 = .ok (.if_icmp .ne 4, 3) := by decide +kernel
theorem dM_keepRow_12 : decode YM_keepRow.2.1 12 = .ok (.return_, 1) := by decide +kernel
theorem dM_keepRow_13 : decode YM_keepRow.2.1 13 = .ok (.iconst 0, 1) := by decide +kernel
theorem dM_keepRow_14 : decode YM_keepRow.2.1 14 = .ok (.istore 4, 2) := by decide +kernel
theorem dM_keepRow_16 : decode YM_keepRow.2.1 16 = .ok (.iload 4, 2) := by decide +kernel
theorem dM_keepRow_18 : decode YM_keepRow.2.1 18 = .ok (.iload_n 1, 1) := by decide +kernel
theorem dM_keepRow_19 : decode YM_keepRow.2.1 19 = .ok (.if_icmp .ge 29, 3) := by decide +kernel
theorem dM_keepRow_22 : decode YM_keepRow.2.1 22 = .ok (.aload_n 0, 1) := by decide +kernel
theorem dM_keepRow_23 : decode YM_keepRow.2.1 23 = .ok (.getfield 35, 3) := by decide +kernel
theorem dM_keepRow_26 : decode YM_keepRow.2.1 26 = .ok (.iconst 1, 1) := by decide +kernel
theorem dM_keepRow_27 : decode YM_keepRow.2.1 27 = .ok (.iload_n 1, 1) := by decide +kernel
theorem dM_keepRow_28 : decode YM_keepRow.2.1 28 = .ok (.iload_n 3, 1) := by decide +kernel
theorem dM_keepRow_29 : decode YM_keepRow.2.1 29 = .ok (.imul, 1) := by decide +kernel
theorem dM_keepRow_30 : decode YM_keepRow.2.1 30 = .ok (.iadd, 1) := by decide +kernel
theorem dM_keepRow_31 : decode YM_keepRow.2.1 31 = .ok (.iload 4, 2) := by decide +kernel
theorem dM_keepRow_33 : decode YM_keepRow.2.1 33 = .ok (.iadd, 1) := by decide +kernel
theorem dM_keepRow_34 : decode YM_keepRow.2.1 34 = .ok (.aload_n 0, 1) := by decide +kernel
theorem dM_keepRow_35 : decode YM_keepRow.2.1 35 = .ok (.getfield 38, 3) := by decide +kernel
theorem dM_keepRow_38 : decode YM_keepRow.2.1 38 = .ok (.iload 4, 2) := by decide +kernel
theorem dM_keepRow_40 : decode YM_keepRow.2.1 40 = .ok (.iaload, 1) := by decide +kernel
theorem dM_keepRow_41 : decode YM_keepRow.2.1 41 = .ok (.iastore, 1) := by decide +kernel
theorem dM_keepRow_42 : decode YM_keepRow.2.1 42 = .ok (.iinc 4 1, 3) := by decide +kernel
theorem dM_keepRow_45 : decode YM_keepRow.2.1 45 = .ok (.goto (-29), 3) := by decide +kernel
theorem dM_keepRow_48 : decode YM_keepRow.2.1 48 = .ok (.aload_n 0, 1) := by decide +kernel
theorem dM_keepRow_49 : decode YM_keepRow.2.1 49 = .ok (.getfield 35, 3) := by decide +kernel
theorem dM_keepRow_52 : decode YM_keepRow.2.1 52 = .ok (.iconst 0, 1) := by decide +kernel
theorem dM_keepRow_53 : decode YM_keepRow.2.1 53 = .ok (.dup2, 1) := by decide +kernel
theorem dM_keepRow_54 : decode YM_keepRow.2.1 54 = .ok (.iaload, 1) := by decide +kernel
theorem dM_keepRow_55 : decode YM_keepRow.2.1 55 = .ok (.iconst 1, 1) := by decide +kernel
theorem dM_keepRow_56 : decode YM_keepRow.2.1 56 = .ok (.iadd, 1) := by decide +kernel
theorem dM_keepRow_57 : decode YM_keepRow.2.1 57 = .ok (.iastore, 1) := by decide +kernel
theorem dM_keepRow_58 : decode YM_keepRow.2.1 58 = .ok (.return_, 1) := by decide +kernel
theorem dM_weekLine_0 : decode YM_weekLine.2.1 0 = .ok (.lload_n 1, 1) := by decide +kernel
theorem dM_weekLine_1 : decode YM_weekLine.2.1 1 = .ok (.ldc2_w 218, 3) := by decide +kernel
theorem dM_weekLine_4 : decode YM_weekLine.2.1 4 = .ok (.lcmp, 1) := by decide +kernel
theorem dM_weekLine_5 : decode YM_weekLine.2.1 5 = .ok (.ifCond .ne 7, 3) := by decide +kernel
theorem dM_weekLine_8 : decode YM_weekLine.2.1 8 = .ok (.iconst 0, 1) := by decide +kernel
theorem dM_weekLine_9 : decode YM_weekLine.2.1 9 = .ok (.goto 40, 3) := by decide +kernel
theorem dM_weekLine_12 : decode YM_weekLine.2.1 12 = .ok (.lload_n 1, 1) := by decide +kernel
theorem dM_weekLine_13 : decode YM_weekLine.2.1 13 = .ok (.ldc2_w 220, 3) := by decide +kernel
theorem dM_weekLine_16 : decode YM_weekLine.2.1 16 = .ok (.lcmp, 1) := by decide +kernel
theorem dM_weekLine_17 : decode YM_weekLine.2.1 17 = .ok (.ifCond .ne 7, 3) := by decide +kernel
theorem dM_weekLine_20 : decode YM_weekLine.2.1 20 = .ok (.iconst 1, 1) := by decide +kernel
theorem dM_weekLine_21 : decode YM_weekLine.2.1 21 = .ok (.goto 28, 3) := by decide +kernel
theorem dM_weekLine_24 : decode YM_weekLine.2.1 24 = .ok (.lload_n 1, 1) := by decide +kernel
theorem dM_weekLine_25 : decode YM_weekLine.2.1 25 = .ok (.ldc2_w 222, 3) := by decide +kernel
theorem dM_weekLine_28 : decode YM_weekLine.2.1 28 = .ok (.lcmp, 1) := by decide +kernel
theorem dM_weekLine_29 : decode YM_weekLine.2.1 29 = .ok (.ifCond .ne 7, 3) := by decide +kernel
theorem dM_weekLine_32 : decode YM_weekLine.2.1 32 = .ok (.iconst 2, 1) := by decide +kernel
theorem dM_weekLine_33 : decode YM_weekLine.2.1 33 = .ok (.goto 16, 3) := by decide +kernel
theorem dM_weekLine_36 : decode YM_weekLine.2.1 36 = .ok (.lload_n 1, 1) := by decide +kernel
theorem dM_weekLine_37 : decode YM_weekLine.2.1 37 = .ok (.ldc2_w 224, 3) := by decide +kernel
theorem dM_weekLine_40 : decode YM_weekLine.2.1 40 = .ok (.lcmp, 1) := by decide +kernel
theorem dM_weekLine_41 : decode YM_weekLine.2.1 41 = .ok (.ifCond .ne 7, 3) := by decide +kernel
theorem dM_weekLine_44 : decode YM_weekLine.2.1 44 = .ok (.iconst 3, 1) := by decide +kernel
theorem dM_weekLine_45 : decode YM_weekLine.2.1 45 = .ok (.goto 4, 3) := by decide +kernel
theorem dM_weekLine_48 : decode YM_weekLine.2.1 48 = .ok (.iconst (-1), 1) := by decide +kernel
theorem dM_weekLine_49 : decode YM_weekLine.2.1 49 = .ok (.istore 4, 2) := by decide +kernel
theorem dM_weekLine_51 : decode YM_weekLine.2.1 51 = .ok (.iload 4, 2) := by decide +kernel
theorem dM_weekLine_53 : decode YM_weekLine.2.1 53 = .ok (.iconst (-1), 1) := by decide +kernel
theorem dM_weekLine_54 : decode YM_weekLine.2.1 54 = .ok (.if_icmp .ne 8, 3) := by decide +kernel
theorem dM_weekLine_57 : decode YM_weekLine.2.1 57 = .ok (.aload_n 0, 1) := by decide +kernel
theorem dM_weekLine_58 : decode YM_weekLine.2.1 58 = .ok (.invokevirtual 142, 3) := by decide +kernel
theorem dM_weekLine_61 : decode YM_weekLine.2.1 61 = .ok (.ireturn, 1) := by decide +kernel
theorem dM_weekLine_62 : decode YM_weekLine.2.1 62 = .ok (.aload_n 0, 1) := by decide +kernel
theorem dM_weekLine_63 : decode YM_weekLine.2.1 63 = .ok (.iconst 0, 1) := by decide +kernel
theorem dM_weekLine_64 : decode YM_weekLine.2.1 64 = .ok (.bipush 40, 2) := by decide +kernel
theorem dM_weekLine_66 : decode YM_weekLine.2.1 66 = .ok (.iload_n 3, 1) := by decide +kernel
theorem dM_weekLine_67 : decode YM_weekLine.2.1 67 = .ok (.invokevirtual 189, 3) := by decide +kernel
theorem dM_weekLine_70 : decode YM_weekLine.2.1 70 = .ok (.aload_n 0, 1) := by decide +kernel
theorem dM_weekLine_71 : decode YM_weekLine.2.1 71 = .ok (.invokevirtual 154, 3) := by decide +kernel
theorem dM_weekLine_74 : decode YM_weekLine.2.1 74 = .ok (.aload_n 0, 1) := by decide +kernel
theorem dM_weekLine_75 : decode YM_weekLine.2.1 75 = .ok (.getfield 38, 3) := by decide +kernel
theorem dM_weekLine_78 : decode YM_weekLine.2.1 78 = .ok (.iconst 1, 1) := by decide +kernel
theorem dM_weekLine_79 : decode YM_weekLine.2.1 79 = .ok (.iconst (-1), 1) := by decide +kernel
theorem dM_weekLine_80 : decode YM_weekLine.2.1 80 = .ok (.iastore, 1) := by decide +kernel
theorem dM_weekLine_81 : decode YM_weekLine.2.1 81 = .ok (.aload_n 0, 1) := by decide +kernel
theorem dM_weekLine_82 : decode YM_weekLine.2.1 82 = .ok (.getfield 38, 3) := by decide +kernel
theorem dM_weekLine_85 : decode YM_weekLine.2.1 85 = .ok (.iconst 2, 1) := by decide +kernel
theorem dM_weekLine_86 : decode YM_weekLine.2.1 86 = .ok (.iconst (-1), 1) := by decide +kernel
theorem dM_weekLine_87 : decode YM_weekLine.2.1 87 = .ok (.iastore, 1) := by decide +kernel
theorem dM_weekLine_88 : decode YM_weekLine.2.1 88 = .ok (.iload 4, 2) := by decide +kernel
theorem dM_weekLine_90 : decode YM_weekLine.2.1 90 = .ok (.iconst 3, 1) := by decide +kernel
theorem dM_weekLine_91 : decode YM_weekLine.2.1 91 = .ok (.if_icmp .eq 12, 3) := by decide +kernel
theorem dM_weekLine_94 : decode YM_weekLine.2.1 94 = .ok (.aload_n 0, 1) := by decide +kernel
theorem dM_weekLine_95 : decode YM_weekLine.2.1 95 = .ok (.iconst 1, 1) := by decide +kernel
theorem dM_weekLine_96 : decode YM_weekLine.2.1 96 = .ok (.iconst (-1), 1) := by decide +kernel
theorem dM_weekLine_97 : decode YM_weekLine.2.1 97 = .ok (.invokevirtual 193, 3) := by decide +kernel
theorem dM_weekLine_100 : decode YM_weekLine.2.1 100 = .ok (.ifCond .eq 17, 3) := by decide +kernel
theorem dM_weekLine_103 : decode YM_weekLine.2.1 103 = .ok (.iload 4, 2) := by decide +kernel
theorem dM_weekLine_105 : decode YM_weekLine.2.1 105 = .ok (.iconst 1, 1) := by decide +kernel
theorem dM_weekLine_106 : decode YM_weekLine.2.1 106 = .ok (.if_icmp .ne 13, 3) := by decide +kernel
theorem dM_weekLine_109 : decode YM_weekLine.2.1 109 = .ok (.aload_n 0, 1) := by decide +kernel
theorem dM_weekLine_110 : decode YM_weekLine.2.1 110 = .ok (.iconst 2, 1) := by decide +kernel
theorem dM_weekLine_111 : decode YM_weekLine.2.1 111 = .ok (.invokevirtual 182, 3) := by decide +kernel
theorem dM_weekLine_114 : decode YM_weekLine.2.1 114 = .ok (.ifCond .ne 5, 3) := by decide +kernel
theorem dM_weekLine_117 : decode YM_weekLine.2.1 117 = .ok (.iconst 0, 1) := by decide +kernel
theorem dM_weekLine_118 : decode YM_weekLine.2.1 118 = .ok (.ireturn, 1) := by decide +kernel
theorem dM_weekLine_119 : decode YM_weekLine.2.1 119 = .ok (.aload_n 0, 1) := by decide +kernel
theorem dM_weekLine_120 : decode YM_weekLine.2.1 120 = .ok (.getfield 38, 3) := by decide +kernel
theorem dM_weekLine_123 : decode YM_weekLine.2.1 123 = .ok (.iconst 0, 1) := by decide +kernel
theorem dM_weekLine_124 : decode YM_weekLine.2.1 124 = .ok (.iload 4, 2) := by decide +kernel
theorem dM_weekLine_126 : decode YM_weekLine.2.1 126 = .ok (.iastore, 1) := by decide +kernel
theorem dM_weekLine_127 : decode YM_weekLine.2.1 127 = .ok (.aload_n 0, 1) := by decide +kernel
theorem dM_weekLine_128 : decode YM_weekLine.2.1 128 = .ok (.iconst 3, 1) := by decide +kernel
theorem dM_weekLine_129 : decode YM_weekLine.2.1 129 = .ok (.bipush 40, 2) := by decide +kernel
theorem dM_weekLine_131 : decode YM_weekLine.2.1 131 = .ok (.invokevirtual 226, 3) := by decide +kernel
theorem dM_weekLine_134 : decode YM_weekLine.2.1 134 = .ok (.iconst 1, 1) := by decide +kernel
theorem dM_weekLine_135 : decode YM_weekLine.2.1 135 = .ok (.ireturn, 1) := by decide +kernel
theorem dM_logLine_0 : decode YM_logLine.2.1 0 = .ok (.lload_n 1, 1) := by decide +kernel
theorem dM_logLine_1 : decode YM_logLine.2.1 1 = .ok (.ldc2_w 198, 3) := by decide +kernel
theorem dM_logLine_4 : decode YM_logLine.2.1 4 = .ok (.lcmp, 1) := by decide +kernel
theorem dM_logLine_5 : decode YM_logLine.2.1 5 = .ok (.ifCond .eq 8, 3) := by decide +kernel
theorem dM_logLine_8 : decode YM_logLine.2.1 8 = .ok (.aload_n 0, 1) := by decide +kernel
theorem dM_logLine_9 : decode YM_logLine.2.1 9 = .ok (.invokevirtual 142, 3) := by decide +kernel
theorem dM_logLine_12 : decode YM_logLine.2.1 12 = .ok (.ireturn, 1) := by decide +kernel
theorem dM_logLine_13 : decode YM_logLine.2.1 13 = .ok (.aload_n 0, 1) := by decide +kernel
theorem dM_logLine_14 : decode YM_logLine.2.1 14 = .ok (.iconst 0, 1) := by decide +kernel
theorem dM_logLine_15 : decode YM_logLine.2.1 15 = .ok (.bipush 8, 2) := by decide +kernel
theorem dM_logLine_17 : decode YM_logLine.2.1 17 = .ok (.iload_n 3, 1) := by decide +kernel
theorem dM_logLine_18 : decode YM_logLine.2.1 18 = .ok (.invokevirtual 189, 3) := by decide +kernel
theorem dM_logLine_21 : decode YM_logLine.2.1 21 = .ok (.aload_n 0, 1) := by decide +kernel
theorem dM_logLine_22 : decode YM_logLine.2.1 22 = .ok (.invokevirtual 154, 3) := by decide +kernel
theorem dM_logLine_25 : decode YM_logLine.2.1 25 = .ok (.aload_n 0, 1) := by decide +kernel
theorem dM_logLine_26 : decode YM_logLine.2.1 26 = .ok (.iconst 0, 1) := by decide +kernel
theorem dM_logLine_27 : decode YM_logLine.2.1 27 = .ok (.invokevirtual 182, 3) := by decide +kernel
theorem dM_logLine_30 : decode YM_logLine.2.1 30 = .ok (.ifCond .eq 14, 3) := by decide +kernel
theorem dM_logLine_33 : decode YM_logLine.2.1 33 = .ok (.aload_n 0, 1) := by decide +kernel
theorem dM_logLine_34 : decode YM_logLine.2.1 34 = .ok (.iconst 1, 1) := by decide +kernel
theorem dM_logLine_35 : decode YM_logLine.2.1 35 = .ok (.iconst 0, 1) := by decide +kernel
theorem dM_logLine_36 : decode YM_logLine.2.1 36 = .ok (.bipush 99, 2) := by decide +kernel
theorem dM_logLine_38 : decode YM_logLine.2.1 38 = .ok (.invokevirtual 161, 3) := by decide +kernel
theorem dM_logLine_41 : decode YM_logLine.2.1 41 = .ok (.ifCond .ne 5, 3) := by decide +kernel
theorem dM_logLine_44 : decode YM_logLine.2.1 44 = .ok (.iconst 0, 1) := by decide +kernel
theorem dM_logLine_45 : decode YM_logLine.2.1 45 = .ok (.ireturn, 1) := by decide +kernel
theorem dM_logLine_46 : decode YM_logLine.2.1 46 = .ok (.aload_n 0, 1) := by decide +kernel
theorem dM_logLine_47 : decode YM_logLine.2.1 47 = .ok (.iconst 2, 1) := by decide +kernel
theorem dM_logLine_48 : decode YM_logLine.2.1 48 = .ok (.bipush 8, 2) := by decide +kernel
theorem dM_logLine_50 : decode YM_logLine.2.1 50 = .ok (.invokevirtual 226, 3) := by decide +kernel
theorem dM_logLine_53 : decode YM_logLine.2.1 53 = .ok (.iconst 1, 1) := by decide +kernel
theorem dM_logLine_54 : decode YM_logLine.2.1 54 = .ok (.ireturn, 1) := by decide +kernel
theorem dM_lines_0 : decode YM_lines.2.1 0 = .ok (.iconst 1, 1) := by decide +kernel
theorem dM_lines_1 : decode YM_lines.2.1 1 = .ok (.istore_n 2, 1) := by decide +kernel
theorem dM_lines_2 : decode YM_lines.2.1 2 = .ok (.iload_n 2, 1) := by decide +kernel
theorem dM_lines_3 : decode YM_lines.2.1 3 = .ok (.ifCond .eq 103, 3) := by decide +kernel
theorem dM_lines_6 : decode YM_lines.2.1 6 = .ok (.aload_n 0, 1) := by decide +kernel
theorem dM_lines_7 : decode YM_lines.2.1 7 = .ok (.getfield 127, 3) := by decide +kernel
theorem dM_lines_10 : decode YM_lines.2.1 10 = .ok (.ifCond .eq 96, 3) := by decide +kernel
theorem dM_lines_13 : decode YM_lines.2.1 13 = .ok (.aload_n 0, 1) := by decide +kernel
theorem dM_lines_14 : decode YM_lines.2.1 14 = .ok (.getfield 120, 3) := by decide +kernel
theorem dM_lines_17 : decode YM_lines.2.1 17 = .ok (.istore_n 3, 1) := by decide +kernel
theorem dM_lines_18 : decode YM_lines.2.1 18 = .ok (.aload_n 0, 1) := by decide +kernel
theorem dM_lines_19 : decode YM_lines.2.1 19 = .ok (.getfield 127, 3) := by decide +kernel
theorem dM_lines_22 : decode YM_lines.2.1 22 = .ok (.iconst 2, 1) := by decide +kernel
theorem dM_lines_23 : decode YM_lines.2.1 23 = .ok (.if_icmp .ne 10, 3) := by decide +kernel
theorem dM_lines_26 : decode YM_lines.2.1 26 = .ok (.aload_n 0, 1) := by decide +kernel
theorem dM_lines_27 : decode YM_lines.2.1 27 = .ok (.getfield 123, 3) := by decide +kernel
theorem dM_lines_30 : decode YM_lines.2.1 30 = .ok (.goto 4, 3) := by decide +kernel
theorem dM_lines_33 : decode YM_lines.2.1 33 = .ok (.lconst 0, 1) := by decide +kernel
theorem dM_lines_34 : decode YM_lines.2.1 34 = .ok (.lstore 4, 2) := by decide +kernel
theorem dM_lines_36 : decode YM_lines.2.1 36 = .ok (.aload_n 0, 1) := by decide +kernel
theorem dM_lines_37 : decode YM_lines.2.1 37 = .ok (.iconst 1, 1) := by decide +kernel
theorem dM_lines_38 : decode YM_lines.2.1 38 = .ok (.putfield 150, 3) := by decide +kernel
theorem dM_lines_41 : decode YM_lines.2.1 41 = .ok (.iload_n 1, 1) := by decide +kernel
theorem dM_lines_42 : decode YM_lines.2.1 42 = .ok (.ifCond .ne 13, 3) := by decide +kernel
theorem dM_lines_45 : decode YM_lines.2.1 45 = .ok (.aload_n 0, 1) := by decide +kernel
theorem dM_lines_46 : decode YM_lines.2.1 46 = .ok (.lload 4, 2) := by decide +kernel
theorem dM_lines_48 : decode YM_lines.2.1 48 = .ok (.iload_n 3, 1) := by decide +kernel
theorem dM_lines_49 : decode YM_lines.2.1 49 = .ok (.invokevirtual 229, 3) := by decide +kernel
theorem dM_lines_52 : decode YM_lines.2.1 52 = .ok (.goto 25, 3) := by decide +kernel
theorem dM_lines_55 : decode YM_lines.2.1 55 = .ok (.iload_n 1, 1) := by decide +kernel
theorem dM_lines_56 : decode YM_lines.2.1 56 = .ok (.iconst 1, 1) := by decide +kernel
theorem dM_lines_57 : decode YM_lines.2.1 57 = .ok (.if_icmp .ne 13, 3) := by decide +kernel
theorem dM_lines_60 : decode YM_lines.2.1 60 = .ok (.aload_n 0, 1) := by decide +kernel
theorem dM_lines_61 : decode YM_lines.2.1 61 = .ok (.lload 4, 2) := by decide +kernel
theorem dM_lines_63 : decode YM_lines.2.1 63 = .ok (.iload_n 3, 1) := by decide +kernel
theorem dM_lines_64 : decode YM_lines.2.1 64 = .ok (.invokevirtual 233, 3) := by decide +kernel
theorem dM_lines_67 : decode YM_lines.2.1 67 = .ok (.goto 10, 3) := by decide +kernel
theorem dM_lines_70 : decode YM_lines.2.1 70 = .ok (.aload_n 0, 1) := by decide +kernel
theorem dM_lines_71 : decode YM_lines.2.1 71 = .ok (.lload 4, 2) := by decide +kernel
theorem dM_lines_73 : decode YM_lines.2.1 73 = .ok (.iload_n 3, 1) := by decide +kernel
theorem dM_lines_74 : decode YM_lines.2.1 74 = .ok (.invokevirtual 236, 3) := by decide +kernel
theorem dM_lines_77 : decode YM_lines.2.1 77 = .ok (.istore_n 2, 1) := by decide +kernel
theorem dM_lines_78 : decode YM_lines.2.1 78 = .ok (.iload_n 2, 1) := by decide +kernel
theorem dM_lines_79 : decode YM_lines.2.1 79 = .ok (.ifCond .eq 16, 3) := by decide +kernel
theorem dM_lines_82 : decode YM_lines.2.1 82 = .ok (.aload_n 0, 1) := by decide +kernel
theorem dM_lines_83 : decode YM_lines.2.1 83 = .ok (.getfield 127, 3) := by decide +kernel
theorem dM_lines_86 : decode YM_lines.2.1 86 = .ok (.iconst 4, 1) := by decide +kernel
theorem dM_lines_87 : decode YM_lines.2.1 87 = .ok (.if_icmp .eq 8, 3) := by decide +kernel
theorem dM_lines_90 : decode YM_lines.2.1 90 = .ok (.aload_n 0, 1) := by decide +kernel
theorem dM_lines_91 : decode YM_lines.2.1 91 = .ok (.invokevirtual 142, 3) := by decide +kernel
theorem dM_lines_94 : decode YM_lines.2.1 94 = .ok (.istore_n 2, 1) := by decide +kernel
theorem dM_lines_95 : decode YM_lines.2.1 95 = .ok (.iload_n 2, 1) := by decide +kernel
theorem dM_lines_96 : decode YM_lines.2.1 96 = .ok (.ifCond .eq 7, 3) := by decide +kernel
theorem dM_lines_99 : decode YM_lines.2.1 99 = .ok (.aload_n 0, 1) := by decide +kernel
theorem dM_lines_100 : decode YM_lines.2.1 100 = .ok (.invokevirtual 154, 3) := by decide +kernel
theorem dM_lines_103 : decode YM_lines.2.1 103 = .ok (.goto (-101), 3) := by decide +kernel
theorem dM_lines_106 : decode YM_lines.2.1 106 = .ok (.iload_n 2, 1) := by decide +kernel
theorem dM_lines_107 : decode YM_lines.2.1 107 = .ok (.ireturn, 1) := by decide +kernel
theorem dM_readText_0 : decode YM_readText.2.1 0 = .ok (.iconst 0, 1) := by decide +kernel
theorem dM_readText_1 : decode YM_readText.2.1 1 = .ok (.istore_n 2, 1) := by decide +kernel
theorem dM_readText_2 : decode YM_readText.2.1 2 = .ok (.iload_n 2, 1) := by decide +kernel
theorem dM_readText_3 : decode YM_readText.2.1 3 = .ok (.bipush 121, 2) := by decide +kernel
theorem dM_readText_5 : decode YM_readText.2.1 5 = .ok (.if_icmp .ge 51, 3) := by decide +kernel
theorem dM_readText_8 : decode YM_readText.2.1 8 = .ok (.aload_n 0, 1) := by decide +kernel
theorem dM_readText_9 : decode YM_readText.2.1 9 = .ok (.getfield 35, 3) := by decide +kernel
theorem dM_readText_12 : decode YM_readText.2.1 12 = .ok (.iload_n 2, 1) := by decide +kernel
theorem dM_readText_13 : decode YM_readText.2.1 13 = .ok (.iload_n 1, 1) := by decide +kernel
theorem dM_readText_14 : decode YM_readText.2.1 14 = .ok (.ifCond .ne 19, 3) := by decide +kernel
theorem dM_readText_17 : decode YM_readText.2.1 17 = .ok (.iload_n 2, 1) := by decide +kernel
theorem dM_readText_18 : decode YM_readText.2.1 18 = .ok (.iconst 3, 1) := by decide +kernel
theorem dM_readText_19 : decode YM_readText.2.1 19 = .ok (.if_icmp .lt 14, 3) := by decide +kernel
theorem dM_readText_22 : decode YM_readText.2.1 22 = .ok (.iload_n 2, 1) := by decide +kernel
theorem dM_readText_23 : decode YM_readText.2.1 23 = .ok (.bipush 9, 2) := by decide +kernel
theorem dM_readText_25 : decode YM_readText.2.1 25 = .ok (.bipush 38, 2) := by decide +kernel
theorem dM_readText_27 : decode YM_readText.2.1 27 = .ok (.invokestatic 102, 3) := by decide +kernel
theorem dM_readText_30 : decode YM_readText.2.1 30 = .ok (.ifCond .eq 7, 3) := by decide +kernel
theorem dM_readText_33 : decode YM_readText.2.1 33 = .ok (.iconst 0, 1) := by decide +kernel
theorem dM_readText_34 : decode YM_readText.2.1 34 = .ok (.goto 15, 3) := by decide +kernel
theorem dM_readText_37 : decode YM_readText.2.1 37 = .ok (.iload_n 2, 1) := by decide +kernel
theorem dM_readText_38 : decode YM_readText.2.1 38 = .ok (.bipush 9, 2) := by decide +kernel
theorem dM_readText_40 : decode YM_readText.2.1 40 = .ok (.if_icmp .ge 8, 3) := by decide +kernel
theorem dM_readText_43 : decode YM_readText.2.1 43 = .ok (.bipush 10, 2) := by decide +kernel
theorem dM_readText_45 : decode YM_readText.2.1 45 = .ok (.goto 4, 3) := by decide +kernel
theorem dM_readText_48 : decode YM_readText.2.1 48 = .ok (.iconst (-1), 1) := by decide +kernel
theorem dM_readText_49 : decode YM_readText.2.1 49 = .ok (.iastore, 1) := by decide +kernel
theorem dM_readText_50 : decode YM_readText.2.1 50 = .ok (.iinc 2 1, 3) := by decide +kernel
theorem dM_readText_53 : decode YM_readText.2.1 53 = .ok (.goto (-51), 3) := by decide +kernel
theorem dM_readText_56 : decode YM_readText.2.1 56 = .ok (.aload_n 0, 1) := by decide +kernel
theorem dM_readText_57 : decode YM_readText.2.1 57 = .ok (.getfield 35, 3) := by decide +kernel
theorem dM_readText_60 : decode YM_readText.2.1 60 = .ok (.iconst 0, 1) := by decide +kernel
theorem dM_readText_61 : decode YM_readText.2.1 61 = .ok (.iload_n 1, 1) := by decide +kernel
theorem dM_readText_62 : decode YM_readText.2.1 62 = .ok (.ifCond .ne 7, 3) := by decide +kernel
theorem dM_readText_65 : decode YM_readText.2.1 65 = .ok (.iconst 3, 1) := by decide +kernel
theorem dM_readText_66 : decode YM_readText.2.1 66 = .ok (.goto 4, 3) := by decide +kernel
theorem dM_readText_69 : decode YM_readText.2.1 69 = .ok (.iconst 0, 1) := by decide +kernel
theorem dM_readText_70 : decode YM_readText.2.1 70 = .ok (.iastore, 1) := by decide +kernel
theorem dM_readText_71 : decode YM_readText.2.1 71 = .ok (.aload_n 0, 1) := by decide +kernel
theorem dM_readText_72 : decode YM_readText.2.1 72 = .ok (.iconst (-1), 1) := by decide +kernel
theorem dM_readText_73 : decode YM_readText.2.1 73 = .ok (.putfield 164, 3) := by decide +kernel
theorem dM_readText_76 : decode YM_readText.2.1 76 = .ok (.aload_n 0, 1) := by decide +kernel
theorem dM_readText_77 : decode YM_readText.2.1 77 = .ok (.iconst (-1), 1) := by decide +kernel
theorem dM_readText_78 : decode YM_readText.2.1 78 = .ok (.putfield 171, 3) := by decide +kernel
theorem dM_readText_81 : decode YM_readText.2.1 81 = .ok (.aload_n 0, 1) := by decide +kernel
theorem dM_readText_82 : decode YM_readText.2.1 82 = .ok (.iconst 0, 1) := by decide +kernel
theorem dM_readText_83 : decode YM_readText.2.1 83 = .ok (.putfield 110, 3) := by decide +kernel
theorem dM_readText_86 : decode YM_readText.2.1 86 = .ok (.aload_n 0, 1) := by decide +kernel
theorem dM_readText_87 : decode YM_readText.2.1 87 = .ok (.iconst 0, 1) := by decide +kernel
theorem dM_readText_88 : decode YM_readText.2.1 88 = .ok (.putfield 136, 3) := by decide +kernel
theorem dM_readText_91 : decode YM_readText.2.1 91 = .ok (.aload_n 0, 1) := by decide +kernel
theorem dM_readText_92 : decode YM_readText.2.1 92 = .ok (.invokevirtual 154, 3) := by decide +kernel
theorem dM_readText_95 : decode YM_readText.2.1 95 = .ok (.aload_n 0, 1) := by decide +kernel
theorem dM_readText_96 : decode YM_readText.2.1 96 = .ok (.iload_n 1, 1) := by decide +kernel
theorem dM_readText_97 : decode YM_readText.2.1 97 = .ok (.invokevirtual 239, 3) := by decide +kernel
theorem dM_readText_100 : decode YM_readText.2.1 100 = .ok (.istore_n 2, 1) := by decide +kernel
theorem dM_readText_101 : decode YM_readText.2.1 101 = .ok (.iload_n 2, 1) := by decide +kernel
theorem dM_readText_102 : decode YM_readText.2.1 102 = .ok (.ifCond .eq 49, 3) := by decide +kernel
theorem dM_readText_105 : decode YM_readText.2.1 105 = .ok (.iload_n 1, 1) := by decide +kernel
theorem dM_readText_106 : decode YM_readText.2.1 106 = .ok (.ifCond .ne 45, 3) := by decide +kernel
theorem dM_readText_109 : decode YM_readText.2.1 109 = .ok (.aload_n 0, 1) := by decide +kernel
theorem dM_readText_110 : decode YM_readText.2.1 110 = .ok (.getfield 136, 3) := by decide +kernel
theorem dM_readText_113 : decode YM_readText.2.1 113 = .ok (.ifCond .ne 38, 3) := by decide +kernel
theorem dM_readText_116 : decode YM_readText.2.1 116 = .ok (.aload_n 0, 1) := by decide +kernel
theorem dM_readText_117 : decode YM_readText.2.1 117 = .ok (.getfield 164, 3) := by decide +kernel
theorem dM_readText_120 : decode YM_readText.2.1 120 = .ok (.aload_n 0, 1) := by decide +kernel
theorem dM_readText_121 : decode YM_readText.2.1 121 = .ok (.getfield 35, 3) := by decide +kernel
theorem dM_readText_124 : decode YM_readText.2.1 124 = .ok (.iconst 0, 1) := by decide +kernel
theorem dM_readText_125 : decode YM_readText.2.1 125 = .ok (.iaload, 1) := by decide +kernel
theorem dM_readText_126 : decode YM_readText.2.1 126 = .ok (.if_icmp .ge 16, 3) := by decide +kernel
theorem dM_readText_129 : decode YM_readText.2.1 129 = .ok (.aload_n 0, 1) := by decide +kernel
theorem dM_readText_130 : decode YM_readText.2.1 130 = .ok (.getfield 171, 3) := by decide +kernel
theorem dM_readText_133 : decode YM_readText.2.1 133 = .ok (.aload_n 0, 1) := by decide +kernel
theorem dM_readText_134 : decode YM_readText.2.1 134 = .ok (.getfield 35, 3) := by decide +kernel
theorem dM_readText_137 : decode YM_readText.2.1 137 = .ok (.iconst 1, 1) := by decide +kernel
theorem dM_readText_138 : decode YM_readText.2.1 138 = .ok (.iaload, 1) := by decide +kernel
theorem dM_readText_139 : decode YM_readText.2.1 139 = .ok (.if_icmp .lt 12, 3) := by decide +kernel
theorem dM_readText_142 : decode YM_readText.2.1 142 = .ok (.aload_n 0, 1) := by decide +kernel
theorem dM_readText_143 : decode YM_readText.2.1 143 = .ok (.iconst 4, 1) := by decide +kernel
theorem dM_readText_144 : decode YM_readText.2.1 144 = .ok (.aload_n 0, 1) := by decide +kernel
theorem dM_readText_145 : decode YM_readText.2.1 145 = .ok (.getfield 120, 3) := by decide +kernel
theorem dM_readText_148 : decode YM_readText.2.1 148 = .ok (.invokevirtual 146, 3) := by decide +kernel
theorem dM_readText_151 : decode YM_readText.2.1 151 = .ok (.aload_n 0, 1) := by decide +kernel
theorem dM_readText_152 : decode YM_readText.2.1 152 = .ok (.getfield 17, 3) := by decide +kernel
theorem dM_readText_155 : decode YM_readText.2.1 155 = .ok (.iconst 0, 1) := by decide +kernel
theorem dM_readText_156 : decode YM_readText.2.1 156 = .ok (.iload_n 2, 1) := by decide +kernel
theorem dM_readText_157 : decode YM_readText.2.1 157 = .ok (.ifCond .eq 10, 3) := by decide +kernel
theorem dM_readText_160 : decode YM_readText.2.1 160 = .ok (.aload_n 0, 1) := by decide +kernel
theorem dM_readText_161 : decode YM_readText.2.1 161 = .ok (.getfield 136, 3) := by decide +kernel
theorem dM_readText_164 : decode YM_readText.2.1 164 = .ok (.goto 4, 3) := by decide +kernel
theorem dM_readText_167 : decode YM_readText.2.1 167 = .ok (.iconst 1, 1) := by decide +kernel
theorem dM_readText_168 : decode YM_readText.2.1 168 = .ok (.iastore, 1) := by decide +kernel
theorem dM_readText_169 : decode YM_readText.2.1 169 = .ok (.aload_n 0, 1) := by decide +kernel
theorem dM_readText_170 : decode YM_readText.2.1 170 = .ok (.getfield 20, 3) := by decide +kernel
theorem dM_readText_173 : decode YM_readText.2.1 173 = .ok (.iconst 0, 1) := by decide +kernel
theorem dM_readText_174 : decode YM_readText.2.1 174 = .ok (.iload_n 2, 1) := by decide +kernel
theorem dM_readText_175 : decode YM_readText.2.1 175 = .ok (.ifCond .ne 10, 3) := by decide +kernel
theorem dM_readText_178 : decode YM_readText.2.1 178 = .ok (.aload_n 0, 1) := by decide +kernel
theorem dM_readText_179 : decode YM_readText.2.1 179 = .ok (.getfield 133, 3) := by decide +kernel
theorem dM_readText_182 : decode YM_readText.2.1 182 = .ok (.goto 18, 3) := by decide +kernel
theorem dM_readText_185 : decode YM_readText.2.1 185 = .ok (.aload_n 0, 1) := by decide +kernel
theorem dM_readText_186 : decode YM_readText.2.1 186 = .ok (.getfield 136, 3) := by decide +kernel
theorem dM_readText_189 : decode YM_readText.2.1 189 = .ok (.ifCond .le 10, 3) := by decide +kernel
theorem dM_readText_192 : decode YM_readText.2.1 192 = .ok (.aload_n 0, 1) := by decide +kernel
theorem dM_readText_193 : decode YM_readText.2.1 193 = .ok (.getfield 139, 3) := by decide +kernel
theorem dM_readText_196 : decode YM_readText.2.1 196 = .ok (.goto 4, 3) := by decide +kernel
theorem dM_readText_199 : decode YM_readText.2.1 199 = .ok (.iconst (-1), 1) := by decide +kernel
theorem dM_readText_200 : decode YM_readText.2.1 200 = .ok (.iastore, 1) := by decide +kernel
theorem dM_readText_201 : decode YM_readText.2.1 201 = .ok (.aload_n 0, 1) := by decide +kernel
theorem dM_readText_202 : decode YM_readText.2.1 202 = .ok (.getfield 17, 3) := by decide +kernel
theorem dM_readText_205 : decode YM_readText.2.1 205 = .ok (.iconst 0, 1) := by decide +kernel
theorem dM_readText_206 : decode YM_readText.2.1 206 = .ok (.iaload, 1) := by decide +kernel
theorem dM_readText_207 : decode YM_readText.2.1 207 = .ok (.ifCond .ne 7, 3) := by decide +kernel
theorem dM_readText_210 : decode YM_readText.2.1 210 = .ok (.iconst 1, 1) := by decide +kernel
theorem dM_readText_211 : decode YM_readText.2.1 211 = .ok (.goto 4, 3) := by decide +kernel
theorem dM_readText_214 : decode YM_readText.2.1 214 = .ok (.iconst 0, 1) := by decide +kernel
theorem dM_readText_215 : decode YM_readText.2.1 215 = .ok (.ireturn, 1) := by decide +kernel
theorem dM_store_0 : decode YM_store.2.1 0 = .ok (.iconst 0, 1) := by decide +kernel
theorem dM_store_1 : decode YM_store.2.1 1 = .ok (.istore 4, 2) := by decide +kernel
theorem dM_store_3 : decode YM_store.2.1 3 = .ok (.iload 4, 2) := by decide +kernel
theorem dM_store_5 : decode YM_store.2.1 5 = .ok (.iload_n 2, 1) := by decide +kernel
theorem dM_store_6 : decode YM_store.2.1 6 = .ok (.if_icmp .ge 24, 3) := by decide +kernel
theorem dM_store_9 : decode YM_store.2.1 9 = .ok (.aload_n 1, 1) := by decide +kernel
theorem dM_store_10 : decode YM_store.2.1 10 = .ok (.iload_n 2, 1) := by decide +kernel
theorem dM_store_11 : decode YM_store.2.1 11 = .ok (.iload_n 3, 1) := by decide +kernel
theorem dM_store_12 : decode YM_store.2.1 12 = .ok (.imul, 1) := by decide +kernel
theorem dM_store_13 : decode YM_store.2.1 13 = .ok (.iload 4, 2) := by decide +kernel
theorem dM_store_15 : decode YM_store.2.1 15 = .ok (.iadd, 1) := by decide +kernel
theorem dM_store_16 : decode YM_store.2.1 16 = .ok (.aload_n 0, 1) := by decide +kernel
theorem dM_store_17 : decode YM_store.2.1 17 = .ok (.getfield 35, 3) := by decide +kernel
theorem dM_store_20 : decode YM_store.2.1 20 = .ok (.iload 4, 2) := by decide +kernel
theorem dM_store_22 : decode YM_store.2.1 22 = .ok (.iaload, 1) := by decide +kernel
theorem dM_store_23 : decode YM_store.2.1 23 = .ok (.iastore, 1) := by decide +kernel
theorem dM_store_24 : decode YM_store.2.1 24 = .ok (.iinc 4 1, 3) := by decide +kernel
theorem dM_store_27 : decode YM_store.2.1 27 = .ok (.goto (-24), 3) := by decide +kernel
theorem dM_store_30 : decode YM_store.2.1 30 = .ok (.return_, 1) := by decide +kernel
theorem dM_text_0 : decode YM_text.2.1 0 = .ok (.aload_n 0, 1) := by decide +kernel
theorem dM_text_1 : decode YM_text.2.1 1 = .ok (.iconst 0, 1) := by decide +kernel
theorem dM_text_2 : decode YM_text.2.1 2 = .ok (.putfield 90, 3) := by decide +kernel
theorem dM_text_5 : decode YM_text.2.1 5 = .ok (.aload_n 0, 1) := by decide +kernel
theorem dM_text_6 : decode YM_text.2.1 6 = .ok (.aload_n 0, 1) := by decide +kernel
theorem dM_text_7 : decode YM_text.2.1 7 = .ok (.getfield 13, 3) := by decide +kernel
theorem dM_text_10 : decode YM_text.2.1 10 = .ok (.iconst 0, 1) := by decide +kernel
theorem dM_text_11 : decode YM_text.2.1 11 = .ok (.iaload, 1) := by decide +kernel
theorem dM_text_12 : decode YM_text.2.1 12 = .ok (.putfield 113, 3) := by decide +kernel
theorem dM_text_15 : decode YM_text.2.1 15 = .ok (.aload_n 0, 1) := by decide +kernel
theorem dM_text_16 : decode YM_text.2.1 16 = .ok (.getfield 13, 3) := by decide +kernel
theorem dM_text_19 : decode YM_text.2.1 19 = .ok (.iconst 0, 1) := by decide +kernel
theorem dM_text_20 : decode YM_text.2.1 20 = .ok (.iconst 0, 1) := by decide +kernel
theorem dM_text_21 : decode YM_text.2.1 21 = .ok (.iastore, 1) := by decide +kernel
theorem dM_text_22 : decode YM_text.2.1 22 = .ok (.aload_n 0, 1) := by decide +kernel
theorem dM_text_23 : decode YM_text.2.1 23 = .ok (.getfield 17, 3) := by decide +kernel
theorem dM_text_26 : decode YM_text.2.1 26 = .ok (.iconst 0, 1) := by decide +kernel
theorem dM_text_27 : decode YM_text.2.1 27 = .ok (.iconst 0, 1) := by decide +kernel
theorem dM_text_28 : decode YM_text.2.1 28 = .ok (.iastore, 1) := by decide +kernel
theorem dM_text_29 : decode YM_text.2.1 29 = .ok (.aload_n 0, 1) := by decide +kernel
theorem dM_text_30 : decode YM_text.2.1 30 = .ok (.getfield 20, 3) := by decide +kernel
theorem dM_text_33 : decode YM_text.2.1 33 = .ok (.iconst 0, 1) := by decide +kernel
theorem dM_text_34 : decode YM_text.2.1 34 = .ok (.iconst (-1), 1) := by decide +kernel
theorem dM_text_35 : decode YM_text.2.1 35 = .ok (.iastore, 1) := by decide +kernel
theorem dM_text_36 : decode YM_text.2.1 36 = .ok (.iload_n 1, 1) := by decide +kernel
theorem dM_text_37 : decode YM_text.2.1 37 = .ok (.iconst 0, 1) := by decide +kernel
theorem dM_text_38 : decode YM_text.2.1 38 = .ok (.iconst 2, 1) := by decide +kernel
theorem dM_text_39 : decode YM_text.2.1 39 = .ok (.invokestatic 102, 3) := by decide +kernel
theorem dM_text_42 : decode YM_text.2.1 42 = .ok (.ifCond .eq 30, 3) := by decide +kernel
theorem dM_text_45 : decode YM_text.2.1 45 = .ok (.iload_n 2, 1) := by decide +kernel
theorem dM_text_46 : decode YM_text.2.1 46 = .ok (.iconst (-1), 1) := by decide +kernel
theorem dM_text_47 : decode YM_text.2.1 47 = .ok (.if_icmp .ne 16, 3) := by decide +kernel
theorem dM_text_50 : decode YM_text.2.1 50 = .ok (.aload_n 0, 1) := by decide +kernel
theorem dM_text_51 : decode YM_text.2.1 51 = .ok (.getfield 23, 3) := by decide +kernel
theorem dM_text_54 : decode YM_text.2.1 54 = .ok (.iload_n 1, 1) := by decide +kernel
theorem dM_text_55 : decode YM_text.2.1 55 = .ok (.iaload, 1) := by decide +kernel
theorem dM_text_56 : decode YM_text.2.1 56 = .ok (.iconst 2, 1) := by decide +kernel
theorem dM_text_57 : decode YM_text.2.1 57 = .ok (.if_icmp .ne 18, 3) := by decide +kernel
theorem dM_text_60 : decode YM_text.2.1 60 = .ok (.goto 12, 3) := by decide +kernel
theorem dM_text_63 : decode YM_text.2.1 63 = .ok (.aload_n 0, 1) := by decide +kernel
theorem dM_text_64 : decode YM_text.2.1 64 = .ok (.iload_n 1, 1) := by decide +kernel
theorem dM_text_65 : decode YM_text.2.1 65 = .ok (.iload_n 2, 1) := by decide +kernel
theorem dM_text_66 : decode YM_text.2.1 66 = .ok (.invokevirtual 242, 3) := by decide +kernel
theorem dM_text_69 : decode YM_text.2.1 69 = .ok (.ifCond .ne 6, 3) := by decide +kernel
theorem dM_text_72 : decode YM_text.2.1 72 = .ok (.bipush (-2), 2) := by decide +kernel
theorem dM_text_74 : decode YM_text.2.1 74 = .ok (.ireturn, 1) := by decide +kernel
theorem dM_text_75 : decode YM_text.2.1 75 = .ok (.aload_n 0, 1) := by decide +kernel
theorem dM_text_76 : decode YM_text.2.1 76 = .ok (.iload_n 1, 1) := by decide +kernel
theorem dM_text_77 : decode YM_text.2.1 77 = .ok (.invokevirtual 245, 3) := by decide +kernel
theorem dM_text_80 : decode YM_text.2.1 80 = .ok (.ifCond .ne 5, 3) := by decide +kernel
theorem dM_text_83 : decode YM_text.2.1 83 = .ok (.iconst (-1), 1) := by decide +kernel
theorem dM_text_84 : decode YM_text.2.1 84 = .ok (.ireturn, 1) := by decide +kernel
theorem dM_text_85 : decode YM_text.2.1 85 = .ok (.iload_n 2, 1) := by decide +kernel
theorem dM_text_86 : decode YM_text.2.1 86 = .ok (.iconst (-1), 1) := by decide +kernel
theorem dM_text_87 : decode YM_text.2.1 87 = .ok (.if_icmp .ne 12, 3) := by decide +kernel
theorem dM_text_90 : decode YM_text.2.1 90 = .ok (.aload_n 0, 1) := by decide +kernel
theorem dM_text_91 : decode YM_text.2.1 91 = .ok (.getfield 23, 3) := by decide +kernel
theorem dM_text_94 : decode YM_text.2.1 94 = .ok (.iload_n 1, 1) := by decide +kernel
theorem dM_text_95 : decode YM_text.2.1 95 = .ok (.iaload, 1) := by decide +kernel
theorem dM_text_96 : decode YM_text.2.1 96 = .ok (.goto 4, 3) := by decide +kernel
theorem dM_text_99 : decode YM_text.2.1 99 = .ok (.iload_n 2, 1) := by decide +kernel
theorem dM_text_100 : decode YM_text.2.1 100 = .ok (.istore_n 3, 1) := by decide +kernel
theorem dM_text_101 : decode YM_text.2.1 101 = .ok (.aload_n 0, 1) := by decide +kernel
theorem dM_text_102 : decode YM_text.2.1 102 = .ok (.getfield 23, 3) := by decide +kernel
theorem dM_text_105 : decode YM_text.2.1 105 = .ok (.iload_n 1, 1) := by decide +kernel
theorem dM_text_106 : decode YM_text.2.1 106 = .ok (.dup2, 1) := by decide +kernel
theorem dM_text_107 : decode YM_text.2.1 107 = .ok (.iaload, 1) := by decide +kernel
theorem dM_text_108 : decode YM_text.2.1 108 = .ok (.iload_n 2, 1) := by decide +kernel
theorem dM_text_109 : decode YM_text.2.1 109 = .ok (.iconst (-1), 1) := by decide +kernel
theorem dM_text_110 : decode YM_text.2.1 110 = .ok (.if_icmp .ne 7, 3) := by decide +kernel
theorem dM_text_113 : decode YM_text.2.1 113 = .ok (.iconst 1, 1) := by decide +kernel
theorem dM_text_114 : decode YM_text.2.1 114 = .ok (.goto 4, 3) := by decide +kernel
theorem dM_text_117 : decode YM_text.2.1 117 = .ok (.iconst 0, 1) := by decide +kernel
theorem dM_text_118 : decode YM_text.2.1 118 = .ok (.iadd, 1) := by decide +kernel
theorem dM_text_119 : decode YM_text.2.1 119 = .ok (.iastore, 1) := by decide +kernel
theorem dM_text_120 : decode YM_text.2.1 120 = .ok (.iload_n 1, 1) := by decide +kernel
theorem dM_text_121 : decode YM_text.2.1 121 = .ok (.ifCond .ne 17, 3) := by decide +kernel
theorem dM_text_124 : decode YM_text.2.1 124 = .ok (.aload_n 0, 1) := by decide +kernel
theorem dM_text_125 : decode YM_text.2.1 125 = .ok (.aload_n 0, 1) := by decide +kernel
theorem dM_text_126 : decode YM_text.2.1 126 = .ok (.getfield 26, 3) := by decide +kernel
theorem dM_text_129 : decode YM_text.2.1 129 = .ok (.bipush 75, 2) := by decide +kernel
theorem dM_text_131 : decode YM_text.2.1 131 = .ok (.iload_n 3, 1) := by decide +kernel
theorem dM_text_132 : decode YM_text.2.1 132 = .ok (.invokevirtual 248, 3) := by decide +kernel
theorem dM_text_135 : decode YM_text.2.1 135 = .ok (.goto 33, 3) := by decide +kernel
theorem dM_text_138 : decode YM_text.2.1 138 = .ok (.iload_n 1, 1) := by decide +kernel
theorem dM_text_139 : decode YM_text.2.1 139 = .ok (.iconst 1, 1) := by decide +kernel
theorem dM_text_140 : decode YM_text.2.1 140 = .ok (.if_icmp .ne 17, 3) := by decide +kernel
theorem dM_text_143 : decode YM_text.2.1 143 = .ok (.aload_n 0, 1) := by decide +kernel
theorem dM_text_144 : decode YM_text.2.1 144 = .ok (.aload_n 0, 1) := by decide +kernel
theorem dM_text_145 : decode YM_text.2.1 145 = .ok (.getfield 29, 3) := by decide +kernel
theorem dM_text_148 : decode YM_text.2.1 148 = .ok (.bipush 121, 2) := by decide +kernel
theorem dM_text_150 : decode YM_text.2.1 150 = .ok (.iload_n 3, 1) := by decide +kernel
theorem dM_text_151 : decode YM_text.2.1 151 = .ok (.invokevirtual 248, 3) := by decide +kernel
theorem dM_text_154 : decode YM_text.2.1 154 = .ok (.goto 14, 3) := by decide +kernel
theorem dM_text_157 : decode YM_text.2.1 157 = .ok (.aload_n 0, 1) := by decide +kernel
theorem dM_text_158 : decode YM_text.2.1 158 = .ok (.aload_n 0, 1) := by decide +kernel
theorem dM_text_159 : decode YM_text.2.1 159 = .ok (.getfield 32, 3) := by decide +kernel
theorem dM_text_162 : decode YM_text.2.1 162 = .ok (.bipush 17, 2) := by decide +kernel
theorem dM_text_164 : decode YM_text.2.1 164 = .ok (.iload_n 3, 1) := by decide +kernel
theorem dM_text_165 : decode YM_text.2.1 165 = .ok (.invokevirtual 248, 3) := by decide +kernel
theorem dM_text_168 : decode YM_text.2.1 168 = .ok (.iload_n 3, 1) := by decide +kernel
theorem dM_text_169 : decode YM_text.2.1 169 = .ok (.ireturn, 1) := by decide +kernel
theorem dM_fault_0 : decode YM_fault.2.1 0 = .ok (.aload_n 0, 1) := by decide +kernel
theorem dM_fault_1 : decode YM_fault.2.1 1 = .ok (.iconst 0, 1) := by decide +kernel
theorem dM_fault_2 : decode YM_fault.2.1 2 = .ok (.putfield 90, 3) := by decide +kernel
theorem dM_fault_5 : decode YM_fault.2.1 5 = .ok (.iload_n 1, 1) := by decide +kernel
theorem dM_fault_6 : decode YM_fault.2.1 6 = .ok (.ifCond .ne 12, 3) := by decide +kernel
theorem dM_fault_9 : decode YM_fault.2.1 9 = .ok (.aload_n 0, 1) := by decide +kernel
theorem dM_fault_10 : decode YM_fault.2.1 10 = .ok (.getfield 17, 3) := by decide +kernel
theorem dM_fault_13 : decode YM_fault.2.1 13 = .ok (.iconst 0, 1) := by decide +kernel
theorem dM_fault_14 : decode YM_fault.2.1 14 = .ok (.iaload, 1) := by decide +kernel
theorem dM_fault_15 : decode YM_fault.2.1 15 = .ok (.goto 18, 3) := by decide +kernel
theorem dM_fault_18 : decode YM_fault.2.1 18 = .ok (.iload_n 1, 1) := by decide +kernel
theorem dM_fault_19 : decode YM_fault.2.1 19 = .ok (.iconst 1, 1) := by decide +kernel
theorem dM_fault_20 : decode YM_fault.2.1 20 = .ok (.if_icmp .ne 12, 3) := by decide +kernel
theorem dM_fault_23 : decode YM_fault.2.1 23 = .ok (.aload_n 0, 1) := by decide +kernel
theorem dM_fault_24 : decode YM_fault.2.1 24 = .ok (.getfield 20, 3) := by decide +kernel
theorem dM_fault_27 : decode YM_fault.2.1 27 = .ok (.iconst 0, 1) := by decide +kernel
theorem dM_fault_28 : decode YM_fault.2.1 28 = .ok (.iaload, 1) := by decide +kernel
theorem dM_fault_29 : decode YM_fault.2.1 29 = .ok (.goto 4, 3) := by decide +kernel
theorem dM_fault_32 : decode YM_fault.2.1 32 = .ok (.iconst (-1), 1) := by decide +kernel
theorem dM_fault_33 : decode YM_fault.2.1 33 = .ok (.ireturn, 1) := by decide +kernel
theorem dM_of_0 : decode YM_of.2.1 0 = .ok (.aload_n 0, 1) := by decide +kernel
theorem dM_of_1 : decode YM_of.2.1 1 = .ok (.getfield 26, 3) := by decide +kernel
theorem dM_of_4 : decode YM_of.2.1 4 = .ok (.bipush 75, 2) := by decide +kernel
theorem dM_of_6 : decode YM_of.2.1 6 = .ok (.aload_n 0, 1) := by decide +kernel
theorem dM_of_7 : decode YM_of.2.1 7 = .ok (.getfield 252, 3) := by decide +kernel
theorem dM_of_10 : decode YM_of.2.1 10 = .ok (.imul, 1) := by decide +kernel
theorem dM_of_11 : decode YM_of.2.1 11 = .ok (.iload_n 1, 1) := by decide +kernel
theorem dM_of_12 : decode YM_of.2.1 12 = .ok (.iadd, 1) := by decide +kernel
theorem dM_of_13 : decode YM_of.2.1 13 = .ok (.iaload, 1) := by decide +kernel
theorem dM_of_14 : decode YM_of.2.1 14 = .ok (.ireturn, 1) := by decide +kernel
theorem dM_hand_0 : decode YM_hand.2.1 0 = .ok (.aload_n 0, 1) := by decide +kernel
theorem dM_hand_1 : decode YM_hand.2.1 1 = .ok (.iconst 0, 1) := by decide +kernel
theorem dM_hand_2 : decode YM_hand.2.1 2 = .ok (.iload_n 1, 1) := by decide +kernel
theorem dM_hand_3 : decode YM_hand.2.1 3 = .ok (.invokevirtual 242, 3) := by decide +kernel
theorem dM_hand_6 : decode YM_hand.2.1 6 = .ok (.ifCond .ne 5, 3) := by decide +kernel
theorem dM_hand_9 : decode YM_hand.2.1 9 = .ok (.iconst 0, 1) := by decide +kernel
theorem dM_hand_10 : decode YM_hand.2.1 10 = .ok (.ireturn, 1) := by decide +kernel
theorem dM_hand_11 : decode YM_hand.2.1 11 = .ok (.aload_n 0, 1) := by decide +kernel
theorem dM_hand_12 : decode YM_hand.2.1 12 = .ok (.iload_n 1, 1) := by decide +kernel
theorem dM_hand_13 : decode YM_hand.2.1 13 = .ok (.putfield 252, 3) := by decide +kernel
theorem dM_hand_16 : decode YM_hand.2.1 16 = .ok (.aload_n 0, 1) := by decide +kernel
theorem dM_hand_17 : decode YM_hand.2.1 17 = .ok (.aload_n 0, 1) := by decide +kernel
theorem dM_hand_18 : decode YM_hand.2.1 18 = .ok (.iconst 0, 1) := by decide +kernel
theorem dM_hand_19 : decode YM_hand.2.1 19 = .ok (.invokevirtual 255, 3) := by decide +kernel
theorem dM_hand_22 : decode YM_hand.2.1 22 = .ok (.putfield 259, 3) := by decide +kernel
theorem dM_hand_25 : decode YM_hand.2.1 25 = .ok (.aload_n 0, 1) := by decide +kernel
theorem dM_hand_26 : decode YM_hand.2.1 26 = .ok (.aload_n 0, 1) := by decide +kernel
theorem dM_hand_27 : decode YM_hand.2.1 27 = .ok (.iconst 1, 1) := by decide +kernel
theorem dM_hand_28 : decode YM_hand.2.1 28 = .ok (.invokevirtual 255, 3) := by decide +kernel
theorem dM_hand_31 : decode YM_hand.2.1 31 = .ok (.putfield 262, 3) := by decide +kernel
theorem dM_hand_34 : decode YM_hand.2.1 34 = .ok (.aload_n 0, 1) := by decide +kernel
theorem dM_hand_35 : decode YM_hand.2.1 35 = .ok (.iconst (-1), 1) := by decide +kernel
theorem dM_hand_36 : decode YM_hand.2.1 36 = .ok (.putfield 265, 3) := by decide +kernel
theorem dM_hand_39 : decode YM_hand.2.1 39 = .ok (.iconst 0, 1) := by decide +kernel
theorem dM_hand_40 : decode YM_hand.2.1 40 = .ok (.istore_n 2, 1) := by decide +kernel
theorem dM_hand_41 : decode YM_hand.2.1 41 = .ok (.iload_n 2, 1) := by decide +kernel
theorem dM_hand_42 : decode YM_hand.2.1 42 = .ok (.bipush 10, 2) := by decide +kernel
theorem dM_hand_44 : decode YM_hand.2.1 44 = .ok (.if_icmp .ge 23, 3) := by decide +kernel
theorem dM_hand_47 : decode YM_hand.2.1 47 = .ok (.aload_n 0, 1) := by decide +kernel
theorem dM_hand_48 : decode YM_hand.2.1 48 = .ok (.getfield 41, 3) := by decide +kernel
theorem dM_hand_51 : decode YM_hand.2.1 51 = .ok (.iload_n 2, 1) := by decide +kernel
theorem dM_hand_52 : decode YM_hand.2.1 52 = .ok (.aload_n 0, 1) := by decide +kernel
theorem dM_hand_53 : decode YM_hand.2.1 53 = .ok (.bipush 9, 2) := by decide +kernel
theorem dM_hand_55 : decode YM_hand.2.1 55 = .ok (.iload_n 2, 1) := by decide +kernel
theorem dM_hand_56 : decode YM_hand.2.1 56 = .ok (.iadd, 1) := by decide +kernel
theorem dM_hand_57 : decode YM_hand.2.1 57 = .ok (.invokevirtual 255, 3) := by decide +kernel
theorem dM_hand_60 : decode YM_hand.2.1 60 = .ok (.iastore, 1) := by decide +kernel
theorem dM_hand_61 : decode YM_hand.2.1 61 = .ok (.iinc 2 1, 3) := by decide +kernel
theorem dM_hand_64 : decode YM_hand.2.1 64 = .ok (.goto (-23), 3) := by decide +kernel
theorem dM_hand_67 : decode YM_hand.2.1 67 = .ok (.aload_n 0, 1) := by decide +kernel
theorem dM_hand_68 : decode YM_hand.2.1 68 = .ok (.invokevirtual 268, 3) := by decide +kernel
theorem dM_hand_71 : decode YM_hand.2.1 71 = .ok (.iconst 1, 1) := by decide +kernel
theorem dM_hand_72 : decode YM_hand.2.1 72 = .ok (.ireturn, 1) := by decide +kernel
theorem dM_begin_0 : decode YM_begin.2.1 0 = .ok (.iconst 0, 1) := by decide +kernel
theorem dM_begin_1 : decode YM_begin.2.1 1 = .ok (.istore_n 1, 1) := by decide +kernel
theorem dM_begin_2 : decode YM_begin.2.1 2 = .ok (.iload_n 1, 1) := by decide +kernel
theorem dM_begin_3 : decode YM_begin.2.1 3 = .ok (.bipush 6, 2) := by decide +kernel
theorem dM_begin_5 : decode YM_begin.2.1 5 = .ok (.if_icmp .ge 36, 3) := by decide +kernel
theorem dM_begin_8 : decode YM_begin.2.1 8 = .ok (.aload_n 0, 1) := by decide +kernel
theorem dM_begin_9 : decode YM_begin.2.1 9 = .ok (.getfield 44, 3) := by decide +kernel
theorem dM_begin_12 : decode YM_begin.2.1 12 = .ok (.iload_n 1, 1) := by decide +kernel
theorem dM_begin_13 : decode YM_begin.2.1 13 = .ok (.aload_n 0, 1) := by decide +kernel
theorem dM_begin_14 : decode YM_begin.2.1 14 = .ok (.iconst 3, 1) := by decide +kernel
theorem dM_begin_15 : decode YM_begin.2.1 15 = .ok (.iload_n 1, 1) := by decide +kernel
theorem dM_begin_16 : decode YM_begin.2.1 16 = .ok (.iadd, 1) := by decide +kernel
theorem dM_begin_17 : decode YM_begin.2.1 17 = .ok (.invokevirtual 255, 3) := by decide +kernel
theorem dM_begin_20 : decode YM_begin.2.1 20 = .ok (.iastore, 1) := by decide +kernel
theorem dM_begin_21 : decode YM_begin.2.1 21 = .ok (.aload_n 0, 1) := by decide +kernel
theorem dM_begin_22 : decode YM_begin.2.1 22 = .ok (.getfield 47, 3) := by decide +kernel
theorem dM_begin_25 : decode YM_begin.2.1 25 = .ok (.iload_n 1, 1) := by decide +kernel
theorem dM_begin_26 : decode YM_begin.2.1 26 = .ok (.iconst (-1), 1) := by decide +kernel
theorem dM_begin_27 : decode YM_begin.2.1 27 = .ok (.iastore, 1) := by decide +kernel
theorem dM_begin_28 : decode YM_begin.2.1 28 = .ok (.aload_n 0, 1) := by decide +kernel
theorem dM_begin_29 : decode YM_begin.2.1 29 = .ok (.getfield 50, 3) := by decide +kernel
theorem dM_begin_32 : decode YM_begin.2.1 32 = .ok (.iload_n 1, 1) := by decide +kernel
theorem dM_begin_33 : decode YM_begin.2.1 33 = .ok (.iconst 0, 1) := by decide +kernel
theorem dM_begin_34 : decode YM_begin.2.1 34 = .ok (.iastore, 1) := by decide +kernel
theorem dM_begin_35 : decode YM_begin.2.1 35 = .ok (.iinc 1 1, 3) := by decide +kernel
theorem dM_begin_38 : decode YM_begin.2.1 38 = .ok (.goto (-36), 3) := by decide +kernel
theorem dM_begin_41 : decode YM_begin.2.1 41 = .ok (.return_, 1) := by decide +kernel
theorem dM_isHouse_0 : decode YM_isHouse.2.1 0 = .ok (.iload_n 1, 1) := by decide +kernel
theorem dM_isHouse_1 : decode YM_isHouse.2.1 1 = .ok (.iconst 0, 1) := by decide +kernel
theorem dM_isHouse_2 : decode YM_isHouse.2.1 2 = .ok (.aload_n 0, 1) := by decide +kernel
theorem dM_isHouse_3 : decode YM_isHouse.2.1 3 = .ok (.getfield 259, 3) := by decide +kernel
theorem dM_isHouse_6 : decode YM_isHouse.2.1 6 = .ok (.iconst 1, 1) := by decide +kernel
theorem dM_isHouse_7 : decode YM_isHouse.2.1 7 = .ok (.isub, 1) := by decide +kernel
theorem dM_isHouse_8 : decode YM_isHouse.2.1 8 = .ok (.invokestatic 102, 3) := by decide +kernel
theorem dM_isHouse_11 : decode YM_isHouse.2.1 11 = .ok (.ireturn, 1) := by decide +kernel
theorem dM_isLetter_0 : decode YM_isLetter.2.1 0 = .ok (.iload_n 1, 1) := by decide +kernel
theorem dM_isLetter_1 : decode YM_isLetter.2.1 1 = .ok (.iconst 0, 1) := by decide +kernel
theorem dM_isLetter_2 : decode YM_isLetter.2.1 2 = .ok (.aload_n 0, 1) := by decide +kernel
theorem dM_isLetter_3 : decode YM_isLetter.2.1 3 = .ok (.getfield 262, 3) := by decide +kernel
theorem dM_isLetter_6 : decode YM_isLetter.2.1 6 = .ok (.iconst 1, 1) := by decide +kernel
theorem dM_isLetter_7 : decode YM_isLetter.2.1 7 = .ok (.isub, 1) := by decide +kernel
theorem dM_isLetter_8 : decode YM_isLetter.2.1 8 = .ok (.invokestatic 102, 3) := by decide +kernel
theorem dM_isLetter_11 : decode YM_isLetter.2.1 11 = .ok (.ireturn, 1) := by decide +kernel
theorem dM_kind_0 : decode YM_kind.2.1 0 = .ok (.aload_n 0, 1) := by decide +kernel
theorem dM_kind_1 : decode YM_kind.2.1 1 = .ok (.bipush 19, 2) := by decide +kernel
theorem dM_kind_3 : decode YM_kind.2.1 3 = .ok (.iload_n 1, 1) := by decide +kernel
theorem dM_kind_4 : decode YM_kind.2.1 4 = .ok (.iadd, 1) := by decide +kernel
theorem dM_kind_5 : decode YM_kind.2.1 5 = .ok (.invokevirtual 255, 3) := by decide +kernel
theorem dM_kind_8 : decode YM_kind.2.1 8 = .ok (.ireturn, 1) := by decide +kernel
theorem dM_base_0 : decode YM_base.2.1 0 = .ok (.aload_n 0, 1) := by decide +kernel
theorem dM_base_1 : decode YM_base.2.1 1 = .ok (.bipush 29, 2) := by decide +kernel
theorem dM_base_3 : decode YM_base.2.1 3 = .ok (.iload_n 1, 1) := by decide +kernel
theorem dM_base_4 : decode YM_base.2.1 4 = .ok (.iadd, 1) := by decide +kernel
theorem dM_base_5 : decode YM_base.2.1 5 = .ok (.invokevirtual 255, 3) := by decide +kernel
theorem dM_base_8 : decode YM_base.2.1 8 = .ok (.istore_n 2, 1) := by decide +kernel
theorem dM_base_9 : decode YM_base.2.1 9 = .ok (.aload_n 0, 1) := by decide +kernel
theorem dM_base_10 : decode YM_base.2.1 10 = .ok (.iload_n 1, 1) := by decide +kernel
theorem dM_base_11 : decode YM_base.2.1 11 = .ok (.invokevirtual 271, 3) := by decide +kernel
theorem dM_base_14 : decode YM_base.2.1 14 = .ok (.istore_n 3, 1) := by decide +kernel
theorem dM_base_15 : decode YM_base.2.1 15 = .ok (.iload_n 3, 1) := by decide +kernel
theorem dM_base_16 : decode YM_base.2.1 16 = .ok (.ifCond .ne 7, 3) := by decide +kernel
theorem dM_base_19 : decode YM_base.2.1 19 = .ok (.iload_n 2, 1) := by decide +kernel
theorem dM_base_20 : decode YM_base.2.1 20 = .ok (.goto 25, 3) := by decide +kernel
theorem dM_base_23 : decode YM_base.2.1 23 = .ok (.iload_n 3, 1) := by decide +kernel
theorem dM_base_24 : decode YM_base.2.1 24 = .ok (.iconst 1, 1) := by decide +kernel
theorem dM_base_25 : decode YM_base.2.1 25 = .ok (.if_icmp .ne 8, 3) := by decide +kernel
theorem dM_base_28 : decode YM_base.2.1 28 = .ok (.iload_n 2, 1) := by decide +kernel
theorem dM_base_29 : decode YM_base.2.1 29 = .ok (.ineg, 1) := by decide +kernel
theorem dM_base_30 : decode YM_base.2.1 30 = .ok (.goto 15, 3) := by decide +kernel
theorem dM_base_33 : decode YM_base.2.1 33 = .ok (.iload_n 3, 1) := by decide +kernel
theorem dM_base_34 : decode YM_base.2.1 34 = .ok (.iconst 2, 1) := by decide +kernel
theorem dM_base_35 : decode YM_base.2.1 35 = .ok (.if_icmp .ne 9, 3) := by decide +kernel
theorem dM_base_38 : decode YM_base.2.1 38 = .ok (.iload_n 2, 1) := by decide +kernel
theorem dM_base_39 : decode YM_base.2.1 39 = .ok (.iconst 2, 1) := by decide +kernel
theorem dM_base_40 : decode YM_base.2.1 40 = .ok (.idiv, 1) := by decide +kernel
theorem dM_base_41 : decode YM_base.2.1 41 = .ok (.goto 4, 3) := by decide +kernel
theorem dM_base_44 : decode YM_base.2.1 44 = .ok (.iconst 0, 1) := by decide +kernel
theorem dM_base_45 : decode YM_base.2.1 45 = .ok (.ireturn, 1) := by decide +kernel
theorem dM_doesBy_0 : decode YM_doesBy.2.1 0 = .ok (.iconst 4, 1) := by decide +kernel
theorem dM_doesBy_1 : decode YM_doesBy.2.1 1 = .ok (.iload_n 2, 1) := by decide +kernel
theorem dM_doesBy_2 : decode YM_doesBy.2.1 2 = .ok (.imul, 1) := by decide +kernel
theorem dM_doesBy_3 : decode YM_doesBy.2.1 3 = .ok (.aload_n 0, 1) := by decide +kernel
theorem dM_doesBy_4 : decode YM_doesBy.2.1 4 = .ok (.iload_n 1, 1) := by decide +kernel
theorem dM_doesBy_5 : decode YM_doesBy.2.1 5 = .ok (.invokevirtual 271, 3) := by decide +kernel
theorem dM_doesBy_8 : decode YM_doesBy.2.1 8 = .ok (.iadd, 1) := by decide +kernel
theorem dM_doesBy_9 : decode YM_doesBy.2.1 9 = .ok (.istore_n 3, 1) := by decide +kernel
theorem dM_doesBy_10 : decode YM_doesBy.2.1 10 = .ok (.iload_n 2, 1) := by decide +kernel
theorem dM_doesBy_11 : decode YM_doesBy.2.1 11 = .ok (.iconst (-1), 1) := by decide +kernel
theorem dM_doesBy_12 : decode YM_doesBy.2.1 12 = .ok (.if_icmp .eq 11, 3) := by decide +kernel
theorem dM_doesBy_15 : decode YM_doesBy.2.1 15 = .ok (.iload_n 3, 1) := by decide +kernel
theorem dM_doesBy_16 : decode YM_doesBy.2.1 16 = .ok (.aload_n 0, 1) := by decide +kernel
theorem dM_doesBy_17 : decode YM_doesBy.2.1 17 = .ok (.getfield 265, 3) := by decide +kernel
theorem dM_doesBy_20 : decode YM_doesBy.2.1 20 = .ok (.if_icmp .ne 7, 3) := by decide +kernel
theorem dM_doesBy_23 : decode YM_doesBy.2.1 23 = .ok (.iconst (-1), 1) := by decide +kernel
theorem dM_doesBy_24 : decode YM_doesBy.2.1 24 = .ok (.goto 11, 3) := by decide +kernel
theorem dM_doesBy_27 : decode YM_doesBy.2.1 27 = .ok (.aload_n 0, 1) := by decide +kernel
theorem dM_doesBy_28 : decode YM_doesBy.2.1 28 = .ok (.bipush 59, 2) := by decide +kernel
theorem dM_doesBy_30 : decode YM_doesBy.2.1 30 = .ok (.iload_n 3, 1) := by decide +kernel
theorem dM_doesBy_31 : decode YM_doesBy.2.1 31 = .ok (.iadd, 1) := by decide +kernel
theorem dM_doesBy_32 : decode YM_doesBy.2.1 32 = .ok (.invokevirtual 255, 3) := by decide +kernel
theorem dM_doesBy_35 : decode YM_doesBy.2.1 35 = .ok (.istore 4, 2) := by decide +kernel
theorem dM_doesBy_37 : decode YM_doesBy.2.1 37 = .ok (.iload 4, 2) := by decide +kernel
theorem dM_doesBy_39 : decode YM_doesBy.2.1 39 = .ok (.iconst (-1), 1) := by decide +kernel
theorem dM_doesBy_40 : decode YM_doesBy.2.1 40 = .ok (.if_icmp .ne 11, 3) := by decide +kernel
theorem dM_doesBy_43 : decode YM_doesBy.2.1 43 = .ok (.aload_n 0, 1) := by decide +kernel
theorem dM_doesBy_44 : decode YM_doesBy.2.1 44 = .ok (.iload_n 1, 1) := by decide +kernel
theorem dM_doesBy_45 : decode YM_doesBy.2.1 45 = .ok (.invokevirtual 274, 3) := by decide +kernel
theorem dM_doesBy_48 : decode YM_doesBy.2.1 48 = .ok (.goto 11, 3) := by decide +kernel
theorem dM_doesBy_51 : decode YM_doesBy.2.1 51 = .ok (.aload_n 0, 1) := by decide +kernel
theorem dM_doesBy_52 : decode YM_doesBy.2.1 52 = .ok (.iload_n 1, 1) := by decide +kernel
theorem dM_doesBy_53 : decode YM_doesBy.2.1 53 = .ok (.invokevirtual 274, 3) := by decide +kernel
theorem dM_doesBy_56 : decode YM_doesBy.2.1 56 = .ok (.iload 4, 2) := by decide +kernel
theorem dM_doesBy_58 : decode YM_doesBy.2.1 58 = .ok (.imul, 1) := by decide +kernel
theorem dM_doesBy_59 : decode YM_doesBy.2.1 59 = .ok (.ireturn, 1) := by decide +kernel
theorem dM_office_0 : decode YM_office.2.1 0 = .ok (.aload_n 0, 1) := by decide +kernel
theorem dM_office_1 : decode YM_office.2.1 1 = .ok (.iconst 0, 1) := by decide +kernel
theorem dM_office_2 : decode YM_office.2.1 2 = .ok (.putfield 90, 3) := by decide +kernel
theorem dM_office_5 : decode YM_office.2.1 5 = .ok (.aload_n 0, 1) := by decide +kernel
theorem dM_office_6 : decode YM_office.2.1 6 = .ok (.iload_n 1, 1) := by decide +kernel
theorem dM_office_7 : decode YM_office.2.1 7 = .ok (.invokevirtual 277, 3) := by decide +kernel
theorem dM_office_10 : decode YM_office.2.1 10 = .ok (.ifCond .ne 6, 3) := by decide +kernel
theorem dM_office_13 : decode YM_office.2.1 13 = .ok (.bipush (-2), 2) := by decide +kernel
theorem dM_office_15 : decode YM_office.2.1 15 = .ok (.ireturn, 1) := by decide +kernel
theorem dM_office_16 : decode YM_office.2.1 16 = .ok (.iload_n 2, 1) := by decide +kernel
theorem dM_office_17 : decode YM_office.2.1 17 = .ok (.bipush 10, 2) := by decide +kernel
theorem dM_office_19 : decode YM_office.2.1 19 = .ok (.irem, 1) := by decide +kernel
theorem dM_office_20 : decode YM_office.2.1 20 = .ok (.istore_n 3, 1) := by decide +kernel
theorem dM_office_21 : decode YM_office.2.1 21 = .ok (.iload_n 2, 1) := by decide +kernel
theorem dM_office_22 : decode YM_office.2.1 22 = .ok (.bipush 10, 2) := by decide +kernel
theorem dM_office_24 : decode YM_office.2.1 24 = .ok (.idiv, 1) := by decide +kernel
theorem dM_office_25 : decode YM_office.2.1 25 = .ok (.tableswitch 159 0 11 #[63, 83, 104, 104, 104, 104, 104, 159, 159, 159, 136, 136], 63) := by decide +kernel
theorem dM_office_88 : decode YM_office.2.1 88 = .ok (.iload_n 2, 1) := by decide +kernel
theorem dM_office_89 : decode YM_office.2.1 89 = .ok (.iconst 0, 1) := by decide +kernel
theorem dM_office_90 : decode YM_office.2.1 90 = .ok (.iconst 2, 1) := by decide +kernel
theorem dM_office_91 : decode YM_office.2.1 91 = .ok (.invokestatic 102, 3) := by decide +kernel
theorem dM_office_94 : decode YM_office.2.1 94 = .ok (.ifCond .eq 11, 3) := by decide +kernel
theorem dM_office_97 : decode YM_office.2.1 97 = .ok (.aload_n 0, 1) := by decide +kernel
theorem dM_office_98 : decode YM_office.2.1 98 = .ok (.iload_n 2, 1) := by decide +kernel
theorem dM_office_99 : decode YM_office.2.1 99 = .ok (.invokevirtual 255, 3) := by decide +kernel
theorem dM_office_102 : decode YM_office.2.1 102 = .ok (.goto 5, 3) := by decide +kernel
theorem dM_office_105 : decode YM_office.2.1 105 = .ok (.bipush (-2), 2) := by decide +kernel
theorem dM_office_107 : decode YM_office.2.1 107 = .ok (.ireturn, 1) := by decide +kernel
theorem dM_office_108 : decode YM_office.2.1 108 = .ok (.iload_n 3, 1) := by decide +kernel
theorem dM_office_109 : decode YM_office.2.1 109 = .ok (.aload_n 0, 1) := by decide +kernel
theorem dM_office_110 : decode YM_office.2.1 110 = .ok (.getfield 259, 3) := by decide +kernel
theorem dM_office_113 : decode YM_office.2.1 113 = .ok (.if_icmp .ge 13, 3) := by decide +kernel
theorem dM_office_116 : decode YM_office.2.1 116 = .ok (.aload_n 0, 1) := by decide +kernel
theorem dM_office_117 : decode YM_office.2.1 117 = .ok (.iconst 3, 1) := by decide +kernel
theorem dM_office_118 : decode YM_office.2.1 118 = .ok (.iload_n 3, 1) := by decide +kernel
theorem dM_office_119 : decode YM_office.2.1 119 = .ok (.iadd, 1) := by decide +kernel
theorem dM_office_120 : decode YM_office.2.1 120 = .ok (.invokevirtual 255, 3) := by decide +kernel
theorem dM_office_123 : decode YM_office.2.1 123 = .ok (.goto 5, 3) := by decide +kernel
theorem dM_office_126 : decode YM_office.2.1 126 = .ok (.bipush (-2), 2) := by decide +kernel
theorem dM_office_128 : decode YM_office.2.1 128 = .ok (.ireturn, 1) := by decide +kernel
theorem dM_office_129 : decode YM_office.2.1 129 = .ok (.iload_n 3, 1) := by decide +kernel
theorem dM_office_130 : decode YM_office.2.1 130 = .ok (.aload_n 0, 1) := by decide +kernel
theorem dM_office_131 : decode YM_office.2.1 131 = .ok (.getfield 262, 3) := by decide +kernel
theorem dM_office_134 : decode YM_office.2.1 134 = .ok (.if_icmp .ge 24, 3) := by decide +kernel
theorem dM_office_137 : decode YM_office.2.1 137 = .ok (.aload_n 0, 1) := by decide +kernel
theorem dM_office_138 : decode YM_office.2.1 138 = .ok (.bipush 9, 2) := by decide +kernel
theorem dM_office_140 : decode YM_office.2.1 140 = .ok (.bipush 10, 2) := by decide +kernel
theorem dM_office_142 : decode YM_office.2.1 142 = .ok (.iload_n 2, 1) := by decide +kernel
theorem dM_office_143 : decode YM_office.2.1 143 = .ok (.bipush 10, 2) := by decide +kernel
theorem dM_office_145 : decode YM_office.2.1 145 = .ok (.idiv, 1) := by decide +kernel
theorem dM_office_146 : decode YM_office.2.1 146 = .ok (.iconst 2, 1) := by decide +kernel
theorem dM_office_147 : decode YM_office.2.1 147 = .ok (.isub, 1) := by decide +kernel
theorem dM_office_148 : decode YM_office.2.1 148 = .ok (.imul, 1) := by decide +kernel
theorem dM_office_149 : decode YM_office.2.1 149 = .ok (.iadd, 1) := by decide +kernel
theorem dM_office_150 : decode YM_office.2.1 150 = .ok (.iload_n 3, 1) := by decide +kernel
theorem dM_office_151 : decode YM_office.2.1 151 = .ok (.iadd, 1) := by decide +kernel
theorem dM_office_152 : decode YM_office.2.1 152 = .ok (.invokevirtual 255, 3) := by decide +kernel
theorem dM_office_155 : decode YM_office.2.1 155 = .ok (.goto 5, 3) := by decide +kernel
theorem dM_office_158 : decode YM_office.2.1 158 = .ok (.bipush (-2), 2) := by decide +kernel
theorem dM_office_160 : decode YM_office.2.1 160 = .ok (.ireturn, 1) := by decide +kernel
theorem dM_office_161 : decode YM_office.2.1 161 = .ok (.iload_n 2, 1) := by decide +kernel
theorem dM_office_162 : decode YM_office.2.1 162 = .ok (.bipush 116, 2) := by decide +kernel
theorem dM_office_164 : decode YM_office.2.1 164 = .ok (.if_icmp .ge 17, 3) := by decide +kernel
theorem dM_office_167 : decode YM_office.2.1 167 = .ok (.aload_n 0, 1) := by decide +kernel
theorem dM_office_168 : decode YM_office.2.1 168 = .ok (.bipush 59, 2) := by decide +kernel
theorem dM_office_170 : decode YM_office.2.1 170 = .ok (.iload_n 2, 1) := by decide +kernel
theorem dM_office_171 : decode YM_office.2.1 171 = .ok (.iadd, 1) := by decide +kernel
theorem dM_office_172 : decode YM_office.2.1 172 = .ok (.bipush 100, 2) := by decide +kernel
theorem dM_office_174 : decode YM_office.2.1 174 = .ok (.isub, 1) := by decide +kernel
theorem dM_office_175 : decode YM_office.2.1 175 = .ok (.invokevirtual 255, 3) := by decide +kernel
theorem dM_office_178 : decode YM_office.2.1 178 = .ok (.goto 5, 3) := by decide +kernel
theorem dM_office_181 : decode YM_office.2.1 181 = .ok (.bipush (-2), 2) := by decide +kernel
theorem dM_office_183 : decode YM_office.2.1 183 = .ok (.ireturn, 1) := by decide +kernel
theorem dM_office_184 : decode YM_office.2.1 184 = .ok (.bipush (-2), 2) := by decide +kernel
theorem dM_office_186 : decode YM_office.2.1 186 = .ok (.ireturn, 1) := by decide +kernel
theorem dM_doing_0 : decode YM_doing.2.1 0 = .ok (.aload_n 0, 1) := by decide +kernel
theorem dM_doing_1 : decode YM_doing.2.1 1 = .ok (.iconst 0, 1) := by decide +kernel
theorem dM_doing_2 : decode YM_doing.2.1 2 = .ok (.putfield 90, 3) := by decide +kernel
theorem dM_doing_5 : decode YM_doing.2.1 5 = .ok (.aload_n 0, 1) := by decide +kernel
theorem dM_doing_6 : decode YM_doing.2.1 6 = .ok (.iload_n 1, 1) := by decide +kernel
theorem dM_doing_7 : decode YM_doing.2.1 7 = .ok (.invokevirtual 277, 3) := by decide +kernel
theorem dM_doing_10 : decode YM_doing.2.1 10 = .ok (.ifCond .eq 29, 3) := by decide +kernel
theorem dM_doing_13 : decode YM_doing.2.1 13 = .ok (.aload_n 0, 1) := by decide +kernel
theorem dM_doing_14 : decode YM_doing.2.1 14 = .ok (.iload_n 2, 1) := by decide +kernel
theorem dM_doing_15 : decode YM_doing.2.1 15 = .ok (.invokevirtual 280, 3) := by decide +kernel
theorem dM_doing_18 : decode YM_doing.2.1 18 = .ok (.ifCond .eq 21, 3) := by decide +kernel
theorem dM_doing_21 : decode YM_doing.2.1 21 = .ok (.iload_n 3, 1) := by decide +kernel
theorem dM_doing_22 : decode YM_doing.2.1 22 = .ok (.iconst (-1), 1) := by decide +kernel
theorem dM_doing_23 : decode YM_doing.2.1 23 = .ok (.iconst 3, 1) := by decide +kernel
theorem dM_doing_24 : decode YM_doing.2.1 24 = .ok (.invokestatic 102, 3) := by decide +kernel
theorem dM_doing_27 : decode YM_doing.2.1 27 = .ok (.ifCond .eq 12, 3) := by decide +kernel
theorem dM_doing_30 : decode YM_doing.2.1 30 = .ok (.aload_n 0, 1) := by decide +kernel
theorem dM_doing_31 : decode YM_doing.2.1 31 = .ok (.iload_n 2, 1) := by decide +kernel
theorem dM_doing_32 : decode YM_doing.2.1 32 = .ok (.iload_n 3, 1) := by decide +kernel
theorem dM_doing_33 : decode YM_doing.2.1 33 = .ok (.invokevirtual 283, 3) := by decide +kernel
theorem dM_doing_36 : decode YM_doing.2.1 36 = .ok (.goto 6, 3) := by decide +kernel
theorem dM_doing_39 : decode YM_doing.2.1 39 = .ok (.sipush (-1000), 3) := by decide +kernel
theorem dM_doing_42 : decode YM_doing.2.1 42 = .ok (.ireturn, 1) := by decide +kernel
theorem dM_deeds_0 : decode YM_deeds.2.1 0 = .ok (.aload_n 0, 1) := by decide +kernel
theorem dM_deeds_1 : decode YM_deeds.2.1 1 = .ok (.getfield 29, 3) := by decide +kernel
theorem dM_deeds_4 : decode YM_deeds.2.1 4 = .ok (.bipush 121, 2) := by decide +kernel
theorem dM_deeds_6 : decode YM_deeds.2.1 6 = .ok (.aload_n 0, 1) := by decide +kernel
theorem dM_deeds_7 : decode YM_deeds.2.1 7 = .ok (.getfield 286, 3) := by decide +kernel
theorem dM_deeds_10 : decode YM_deeds.2.1 10 = .ok (.imul, 1) := by decide +kernel
theorem dM_deeds_11 : decode YM_deeds.2.1 11 = .ok (.iaload, 1) := by decide +kernel
theorem dM_deeds_12 : decode YM_deeds.2.1 12 = .ok (.ireturn, 1) := by decide +kernel
theorem dM_deedOf_0 : decode YM_deedOf.2.1 0 = .ok (.aload_n 0, 1) := by decide +kernel
theorem dM_deedOf_1 : decode YM_deedOf.2.1 1 = .ok (.getfield 29, 3) := by decide +kernel
theorem dM_deedOf_4 : decode YM_deedOf.2.1 4 = .ok (.bipush 121, 2) := by decide +kernel
theorem dM_deedOf_6 : decode YM_deedOf.2.1 6 = .ok (.aload_n 0, 1) := by decide +kernel
theorem dM_deedOf_7 : decode YM_deedOf.2.1 7 = .ok (.getfield 286, 3) := by decide +kernel
theorem dM_deedOf_10 : decode YM_deedOf.2.1 10 = .ok (.imul, 1) := by decide +kernel
theorem dM_deedOf_11 : decode YM_deedOf.2.1 11 = .ok (.iconst 1, 1) := by decide +kernel
theorem dM_deedOf_12 : decode YM_deedOf.2.1 12 = .ok (.iadd, 1) := by decide +kernel
theorem dM_deedOf_13 : decode YM_deedOf.2.1 13 = .ok (.iconst 3, 1) := by decide +kernel
theorem dM_deedOf_14 : decode YM_deedOf.2.1 14 = .ok (.iload_n 1, 1) := by decide +kernel
theorem dM_deedOf_15 : decode YM_deedOf.2.1 15 = .ok (.imul, 1) := by decide +kernel
theorem dM_deedOf_16 : decode YM_deedOf.2.1 16 = .ok (.iadd, 1) := by decide +kernel
theorem dM_deedOf_17 : decode YM_deedOf.2.1 17 = .ok (.iload_n 2, 1) := by decide +kernel
theorem dM_deedOf_18 : decode YM_deedOf.2.1 18 = .ok (.iadd, 1) := by decide +kernel
theorem dM_deedOf_19 : decode YM_deedOf.2.1 19 = .ok (.iaload, 1) := by decide +kernel
theorem dM_deedOf_20 : decode YM_deedOf.2.1 20 = .ok (.ireturn, 1) := by decide +kernel
theorem dM_hasWeek_0 : decode YM_hasWeek.2.1 0 = .ok (.aload_n 0, 1) := by decide +kernel
theorem dM_hasWeek_1 : decode YM_hasWeek.2.1 1 = .ok (.iload_n 1, 1) := by decide +kernel
theorem dM_hasWeek_2 : decode YM_hasWeek.2.1 2 = .ok (.putfield 286, 3) := by decide +kernel
theorem dM_hasWeek_5 : decode YM_hasWeek.2.1 5 = .ok (.aload_n 0, 1) := by decide +kernel
theorem dM_hasWeek_6 : decode YM_hasWeek.2.1 6 = .ok (.iconst 1, 1) := by decide +kernel
theorem dM_hasWeek_7 : decode YM_hasWeek.2.1 7 = .ok (.iload_n 1, 1) := by decide +kernel
theorem dM_hasWeek_8 : decode YM_hasWeek.2.1 8 = .ok (.invokevirtual 242, 3) := by decide +kernel
theorem dM_hasWeek_11 : decode YM_hasWeek.2.1 11 = .ok (.ireturn, 1) := by decide +kernel
theorem dM_deed_0 : decode YM_deed.2.1 0 = .ok (.aload_n 0, 1) := by decide +kernel
theorem dM_deed_1 : decode YM_deed.2.1 1 = .ok (.iconst 0, 1) := by decide +kernel
theorem dM_deed_2 : decode YM_deed.2.1 2 = .ok (.putfield 90, 3) := by decide +kernel
theorem dM_deed_5 : decode YM_deed.2.1 5 = .ok (.aload_n 0, 1) := by decide +kernel
theorem dM_deed_6 : decode YM_deed.2.1 6 = .ok (.iload_n 1, 1) := by decide +kernel
theorem dM_deed_7 : decode YM_deed.2.1 7 = .ok (.invokevirtual 289, 3) := by decide +kernel
theorem dM_deed_10 : decode YM_deed.2.1 10 = .ok (.ifCond .ne 6, 3) := by decide +kernel
theorem dM_deed_13 : decode YM_deed.2.1 13 = .ok (.bipush (-2), 2) := by decide +kernel
theorem dM_deed_15 : decode YM_deed.2.1 15 = .ok (.ireturn, 1) := by decide +kernel
theorem dM_deed_16 : decode YM_deed.2.1 16 = .ok (.iload_n 2, 1) := by decide +kernel
theorem dM_deed_17 : decode YM_deed.2.1 17 = .ok (.iconst (-1), 1) := by decide +kernel
theorem dM_deed_18 : decode YM_deed.2.1 18 = .ok (.if_icmp .ne 17, 3) := by decide +kernel
theorem dM_deed_21 : decode YM_deed.2.1 21 = .ok (.iload_n 3, 1) := by decide +kernel
theorem dM_deed_22 : decode YM_deed.2.1 22 = .ok (.ifCond .ne 10, 3) := by decide +kernel
theorem dM_deed_25 : decode YM_deed.2.1 25 = .ok (.aload_n 0, 1) := by decide +kernel
theorem dM_deed_26 : decode YM_deed.2.1 26 = .ok (.invokevirtual 292, 3) := by decide +kernel
theorem dM_deed_29 : decode YM_deed.2.1 29 = .ok (.goto 5, 3) := by decide +kernel
theorem dM_deed_32 : decode YM_deed.2.1 32 = .ok (.bipush (-2), 2) := by decide +kernel
theorem dM_deed_34 : decode YM_deed.2.1 34 = .ok (.ireturn, 1) := by decide +kernel
theorem dM_deed_35 : decode YM_deed.2.1 35 = .ok (.iload_n 2, 1) := by decide +kernel
theorem dM_deed_36 : decode YM_deed.2.1 36 = .ok (.iconst 0, 1) := by decide +kernel
theorem dM_deed_37 : decode YM_deed.2.1 37 = .ok (.aload_n 0, 1) := by decide +kernel
theorem dM_deed_38 : decode YM_deed.2.1 38 = .ok (.invokevirtual 292, 3) := by decide +kernel
theorem dM_deed_41 : decode YM_deed.2.1 41 = .ok (.iconst 1, 1) := by decide +kernel
theorem dM_deed_42 : decode YM_deed.2.1 42 = .ok (.isub, 1) := by decide +kernel
theorem dM_deed_43 : decode YM_deed.2.1 43 = .ok (.invokestatic 102, 3) := by decide +kernel
theorem dM_deed_46 : decode YM_deed.2.1 46 = .ok (.ifCond .eq 21, 3) := by decide +kernel
theorem dM_deed_49 : decode YM_deed.2.1 49 = .ok (.iload_n 3, 1) := by decide +kernel
theorem dM_deed_50 : decode YM_deed.2.1 50 = .ok (.iconst 0, 1) := by decide +kernel
theorem dM_deed_51 : decode YM_deed.2.1 51 = .ok (.iconst 2, 1) := by decide +kernel
theorem dM_deed_52 : decode YM_deed.2.1 52 = .ok (.invokestatic 102, 3) := by decide +kernel
theorem dM_deed_55 : decode YM_deed.2.1 55 = .ok (.ifCond .eq 12, 3) := by decide +kernel
theorem dM_deed_58 : decode YM_deed.2.1 58 = .ok (.aload_n 0, 1) := by decide +kernel
theorem dM_deed_59 : decode YM_deed.2.1 59 = .ok (.iload_n 2, 1) := by decide +kernel
theorem dM_deed_60 : decode YM_deed.2.1 60 = .ok (.iload_n 3, 1) := by decide +kernel
theorem dM_deed_61 : decode YM_deed.2.1 61 = .ok (.invokevirtual 295, 3) := by decide +kernel
theorem dM_deed_64 : decode YM_deed.2.1 64 = .ok (.goto 5, 3) := by decide +kernel
theorem dM_deed_67 : decode YM_deed.2.1 67 = .ok (.bipush (-2), 2) := by decide +kernel
theorem dM_deed_69 : decode YM_deed.2.1 69 = .ok (.ireturn, 1) := by decide +kernel
theorem dM_opens_0 : decode YM_opens.2.1 0 = .ok (.aload_n 0, 1) := by decide +kernel
theorem dM_opens_1 : decode YM_opens.2.1 1 = .ok (.invokevirtual 268, 3) := by decide +kernel
theorem dM_opens_4 : decode YM_opens.2.1 4 = .ok (.aload_n 0, 1) := by decide +kernel
theorem dM_opens_5 : decode YM_opens.2.1 5 = .ok (.iconst 0, 1) := by decide +kernel
theorem dM_opens_6 : decode YM_opens.2.1 6 = .ok (.putfield 298, 3) := by decide +kernel
theorem dM_opens_9 : decode YM_opens.2.1 9 = .ok (.aload_n 0, 1) := by decide +kernel
theorem dM_opens_10 : decode YM_opens.2.1 10 = .ok (.iconst 1, 1) := by decide +kernel
theorem dM_opens_11 : decode YM_opens.2.1 11 = .ok (.aload_n 0, 1) := by decide +kernel
theorem dM_opens_12 : decode YM_opens.2.1 12 = .ok (.getfield 262, 3) := by decide +kernel
theorem dM_opens_15 : decode YM_opens.2.1 15 = .ok (.ishl, 1) := by decide +kernel
theorem dM_opens_16 : decode YM_opens.2.1 16 = .ok (.iconst 1, 1) := by decide +kernel
theorem dM_opens_17 : decode YM_opens.2.1 17 = .ok (.isub, 1) := by decide +kernel
theorem dM_opens_18 : decode YM_opens.2.1 18 = .ok (.putfield 301, 3) := by decide +kernel
theorem dM_opens_21 : decode YM_opens.2.1 21 = .ok (.aload_n 0, 1) := by decide +kernel
theorem dM_opens_22 : decode YM_opens.2.1 22 = .ok (.iconst 0, 1) := by decide +kernel
theorem dM_opens_23 : decode YM_opens.2.1 23 = .ok (.putfield 304, 3) := by decide +kernel
theorem dM_opens_26 : decode YM_opens.2.1 26 = .ok (.aload_n 0, 1) := by decide +kernel
theorem dM_opens_27 : decode YM_opens.2.1 27 = .ok (.iconst 0, 1) := by decide +kernel
theorem dM_opens_28 : decode YM_opens.2.1 28 = .ok (.putfield 307, 3) := by decide +kernel
theorem dM_opens_31 : decode YM_opens.2.1 31 = .ok (.aload_n 0, 1) := by decide +kernel
theorem dM_opens_32 : decode YM_opens.2.1 32 = .ok (.iconst 0, 1) := by decide +kernel
theorem dM_opens_33 : decode YM_opens.2.1 33 = .ok (.putfield 310, 3) := by decide +kernel
theorem dM_opens_36 : decode YM_opens.2.1 36 = .ok (.aload_n 0, 1) := by decide +kernel
theorem dM_opens_37 : decode YM_opens.2.1 37 = .ok (.iconst 0, 1) := by decide +kernel
theorem dM_opens_38 : decode YM_opens.2.1 38 = .ok (.putfield 313, 3) := by decide +kernel
theorem dM_opens_41 : decode YM_opens.2.1 41 = .ok (.return_, 1) := by decide +kernel
theorem dM_comes_0 : decode YM_comes.2.1 0 = .ok (.aload_n 0, 1) := by decide +kernel
theorem dM_comes_1 : decode YM_comes.2.1 1 = .ok (.iload_n 1, 1) := by decide +kernel
theorem dM_comes_2 : decode YM_comes.2.1 2 = .ok (.aload_n 0, 1) := by decide +kernel
theorem dM_comes_3 : decode YM_comes.2.1 3 = .ok (.getfield 47, 3) := by decide +kernel
theorem dM_comes_6 : decode YM_comes.2.1 6 = .ok (.iload_n 2, 1) := by decide +kernel
theorem dM_comes_7 : decode YM_comes.2.1 7 = .ok (.iaload, 1) := by decide +kernel
theorem dM_comes_8 : decode YM_comes.2.1 8 = .ok (.invokevirtual 283, 3) := by decide +kernel
theorem dM_comes_11 : decode YM_comes.2.1 11 = .ok (.istore_n 3, 1) := by decide +kernel
theorem dM_comes_12 : decode YM_comes.2.1 12 = .ok (.aload_n 0, 1) := by decide +kernel
theorem dM_comes_13 : decode YM_comes.2.1 13 = .ok (.getfield 44, 3) := by decide +kernel
theorem dM_comes_16 : decode YM_comes.2.1 16 = .ok (.iload_n 2, 1) := by decide +kernel
theorem dM_comes_17 : decode YM_comes.2.1 17 = .ok (.dup2, 1) := by decide +kernel
theorem dM_comes_18 : decode YM_comes.2.1 18 = .ok (.iaload, 1) := by decide +kernel
theorem dM_comes_19 : decode YM_comes.2.1 19 = .ok (.iload_n 3, 1) := by decide +kernel
theorem dM_comes_20 : decode YM_comes.2.1 20 = .ok (.iadd, 1) := by decide +kernel
theorem dM_comes_21 : decode YM_comes.2.1 21 = .ok (.iastore, 1) := by decide +kernel
theorem dM_comes_22 : decode YM_comes.2.1 22 = .ok (.aload_n 0, 1) := by decide +kernel
theorem dM_comes_23 : decode YM_comes.2.1 23 = .ok (.getfield 47, 3) := by decide +kernel
theorem dM_comes_26 : decode YM_comes.2.1 26 = .ok (.iload_n 2, 1) := by decide +kernel
theorem dM_comes_27 : decode YM_comes.2.1 27 = .ok (.aload_n 0, 1) := by decide +kernel
theorem dM_comes_28 : decode YM_comes.2.1 28 = .ok (.iload_n 1, 1) := by decide +kernel
theorem dM_comes_29 : decode YM_comes.2.1 29 = .ok (.invokevirtual 271, 3) := by decide +kernel
theorem dM_comes_32 : decode YM_comes.2.1 32 = .ok (.iastore, 1) := by decide +kernel
theorem dM_comes_33 : decode YM_comes.2.1 33 = .ok (.aload_n 0, 1) := by decide +kernel
theorem dM_comes_34 : decode YM_comes.2.1 34 = .ok (.getfield 50, 3) := by decide +kernel
theorem dM_comes_37 : decode YM_comes.2.1 37 = .ok (.iload_n 2, 1) := by decide +kernel
theorem dM_comes_38 : decode YM_comes.2.1 38 = .ok (.dup2, 1) := by decide +kernel
theorem dM_comes_39 : decode YM_comes.2.1 39 = .ok (.iaload, 1) := by decide +kernel
theorem dM_comes_40 : decode YM_comes.2.1 40 = .ok (.iconst 1, 1) := by decide +kernel
theorem dM_comes_41 : decode YM_comes.2.1 41 = .ok (.iadd, 1) := by decide +kernel
theorem dM_comes_42 : decode YM_comes.2.1 42 = .ok (.iastore, 1) := by decide +kernel
theorem dM_comes_43 : decode YM_comes.2.1 43 = .ok (.iload_n 3, 1) := by decide +kernel
theorem dM_comes_44 : decode YM_comes.2.1 44 = .ok (.ireturn, 1) := by decide +kernel
theorem dM_given_0 : decode YM_given.2.1 0 = .ok (.aload_n 0, 1) := by decide +kernel
theorem dM_given_1 : decode YM_given.2.1 1 = .ok (.iload_n 1, 1) := by decide +kernel
theorem dM_given_2 : decode YM_given.2.1 2 = .ok (.iload_n 2, 1) := by decide +kernel
theorem dM_given_3 : decode YM_given.2.1 3 = .ok (.invokevirtual 316, 3) := by decide +kernel
theorem dM_given_6 : decode YM_given.2.1 6 = .ok (.istore_n 3, 1) := by decide +kernel
theorem dM_given_7 : decode YM_given.2.1 7 = .ok (.aload_n 0, 1) := by decide +kernel
theorem dM_given_8 : decode YM_given.2.1 8 = .ok (.dup, 1) := by decide +kernel
theorem dM_given_9 : decode YM_given.2.1 9 = .ok (.getfield 307, 3) := by decide +kernel
theorem dM_given_12 : decode YM_given.2.1 12 = .ok (.iload_n 3, 1) := by decide +kernel
theorem dM_given_13 : decode YM_given.2.1 13 = .ok (.iadd, 1) := by decide +kernel
theorem dM_given_14 : decode YM_given.2.1 14 = .ok (.putfield 307, 3) := by decide +kernel
theorem dM_given_17 : decode YM_given.2.1 17 = .ok (.aload_n 0, 1) := by decide +kernel
theorem dM_given_18 : decode YM_given.2.1 18 = .ok (.dup, 1) := by decide +kernel
theorem dM_given_19 : decode YM_given.2.1 19 = .ok (.getfield 301, 3) := by decide +kernel
theorem dM_given_22 : decode YM_given.2.1 22 = .ok (.iconst 1, 1) := by decide +kernel
theorem dM_given_23 : decode YM_given.2.1 23 = .ok (.iload_n 1, 1) := by decide +kernel
theorem dM_given_24 : decode YM_given.2.1 24 = .ok (.ishl, 1) := by decide +kernel
theorem dM_given_25 : decode YM_given.2.1 25 = .ok (.iconst (-1), 1) := by decide +kernel
theorem dM_given_26 : decode YM_given.2.1 26 = .ok (.ixor, 1) := by decide +kernel
theorem dM_given_27 : decode YM_given.2.1 27 = .ok (.iand, 1) := by decide +kernel
theorem dM_given_28 : decode YM_given.2.1 28 = .ok (.putfield 301, 3) := by decide +kernel
theorem dM_given_31 : decode YM_given.2.1 31 = .ok (.aload_n 0, 1) := by decide +kernel
theorem dM_given_32 : decode YM_given.2.1 32 = .ok (.dup, 1) := by decide +kernel
theorem dM_given_33 : decode YM_given.2.1 33 = .ok (.getfield 310, 3) := by decide +kernel
theorem dM_given_36 : decode YM_given.2.1 36 = .ok (.iload_n 3, 1) := by decide +kernel
theorem dM_given_37 : decode YM_given.2.1 37 = .ok (.aload_n 0, 1) := by decide +kernel
theorem dM_given_38 : decode YM_given.2.1 38 = .ok (.iload_n 1, 1) := by decide +kernel
theorem dM_given_39 : decode YM_given.2.1 39 = .ok (.invokevirtual 274, 3) := by decide +kernel
theorem dM_given_42 : decode YM_given.2.1 42 = .ok (.if_icmp .eq 9, 3) := by decide +kernel
theorem dM_given_45 : decode YM_given.2.1 45 = .ok (.iconst 1, 1) := by decide +kernel
theorem dM_given_46 : decode YM_given.2.1 46 = .ok (.iload_n 1, 1) := by decide +kernel
theorem dM_given_47 : decode YM_given.2.1 47 = .ok (.ishl, 1) := by decide +kernel
theorem dM_given_48 : decode YM_given.2.1 48 = .ok (.goto 4, 3) := by decide +kernel
theorem dM_given_51 : decode YM_given.2.1 51 = .ok (.iconst 0, 1) := by decide +kernel
theorem dM_given_52 : decode YM_given.2.1 52 = .ok (.ior, 1) := by decide +kernel
theorem dM_given_53 : decode YM_given.2.1 53 = .ok (.putfield 310, 3) := by decide +kernel
theorem dM_given_56 : decode YM_given.2.1 56 = .ok (.aload_n 0, 1) := by decide +kernel
theorem dM_given_57 : decode YM_given.2.1 57 = .ok (.dup, 1) := by decide +kernel
theorem dM_given_58 : decode YM_given.2.1 58 = .ok (.getfield 313, 3) := by decide +kernel
theorem dM_given_61 : decode YM_given.2.1 61 = .ok (.iload_n 3, 1) := by decide +kernel
theorem dM_given_62 : decode YM_given.2.1 62 = .ok (.ifCond .ne 7, 3) := by decide +kernel
theorem dM_given_65 : decode YM_given.2.1 65 = .ok (.iconst 1, 1) := by decide +kernel
theorem dM_given_66 : decode YM_given.2.1 66 = .ok (.goto 4, 3) := by decide +kernel
theorem dM_given_69 : decode YM_given.2.1 69 = .ok (.iconst 0, 1) := by decide +kernel
theorem dM_given_70 : decode YM_given.2.1 70 = .ok (.iadd, 1) := by decide +kernel
theorem dM_given_71 : decode YM_given.2.1 71 = .ok (.putfield 313, 3) := by decide +kernel
theorem dM_given_74 : decode YM_given.2.1 74 = .ok (.return_, 1) := by decide +kernel
theorem dM_isLeft_0 : decode YM_isLeft.2.1 0 = .ok (.aload_n 0, 1) := by decide +kernel
theorem dM_isLeft_1 : decode YM_isLeft.2.1 1 = .ok (.iload_n 1, 1) := by decide +kernel
theorem dM_isLeft_2 : decode YM_isLeft.2.1 2 = .ok (.invokevirtual 280, 3) := by decide +kernel
theorem dM_isLeft_5 : decode YM_isLeft.2.1 5 = .ok (.ifCond .eq 18, 3) := by decide +kernel
theorem dM_isLeft_8 : decode YM_isLeft.2.1 8 = .ok (.aload_n 0, 1) := by decide +kernel
theorem dM_isLeft_9 : decode YM_isLeft.2.1 9 = .ok (.getfield 301, 3) := by decide +kernel
theorem dM_isLeft_12 : decode YM_isLeft.2.1 12 = .ok (.iload_n 1, 1) := by decide +kernel
theorem dM_isLeft_13 : decode YM_isLeft.2.1 13 = .ok (.invokestatic 94, 3) := by decide +kernel
theorem dM_isLeft_16 : decode YM_isLeft.2.1 16 = .ok (.ifCond .eq 7, 3) := by decide +kernel
theorem dM_isLeft_19 : decode YM_isLeft.2.1 19 = .ok (.iconst 1, 1) := by decide +kernel
theorem dM_isLeft_20 : decode YM_isLeft.2.1 20 = .ok (.goto 4, 3) := by decide +kernel
theorem dM_isLeft_23 : decode YM_isLeft.2.1 23 = .ok (.iconst 0, 1) := by decide +kernel
theorem dM_isLeft_24 : decode YM_isLeft.2.1 24 = .ok (.ireturn, 1) := by decide +kernel
theorem dM_does_0 : decode YM_does.2.1 0 = .ok (.iload_n 1, 1) := by decide +kernel
theorem dM_does_1 : decode YM_does.2.1 1 = .ok (.iconst 3, 1) := by decide +kernel
theorem dM_does_2 : decode YM_does.2.1 2 = .ok (.if_icmp .ne 82, 3) := by decide +kernel
theorem dM_does_5 : decode YM_does.2.1 5 = .ok (.iconst 0, 1) := by decide +kernel
theorem dM_does_6 : decode YM_does.2.1 6 = .ok (.istore 4, 2) := by decide +kernel
theorem dM_does_8 : decode YM_does.2.1 8 = .ok (.iload 4, 2) := by decide +kernel
theorem dM_does_10 : decode YM_does.2.1 10 = .ok (.bipush 6, 2) := by decide +kernel
theorem dM_does_12 : decode YM_does.2.1 12 = .ok (.if_icmp .ge 60, 3) := by decide +kernel
theorem dM_does_15 : decode YM_does.2.1 15 = .ok (.aload_n 0, 1) := by decide +kernel
theorem dM_does_16 : decode YM_does.2.1 16 = .ok (.getfield 44, 3) := by decide +kernel
theorem dM_does_19 : decode YM_does.2.1 19 = .ok (.iload 4, 2) := by decide +kernel
theorem dM_does_21 : decode YM_does.2.1 21 = .ok (.dup2, 1) := by decide +kernel
theorem dM_does_22 : decode YM_does.2.1 22 = .ok (.iaload, 1) := by decide +kernel
theorem dM_does_23 : decode YM_does.2.1 23 = .ok (.aload_n 0, 1) := by decide +kernel
theorem dM_does_24 : decode YM_does.2.1 24 = .ok (.getfield 44, 3) := by decide +kernel
theorem dM_does_27 : decode YM_does.2.1 27 = .ok (.iload 4, 2) := by decide +kernel
theorem dM_does_29 : decode YM_does.2.1 29 = .ok (.iaload, 1) := by decide +kernel
theorem dM_does_30 : decode YM_does.2.1 30 = .ok (.bipush 10, 2) := by decide +kernel
theorem dM_does_32 : decode YM_does.2.1 32 = .ok (.if_icmp .le 7, 3) := by decide +kernel
theorem dM_does_35 : decode YM_does.2.1 35 = .ok (.iconst (-1), 1) := by decide +kernel
theorem dM_does_36 : decode YM_does.2.1 36 = .ok (.goto 20, 3) := by decide +kernel
theorem dM_does_39 : decode YM_does.2.1 39 = .ok (.aload_n 0, 1) := by decide +kernel
theorem dM_does_40 : decode YM_does.2.1 40 = .ok (.getfield 44, 3) := by decide +kernel
theorem dM_does_43 : decode YM_does.2.1 43 = .ok (.iload 4, 2) := by decide +kernel
theorem dM_does_45 : decode YM_does.2.1 45 = .ok (.iaload, 1) := by decide +kernel
theorem dM_does_46 : decode YM_does.2.1 46 = .ok (.bipush 10, 2) := by decide +kernel
theorem dM_does_48 : decode YM_does.2.1 48 = .ok (.if_icmp .ge 7, 3) := by decide +kernel
theorem dM_does_51 : decode YM_does.2.1 51 = .ok (.iconst 1, 1) := by decide +kernel
theorem dM_does_52 : decode YM_does.2.1 52 = .ok (.goto 4, 3) := by decide +kernel
theorem dM_does_55 : decode YM_does.2.1 55 = .ok (.iconst 0, 1) := by decide +kernel
theorem dM_does_56 : decode YM_does.2.1 56 = .ok (.iadd, 1) := by decide +kernel
theorem dM_does_57 : decode YM_does.2.1 57 = .ok (.iastore, 1) := by decide +kernel
theorem dM_does_58 : decode YM_does.2.1 58 = .ok (.aload_n 0, 1) := by decide +kernel
theorem dM_does_59 : decode YM_does.2.1 59 = .ok (.getfield 47, 3) := by decide +kernel
theorem dM_does_62 : decode YM_does.2.1 62 = .ok (.iload 4, 2) := by decide +kernel
theorem dM_does_64 : decode YM_does.2.1 64 = .ok (.iconst (-1), 1) := by decide +kernel
theorem dM_does_65 : decode YM_does.2.1 65 = .ok (.iastore, 1) := by decide +kernel
theorem dM_does_66 : decode YM_does.2.1 66 = .ok (.iinc 4 1, 3) := by decide +kernel
theorem dM_does_69 : decode YM_does.2.1 69 = .ok (.goto (-61), 3) := by decide +kernel
theorem dM_does_72 : decode YM_does.2.1 72 = .ok (.aload_n 0, 1) := by decide +kernel
theorem dM_does_73 : decode YM_does.2.1 73 = .ok (.dup, 1) := by decide +kernel
theorem dM_does_74 : decode YM_does.2.1 74 = .ok (.getfield 298, 3) := by decide +kernel
theorem dM_does_77 : decode YM_does.2.1 77 = .ok (.iconst 1, 1) := by decide +kernel
theorem dM_does_78 : decode YM_does.2.1 78 = .ok (.iadd, 1) := by decide +kernel
theorem dM_does_79 : decode YM_does.2.1 79 = .ok (.putfield 298, 3) := by decide +kernel
theorem dM_does_82 : decode YM_does.2.1 82 = .ok (.iconst 1, 1) := by decide +kernel
theorem dM_does_83 : decode YM_does.2.1 83 = .ok (.ireturn, 1) := by decide +kernel
theorem dM_does_84 : decode YM_does.2.1 84 = .ok (.aload_n 0, 1) := by decide +kernel
theorem dM_does_85 : decode YM_does.2.1 85 = .ok (.iload_n 2, 1) := by decide +kernel
theorem dM_does_86 : decode YM_does.2.1 86 = .ok (.invokevirtual 319, 3) := by decide +kernel
theorem dM_does_89 : decode YM_does.2.1 89 = .ok (.ifCond .eq 26, 3) := by decide +kernel
theorem dM_does_92 : decode YM_does.2.1 92 = .ok (.iload_n 1, 1) := by decide +kernel
theorem dM_does_93 : decode YM_does.2.1 93 = .ok (.iconst 1, 1) := by decide +kernel
theorem dM_does_94 : decode YM_does.2.1 94 = .ok (.if_icmp .ne 23, 3) := by decide +kernel
theorem dM_does_97 : decode YM_does.2.1 97 = .ok (.aload_n 0, 1) := by decide +kernel
theorem dM_does_98 : decode YM_does.2.1 98 = .ok (.iload_n 3, 1) := by decide +kernel
theorem dM_does_99 : decode YM_does.2.1 99 = .ok (.invokevirtual 322, 3) := by decide +kernel
theorem dM_does_102 : decode YM_does.2.1 102 = .ok (.ifCond .eq 13, 3) := by decide +kernel
theorem dM_does_105 : decode YM_does.2.1 105 = .ok (.iload_n 3, 1) := by decide +kernel
theorem dM_does_106 : decode YM_does.2.1 106 = .ok (.aload_n 0, 1) := by decide +kernel
theorem dM_does_107 : decode YM_does.2.1 107 = .ok (.getfield 41, 3) := by decide +kernel
theorem dM_does_110 : decode YM_does.2.1 110 = .ok (.iload_n 2, 1) := by decide +kernel
theorem dM_does_111 : decode YM_does.2.1 111 = .ok (.iaload, 1) := by decide +kernel
theorem dM_does_112 : decode YM_does.2.1 112 = .ok (.if_icmp .ne 5, 3) := by decide +kernel
theorem dM_does_115 : decode YM_does.2.1 115 = .ok (.iconst 0, 1) := by decide +kernel
theorem dM_does_116 : decode YM_does.2.1 116 = .ok (.ireturn, 1) := by decide +kernel
theorem dM_does_117 : decode YM_does.2.1 117 = .ok (.iload_n 1, 1) := by decide +kernel
theorem dM_does_118 : decode YM_does.2.1 118 = .ok (.iconst 2, 1) := by decide +kernel
theorem dM_does_119 : decode YM_does.2.1 119 = .ok (.if_icmp .ne 20, 3) := by decide +kernel
theorem dM_does_122 : decode YM_does.2.1 122 = .ok (.aload_n 0, 1) := by decide +kernel
theorem dM_does_123 : decode YM_does.2.1 123 = .ok (.dup, 1) := by decide +kernel
theorem dM_does_124 : decode YM_does.2.1 124 = .ok (.getfield 301, 3) := by decide +kernel
theorem dM_does_127 : decode YM_does.2.1 127 = .ok (.iconst 1, 1) := by decide +kernel
theorem dM_does_128 : decode YM_does.2.1 128 = .ok (.iload_n 2, 1) := by decide +kernel
theorem dM_does_129 : decode YM_does.2.1 129 = .ok (.ishl, 1) := by decide +kernel
theorem dM_does_130 : decode YM_does.2.1 130 = .ok (.iconst (-1), 1) := by decide +kernel
theorem dM_does_131 : decode YM_does.2.1 131 = .ok (.ixor, 1) := by decide +kernel
theorem dM_does_132 : decode YM_does.2.1 132 = .ok (.iand, 1) := by decide +kernel
theorem dM_does_133 : decode YM_does.2.1 133 = .ok (.putfield 301, 3) := by decide +kernel
theorem dM_does_136 : decode YM_does.2.1 136 = .ok (.goto 42, 3) := by decide +kernel
theorem dM_does_139 : decode YM_does.2.1 139 = .ok (.aload_n 0, 1) := by decide +kernel
theorem dM_does_140 : decode YM_does.2.1 140 = .ok (.iload_n 2, 1) := by decide +kernel
theorem dM_does_141 : decode YM_does.2.1 141 = .ok (.iload_n 1, 1) := by decide +kernel
theorem dM_does_142 : decode YM_does.2.1 142 = .ok (.iconst 1, 1) := by decide +kernel
theorem dM_does_143 : decode YM_does.2.1 143 = .ok (.if_icmp .ne 7, 3) := by decide +kernel
theorem dM_does_146 : decode YM_does.2.1 146 = .ok (.iload_n 3, 1) := by decide +kernel
theorem dM_does_147 : decode YM_does.2.1 147 = .ok (.goto 9, 3) := by decide +kernel
theorem dM_does_150 : decode YM_does.2.1 150 = .ok (.aload_n 0, 1) := by decide +kernel
theorem dM_does_151 : decode YM_does.2.1 151 = .ok (.getfield 41, 3) := by decide +kernel
theorem dM_does_154 : decode YM_does.2.1 154 = .ok (.iload_n 2, 1) := by decide +kernel
theorem dM_does_155 : decode YM_does.2.1 155 = .ok (.iaload, 1) := by decide +kernel
theorem dM_does_156 : decode YM_does.2.1 156 = .ok (.invokevirtual 325, 3) := by decide +kernel
theorem dM_does_159 : decode YM_does.2.1 159 = .ok (.aload_n 0, 1) := by decide +kernel
theorem dM_does_160 : decode YM_does.2.1 160 = .ok (.dup, 1) := by decide +kernel
theorem dM_does_161 : decode YM_does.2.1 161 = .ok (.getfield 304, 3) := by decide +kernel
theorem dM_does_164 : decode YM_does.2.1 164 = .ok (.iload_n 1, 1) := by decide +kernel
theorem dM_does_165 : decode YM_does.2.1 165 = .ok (.iconst 1, 1) := by decide +kernel
theorem dM_does_166 : decode YM_does.2.1 166 = .ok (.if_icmp .ne 7, 3) := by decide +kernel
theorem dM_does_169 : decode YM_does.2.1 169 = .ok (.iconst 1, 1) := by decide +kernel
theorem dM_does_170 : decode YM_does.2.1 170 = .ok (.goto 4, 3) := by decide +kernel
theorem dM_does_173 : decode YM_does.2.1 173 = .ok (.iconst 0, 1) := by decide +kernel
theorem dM_does_174 : decode YM_does.2.1 174 = .ok (.iadd, 1) := by decide +kernel
theorem dM_does_175 : decode YM_does.2.1 175 = .ok (.putfield 304, 3) := by decide +kernel
theorem dM_does_178 : decode YM_does.2.1 178 = .ok (.iconst 1, 1) := by decide +kernel
theorem dM_does_179 : decode YM_does.2.1 179 = .ok (.ireturn, 1) := by decide +kernel
theorem dM_doesDeed_0 : decode YM_doesDeed.2.1 0 = .ok (.aload_n 0, 1) := by decide +kernel
theorem dM_doesDeed_1 : decode YM_doesDeed.2.1 1 = .ok (.aload_n 0, 1) := by decide +kernel
theorem dM_doesDeed_2 : decode YM_doesDeed.2.1 2 = .ok (.iload_n 1, 1) := by decide +kernel
theorem dM_doesDeed_3 : decode YM_doesDeed.2.1 3 = .ok (.iconst 0, 1) := by decide +kernel
theorem dM_doesDeed_4 : decode YM_doesDeed.2.1 4 = .ok (.invokevirtual 295, 3) := by decide +kernel
theorem dM_doesDeed_7 : decode YM_doesDeed.2.1 7 = .ok (.aload_n 0, 1) := by decide +kernel
theorem dM_doesDeed_8 : decode YM_doesDeed.2.1 8 = .ok (.iload_n 1, 1) := by decide +kernel
theorem dM_doesDeed_9 : decode YM_doesDeed.2.1 9 = .ok (.iconst 1, 1) := by decide +kernel
theorem dM_doesDeed_10 : decode YM_doesDeed.2.1 10 = .ok (.invokevirtual 295, 3) := by decide +kernel
theorem dM_doesDeed_13 : decode YM_doesDeed.2.1 13 = .ok (.aload_n 0, 1) := by decide +kernel
theorem dM_doesDeed_14 : decode YM_doesDeed.2.1 14 = .ok (.iload_n 1, 1) := by decide +kernel
theorem dM_doesDeed_15 : decode YM_doesDeed.2.1 15 = .ok (.iconst 2, 1) := by decide +kernel
theorem dM_doesDeed_16 : decode YM_doesDeed.2.1 16 = .ok (.invokevirtual 295, 3) := by decide +kernel
theorem dM_doesDeed_19 : decode YM_doesDeed.2.1 19 = .ok (.invokevirtual 328, 3) := by decide +kernel
theorem dM_doesDeed_22 : decode YM_doesDeed.2.1 22 = .ok (.ireturn, 1) := by decide +kernel
theorem dM_play_0 : decode YM_play.2.1 0 = .ok (.aload_n 0, 1) := by decide +kernel
theorem dM_play_1 : decode YM_play.2.1 1 = .ok (.invokevirtual 331, 3) := by decide +kernel
theorem dM_play_4 : decode YM_play.2.1 4 = .ok (.iconst 0, 1) := by decide +kernel
theorem dM_play_5 : decode YM_play.2.1 5 = .ok (.istore_n 2, 1) := by decide +kernel
theorem dM_play_6 : decode YM_play.2.1 6 = .ok (.iload_n 2, 1) := by decide +kernel
theorem dM_play_7 : decode YM_play.2.1 7 = .ok (.iload_n 1, 1) := by decide +kernel
theorem dM_play_8 : decode YM_play.2.1 8 = .ok (.if_icmp .ge 17, 3) := by decide +kernel
theorem dM_play_11 : decode YM_play.2.1 11 = .ok (.aload_n 0, 1) := by decide +kernel
theorem dM_play_12 : decode YM_play.2.1 12 = .ok (.iload_n 2, 1) := by decide +kernel
theorem dM_play_13 : decode YM_play.2.1 13 = .ok (.invokevirtual 334, 3) := by decide +kernel
theorem dM_play_16 : decode YM_play.2.1 16 = .ok (.ifCond .eq 9, 3) := by decide +kernel
theorem dM_play_19 : decode YM_play.2.1 19 = .ok (.iinc 2 1, 3) := by decide +kernel
theorem dM_play_22 : decode YM_play.2.1 22 = .ok (.goto (-16), 3) := by decide +kernel
theorem dM_play_25 : decode YM_play.2.1 25 = .ok (.iload_n 2, 1) := by decide +kernel
theorem dM_play_26 : decode YM_play.2.1 26 = .ok (.ireturn, 1) := by decide +kernel
theorem dM_layAll_0 : decode YM_layAll.2.1 0 = .ok (.aload_n 0, 1) := by decide +kernel
theorem dM_layAll_1 : decode YM_layAll.2.1 1 = .ok (.iload_n 2, 1) := by decide +kernel
theorem dM_layAll_2 : decode YM_layAll.2.1 2 = .ok (.invokevirtual 289, 3) := by decide +kernel
theorem dM_layAll_5 : decode YM_layAll.2.1 5 = .ok (.ifCond .eq 15, 3) := by decide +kernel
theorem dM_layAll_8 : decode YM_layAll.2.1 8 = .ok (.aload_n 0, 1) := by decide +kernel
theorem dM_layAll_9 : decode YM_layAll.2.1 9 = .ok (.iload_n 1, 1) := by decide +kernel
theorem dM_layAll_10 : decode YM_layAll.2.1 10 = .ok (.invokevirtual 277, 3) := by decide +kernel
theorem dM_layAll_13 : decode YM_layAll.2.1 13 = .ok (.ifCond .eq 7, 3) := by decide +kernel
theorem dM_layAll_16 : decode YM_layAll.2.1 16 = .ok (.iconst 1, 1) := by decide +kernel
theorem dM_layAll_17 : decode YM_layAll.2.1 17 = .ok (.goto 4, 3) := by decide +kernel
