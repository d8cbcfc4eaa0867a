theorem dM_layLog_22 : decode YM_layLog.2.1 22 = .ok (.invokevirtual 438, 3) := by decide +kernel
theorem dM_layLog_25 : decode YM_layLog.2.1 25 = .ok (.if_icmp .ge 24, 3) := by decide +kernel
theorem dM_layLog_28 : decode YM_layLog.2.1 28 = .ok (.aload_n 0, 1) := by decide +kernel
theorem dM_layLog_29 : decode YM_layLog.2.1 29 = .ok (.aload_n 0, 1) := by decide +kernel
theorem dM_layLog_30 : decode YM_layLog.2.1 30 = .ok (.iload_n 3, 1) := by decide +kernel
theorem dM_layLog_31 : decode YM_layLog.2.1 31 = .ok (.iconst 0, 1) := by decide +kernel
theorem dM_layLog_32 : decode YM_layLog.2.1 32 = .ok (.invokevirtual 441, 3) := by decide +kernel
theorem dM_layLog_35 : decode YM_layLog.2.1 35 = .ok (.invokevirtual 322, 3) := by decide +kernel
theorem dM_layLog_38 : decode YM_layLog.2.1 38 = .ok (.ifCond .ne 5, 3) := by decide +kernel
theorem dM_layLog_41 : decode YM_layLog.2.1 41 = .ok (.iconst 0, 1) := by decide +kernel
theorem dM_layLog_42 : decode YM_layLog.2.1 42 = .ok (.ireturn, 1) := by decide +kernel
theorem dM_layLog_43 : decode YM_layLog.2.1 43 = .ok (.iinc 3 1, 3) := by decide +kernel
theorem dM_layLog_46 : decode YM_layLog.2.1 46 = .ok (.goto (-26), 3) := by decide +kernel
theorem dM_layLog_49 : decode YM_layLog.2.1 49 = .ok (.aload_n 0, 1) := by decide +kernel
theorem dM_layLog_50 : decode YM_layLog.2.1 50 = .ok (.iconst 0, 1) := by decide +kernel
theorem dM_layLog_51 : decode YM_layLog.2.1 51 = .ok (.putfield 447, 3) := by decide +kernel
theorem dM_layLog_54 : decode YM_layLog.2.1 54 = .ok (.iconst 0, 1) := by decide +kernel
theorem dM_layLog_55 : decode YM_layLog.2.1 55 = .ok (.istore_n 3, 1) := by decide +kernel
theorem dM_layLog_56 : decode YM_layLog.2.1 56 = .ok (.iload_n 3, 1) := by decide +kernel
theorem dM_layLog_57 : decode YM_layLog.2.1 57 = .ok (.bipush 99, 2) := by decide +kernel
theorem dM_layLog_59 : decode YM_layLog.2.1 59 = .ok (.if_icmp .gt 93, 3) := by decide +kernel
theorem dM_layLog_62 : decode YM_layLog.2.1 62 = .ok (.iload_n 3, 1) := by decide +kernel
theorem dM_layLog_63 : decode YM_layLog.2.1 63 = .ok (.bipush 99, 2) := by decide +kernel
theorem dM_layLog_65 : decode YM_layLog.2.1 65 = .ok (.if_icmp .eq 41, 3) := by decide +kernel
theorem dM_layLog_68 : decode YM_layLog.2.1 68 = .ok (.iload_n 3, 1) := by decide +kernel
theorem dM_layLog_69 : decode YM_layLog.2.1 69 = .ok (.bipush 10, 2) := by decide +kernel
theorem dM_layLog_71 : decode YM_layLog.2.1 71 = .ok (.idiv, 1) := by decide +kernel
theorem dM_layLog_72 : decode YM_layLog.2.1 72 = .ok (.aload_n 0, 1) := by decide +kernel
theorem dM_layLog_73 : decode YM_layLog.2.1 73 = .ok (.getfield 259, 3) := by decide +kernel
theorem dM_layLog_76 : decode YM_layLog.2.1 76 = .ok (.if_icmp .ge 34, 3) := by decide +kernel
theorem dM_layLog_79 : decode YM_layLog.2.1 79 = .ok (.iload_n 3, 1) := by decide +kernel
theorem dM_layLog_80 : decode YM_layLog.2.1 80 = .ok (.bipush 10, 2) := by decide +kernel
theorem dM_layLog_82 : decode YM_layLog.2.1 82 = .ok (.irem, 1) := by decide +kernel
theorem dM_layLog_83 : decode YM_layLog.2.1 83 = .ok (.aload_n 0, 1) := by decide +kernel
theorem dM_layLog_84 : decode YM_layLog.2.1 84 = .ok (.getfield 262, 3) := by decide +kernel
theorem dM_layLog_87 : decode YM_layLog.2.1 87 = .ok (.if_icmp .ge 23, 3) := by decide +kernel
theorem dM_layLog_90 : decode YM_layLog.2.1 90 = .ok (.aload_n 0, 1) := by decide +kernel
theorem dM_layLog_91 : decode YM_layLog.2.1 91 = .ok (.getfield 41, 3) := by decide +kernel
theorem dM_layLog_94 : decode YM_layLog.2.1 94 = .ok (.iload_n 3, 1) := by decide +kernel
theorem dM_layLog_95 : decode YM_layLog.2.1 95 = .ok (.bipush 10, 2) := by decide +kernel
theorem dM_layLog_97 : decode YM_layLog.2.1 97 = .ok (.irem, 1) := by decide +kernel
theorem dM_layLog_98 : decode YM_layLog.2.1 98 = .ok (.iaload, 1) := by decide +kernel
theorem dM_layLog_99 : decode YM_layLog.2.1 99 = .ok (.iload_n 3, 1) := by decide +kernel
theorem dM_layLog_100 : decode YM_layLog.2.1 100 = .ok (.bipush 10, 2) := by decide +kernel
theorem dM_layLog_102 : decode YM_layLog.2.1 102 = .ok (.idiv, 1) := by decide +kernel
theorem dM_layLog_103 : decode YM_layLog.2.1 103 = .ok (.if_icmp .eq 7, 3) := by decide +kernel
theorem dM_layLog_106 : decode YM_layLog.2.1 106 = .ok (.iconst 1, 1) := by decide +kernel
theorem dM_layLog_107 : decode YM_layLog.2.1 107 = .ok (.goto 4, 3) := by decide +kernel
theorem dM_layLog_110 : decode YM_layLog.2.1 110 = .ok (.iconst 0, 1) := by decide +kernel
theorem dM_layLog_111 : decode YM_layLog.2.1 111 = .ok (.istore 4, 2) := by decide +kernel
theorem dM_layLog_113 : decode YM_layLog.2.1 113 = .ok (.iload 4, 2) := by decide +kernel
theorem dM_layLog_115 : decode YM_layLog.2.1 115 = .ok (.ifCond .eq 31, 3) := by decide +kernel
theorem dM_layLog_118 : decode YM_layLog.2.1 118 = .ok (.aload_n 0, 1) := by decide +kernel
theorem dM_layLog_119 : decode YM_layLog.2.1 119 = .ok (.iload_n 3, 1) := by decide +kernel
theorem dM_layLog_120 : decode YM_layLog.2.1 120 = .ok (.invokevirtual 450, 3) := by decide +kernel
theorem dM_layLog_123 : decode YM_layLog.2.1 123 = .ok (.ifCond .eq 23, 3) := by decide +kernel
theorem dM_layLog_126 : decode YM_layLog.2.1 126 = .ok (.aload_n 0, 1) := by decide +kernel
theorem dM_layLog_127 : decode YM_layLog.2.1 127 = .ok (.getfield 75, 3) := by decide +kernel
theorem dM_layLog_130 : decode YM_layLog.2.1 130 = .ok (.aload_n 0, 1) := by decide +kernel
theorem dM_layLog_131 : decode YM_layLog.2.1 131 = .ok (.getfield 447, 3) := by decide +kernel
theorem dM_layLog_134 : decode YM_layLog.2.1 134 = .ok (.iload_n 3, 1) := by decide +kernel
theorem dM_layLog_135 : decode YM_layLog.2.1 135 = .ok (.iastore, 1) := by decide +kernel
theorem dM_layLog_136 : decode YM_layLog.2.1 136 = .ok (.aload_n 0, 1) := by decide +kernel
theorem dM_layLog_137 : decode YM_layLog.2.1 137 = .ok (.dup, 1) := by decide +kernel
theorem dM_layLog_138 : decode YM_layLog.2.1 138 = .ok (.getfield 447, 3) := by decide +kernel
theorem dM_layLog_141 : decode YM_layLog.2.1 141 = .ok (.iconst 1, 1) := by decide +kernel
theorem dM_layLog_142 : decode YM_layLog.2.1 142 = .ok (.iadd, 1) := by decide +kernel
theorem dM_layLog_143 : decode YM_layLog.2.1 143 = .ok (.putfield 447, 3) := by decide +kernel
theorem dM_layLog_146 : decode YM_layLog.2.1 146 = .ok (.iinc 3 1, 3) := by decide +kernel
theorem dM_layLog_149 : decode YM_layLog.2.1 149 = .ok (.goto (-93), 3) := by decide +kernel
theorem dM_layLog_152 : decode YM_layLog.2.1 152 = .ok (.iconst 1, 1) := by decide +kernel
theorem dM_layLog_153 : decode YM_layLog.2.1 153 = .ok (.ireturn, 1) := by decide +kernel
theorem dM_sureOf_0 : decode YM_sureOf.2.1 0 = .ok (.aload_n 0, 1) := by decide +kernel
theorem dM_sureOf_1 : decode YM_sureOf.2.1 1 = .ok (.getfield 447, 3) := by decide +kernel
theorem dM_sureOf_4 : decode YM_sureOf.2.1 4 = .ok (.ifCond .eq 19, 3) := by decide +kernel
theorem dM_sureOf_7 : decode YM_sureOf.2.1 7 = .ok (.aload_n 0, 1) := by decide +kernel
theorem dM_sureOf_8 : decode YM_sureOf.2.1 8 = .ok (.getfield 75, 3) := by decide +kernel
theorem dM_sureOf_11 : decode YM_sureOf.2.1 11 = .ok (.aload_n 0, 1) := by decide +kernel
theorem dM_sureOf_12 : decode YM_sureOf.2.1 12 = .ok (.getfield 447, 3) := by decide +kernel
theorem dM_sureOf_15 : decode YM_sureOf.2.1 15 = .ok (.iconst 1, 1) := by decide +kernel
theorem dM_sureOf_16 : decode YM_sureOf.2.1 16 = .ok (.isub, 1) := by decide +kernel
theorem dM_sureOf_17 : decode YM_sureOf.2.1 17 = .ok (.iaload, 1) := by decide +kernel
theorem dM_sureOf_18 : decode YM_sureOf.2.1 18 = .ok (.bipush 99, 2) := by decide +kernel
theorem dM_sureOf_20 : decode YM_sureOf.2.1 20 = .ok (.if_icmp .ne 7, 3) := by decide +kernel
theorem dM_sureOf_23 : decode YM_sureOf.2.1 23 = .ok (.iconst (-1), 1) := by decide +kernel
theorem dM_sureOf_24 : decode YM_sureOf.2.1 24 = .ok (.goto 28, 3) := by decide +kernel
theorem dM_sureOf_27 : decode YM_sureOf.2.1 27 = .ok (.iload_n 1, 1) := by decide +kernel
theorem dM_sureOf_28 : decode YM_sureOf.2.1 28 = .ok (.ifCond .eq 15, 3) := by decide +kernel
theorem dM_sureOf_31 : decode YM_sureOf.2.1 31 = .ok (.aload_n 0, 1) := by decide +kernel
theorem dM_sureOf_32 : decode YM_sureOf.2.1 32 = .ok (.getfield 75, 3) := by decide +kernel
theorem dM_sureOf_35 : decode YM_sureOf.2.1 35 = .ok (.iconst 0, 1) := by decide +kernel
theorem dM_sureOf_36 : decode YM_sureOf.2.1 36 = .ok (.iaload, 1) := by decide +kernel
theorem dM_sureOf_37 : decode YM_sureOf.2.1 37 = .ok (.bipush 10, 2) := by decide +kernel
theorem dM_sureOf_39 : decode YM_sureOf.2.1 39 = .ok (.irem, 1) := by decide +kernel
theorem dM_sureOf_40 : decode YM_sureOf.2.1 40 = .ok (.goto 12, 3) := by decide +kernel
theorem dM_sureOf_43 : decode YM_sureOf.2.1 43 = .ok (.aload_n 0, 1) := by decide +kernel
theorem dM_sureOf_44 : decode YM_sureOf.2.1 44 = .ok (.getfield 75, 3) := by decide +kernel
theorem dM_sureOf_47 : decode YM_sureOf.2.1 47 = .ok (.iconst 0, 1) := by decide +kernel
theorem dM_sureOf_48 : decode YM_sureOf.2.1 48 = .ok (.iaload, 1) := by decide +kernel
theorem dM_sureOf_49 : decode YM_sureOf.2.1 49 = .ok (.bipush 10, 2) := by decide +kernel
theorem dM_sureOf_51 : decode YM_sureOf.2.1 51 = .ok (.idiv, 1) := by decide +kernel
theorem dM_sureOf_52 : decode YM_sureOf.2.1 52 = .ok (.istore_n 2, 1) := by decide +kernel
theorem dM_sureOf_53 : decode YM_sureOf.2.1 53 = .ok (.iconst 1, 1) := by decide +kernel
theorem dM_sureOf_54 : decode YM_sureOf.2.1 54 = .ok (.istore_n 3, 1) := by decide +kernel
theorem dM_sureOf_55 : decode YM_sureOf.2.1 55 = .ok (.iload_n 3, 1) := by decide +kernel
theorem dM_sureOf_56 : decode YM_sureOf.2.1 56 = .ok (.aload_n 0, 1) := by decide +kernel
theorem dM_sureOf_57 : decode YM_sureOf.2.1 57 = .ok (.getfield 447, 3) := by decide +kernel
theorem dM_sureOf_60 : decode YM_sureOf.2.1 60 = .ok (.if_icmp .ge 44, 3) := by decide +kernel
theorem dM_sureOf_63 : decode YM_sureOf.2.1 63 = .ok (.iload_n 1, 1) := by decide +kernel
theorem dM_sureOf_64 : decode YM_sureOf.2.1 64 = .ok (.ifCond .eq 15, 3) := by decide +kernel
theorem dM_sureOf_67 : decode YM_sureOf.2.1 67 = .ok (.aload_n 0, 1) := by decide +kernel
theorem dM_sureOf_68 : decode YM_sureOf.2.1 68 = .ok (.getfield 75, 3) := by decide +kernel
theorem dM_sureOf_71 : decode YM_sureOf.2.1 71 = .ok (.iload_n 3, 1) := by decide +kernel
theorem dM_sureOf_72 : decode YM_sureOf.2.1 72 = .ok (.iaload, 1) := by decide +kernel
theorem dM_sureOf_73 : decode YM_sureOf.2.1 73 = .ok (.bipush 10, 2) := by decide +kernel
theorem dM_sureOf_75 : decode YM_sureOf.2.1 75 = .ok (.irem, 1) := by decide +kernel
theorem dM_sureOf_76 : decode YM_sureOf.2.1 76 = .ok (.goto 12, 3) := by decide +kernel
theorem dM_sureOf_79 : decode YM_sureOf.2.1 79 = .ok (.aload_n 0, 1) := by decide +kernel
theorem dM_sureOf_80 : decode YM_sureOf.2.1 80 = .ok (.getfield 75, 3) := by decide +kernel
theorem dM_sureOf_83 : decode YM_sureOf.2.1 83 = .ok (.iload_n 3, 1) := by decide +kernel
theorem dM_sureOf_84 : decode YM_sureOf.2.1 84 = .ok (.iaload, 1) := by decide +kernel
theorem dM_sureOf_85 : decode YM_sureOf.2.1 85 = .ok (.bipush 10, 2) := by decide +kernel
theorem dM_sureOf_87 : decode YM_sureOf.2.1 87 = .ok (.idiv, 1) := by decide +kernel
theorem dM_sureOf_88 : decode YM_sureOf.2.1 88 = .ok (.iload_n 2, 1) := by decide +kernel
theorem dM_sureOf_89 : decode YM_sureOf.2.1 89 = .ok (.if_icmp .ne 7, 3) := by decide +kernel
theorem dM_sureOf_92 : decode YM_sureOf.2.1 92 = .ok (.iload_n 2, 1) := by decide +kernel
theorem dM_sureOf_93 : decode YM_sureOf.2.1 93 = .ok (.goto 4, 3) := by decide +kernel
theorem dM_sureOf_96 : decode YM_sureOf.2.1 96 = .ok (.iconst (-1), 1) := by decide +kernel
theorem dM_sureOf_97 : decode YM_sureOf.2.1 97 = .ok (.istore_n 2, 1) := by decide +kernel
theorem dM_sureOf_98 : decode YM_sureOf.2.1 98 = .ok (.iinc 3 1, 3) := by decide +kernel
theorem dM_sureOf_101 : decode YM_sureOf.2.1 101 = .ok (.goto (-46), 3) := by decide +kernel
theorem dM_sureOf_104 : decode YM_sureOf.2.1 104 = .ok (.iload_n 2, 1) := by decide +kernel
theorem dM_sureOf_105 : decode YM_sureOf.2.1 105 = .ok (.ireturn, 1) := by decide +kernel
theorem dM_largest_0 : decode YM_largest.2.1 0 = .ok (.iconst 0, 1) := by decide +kernel
theorem dM_largest_1 : decode YM_largest.2.1 1 = .ok (.istore_n 2, 1) := by decide +kernel
theorem dM_largest_2 : decode YM_largest.2.1 2 = .ok (.iconst 0, 1) := by decide +kernel
theorem dM_largest_3 : decode YM_largest.2.1 3 = .ok (.istore_n 3, 1) := by decide +kernel
theorem dM_largest_4 : decode YM_largest.2.1 4 = .ok (.iload_n 3, 1) := by decide +kernel
theorem dM_largest_5 : decode YM_largest.2.1 5 = .ok (.aload_n 0, 1) := by decide +kernel
theorem dM_largest_6 : decode YM_largest.2.1 6 = .ok (.getfield 447, 3) := by decide +kernel
theorem dM_largest_9 : decode YM_largest.2.1 9 = .ok (.if_icmp .ge 73, 3) := by decide +kernel
theorem dM_largest_12 : decode YM_largest.2.1 12 = .ok (.iconst 0, 1) := by decide +kernel
theorem dM_largest_13 : decode YM_largest.2.1 13 = .ok (.istore 4, 2) := by decide +kernel
theorem dM_largest_15 : decode YM_largest.2.1 15 = .ok (.iconst 0, 1) := by decide +kernel
theorem dM_largest_16 : decode YM_largest.2.1 16 = .ok (.istore 5, 2) := by decide +kernel
theorem dM_largest_18 : decode YM_largest.2.1 18 = .ok (.iload 5, 2) := by decide +kernel
theorem dM_largest_20 : decode YM_largest.2.1 20 = .ok (.aload_n 0, 1) := by decide +kernel
theorem dM_largest_21 : decode YM_largest.2.1 21 = .ok (.getfield 447, 3) := by decide +kernel
theorem dM_largest_24 : decode YM_largest.2.1 24 = .ok (.if_icmp .ge 45, 3) := by decide +kernel
theorem dM_largest_27 : decode YM_largest.2.1 27 = .ok (.iload 4, 2) := by decide +kernel
theorem dM_largest_29 : decode YM_largest.2.1 29 = .ok (.aload_n 0, 1) := by decide +kernel
theorem dM_largest_30 : decode YM_largest.2.1 30 = .ok (.getfield 78, 3) := by decide +kernel
theorem dM_largest_33 : decode YM_largest.2.1 33 = .ok (.bipush 6, 2) := by decide +kernel
theorem dM_largest_35 : decode YM_largest.2.1 35 = .ok (.iload 5, 2) := by decide +kernel
theorem dM_largest_37 : decode YM_largest.2.1 37 = .ok (.imul, 1) := by decide +kernel
theorem dM_largest_38 : decode YM_largest.2.1 38 = .ok (.iload_n 1, 1) := by decide +kernel
theorem dM_largest_39 : decode YM_largest.2.1 39 = .ok (.iadd, 1) := by decide +kernel
theorem dM_largest_40 : decode YM_largest.2.1 40 = .ok (.iaload, 1) := by decide +kernel
theorem dM_largest_41 : decode YM_largest.2.1 41 = .ok (.aload_n 0, 1) := by decide +kernel
theorem dM_largest_42 : decode YM_largest.2.1 42 = .ok (.getfield 78, 3) := by decide +kernel
theorem dM_largest_45 : decode YM_largest.2.1 45 = .ok (.bipush 6, 2) := by decide +kernel
theorem dM_largest_47 : decode YM_largest.2.1 47 = .ok (.iload_n 3, 1) := by decide +kernel
theorem dM_largest_48 : decode YM_largest.2.1 48 = .ok (.imul, 1) := by decide +kernel
theorem dM_largest_49 : decode YM_largest.2.1 49 = .ok (.iload_n 1, 1) := by decide +kernel
theorem dM_largest_50 : decode YM_largest.2.1 50 = .ok (.iadd, 1) := by decide +kernel
theorem dM_largest_51 : decode YM_largest.2.1 51 = .ok (.iaload, 1) := by decide +kernel
theorem dM_largest_52 : decode YM_largest.2.1 52 = .ok (.if_icmp .ne 7, 3) := by decide +kernel
theorem dM_largest_55 : decode YM_largest.2.1 55 = .ok (.iconst 1, 1) := by decide +kernel
theorem dM_largest_56 : decode YM_largest.2.1 56 = .ok (.goto 4, 3) := by decide +kernel
theorem dM_largest_59 : decode YM_largest.2.1 59 = .ok (.iconst 0, 1) := by decide +kernel
theorem dM_largest_60 : decode YM_largest.2.1 60 = .ok (.iadd, 1) := by decide +kernel
theorem dM_largest_61 : decode YM_largest.2.1 61 = .ok (.istore 4, 2) := by decide +kernel
theorem dM_largest_63 : decode YM_largest.2.1 63 = .ok (.iinc 5 1, 3) := by decide +kernel
theorem dM_largest_66 : decode YM_largest.2.1 66 = .ok (.goto (-48), 3) := by decide +kernel
theorem dM_largest_69 : decode YM_largest.2.1 69 = .ok (.iload_n 2, 1) := by decide +kernel
theorem dM_largest_70 : decode YM_largest.2.1 70 = .ok (.iload 4, 2) := by decide +kernel
theorem dM_largest_72 : decode YM_largest.2.1 72 = .ok (.invokestatic 167, 3) := by decide +kernel
theorem dM_largest_75 : decode YM_largest.2.1 75 = .ok (.istore_n 2, 1) := by decide +kernel
theorem dM_largest_76 : decode YM_largest.2.1 76 = .ok (.iinc 3 1, 3) := by decide +kernel
theorem dM_largest_79 : decode YM_largest.2.1 79 = .ok (.goto (-75), 3) := by decide +kernel
theorem dM_largest_82 : decode YM_largest.2.1 82 = .ok (.iload_n 2, 1) := by decide +kernel
theorem dM_largest_83 : decode YM_largest.2.1 83 = .ok (.ireturn, 1) := by decide +kernel
theorem dM_ask_0 : decode YM_ask.2.1 0 = .ok (.iconst 0, 1) := by decide +kernel
theorem dM_ask_1 : decode YM_ask.2.1 1 = .ok (.istore_n 1, 1) := by decide +kernel
theorem dM_ask_2 : decode YM_ask.2.1 2 = .ok (.iload_n 1, 1) := by decide +kernel
theorem dM_ask_3 : decode YM_ask.2.1 3 = .ok (.aload_n 0, 1) := by decide +kernel
theorem dM_ask_4 : decode YM_ask.2.1 4 = .ok (.getfield 447, 3) := by decide +kernel
theorem dM_ask_7 : decode YM_ask.2.1 7 = .ok (.if_icmp .ge 50, 3) := by decide +kernel
theorem dM_ask_10 : decode YM_ask.2.1 10 = .ok (.aload_n 0, 1) := by decide +kernel
theorem dM_ask_11 : decode YM_ask.2.1 11 = .ok (.aload_n 0, 1) := by decide +kernel
theorem dM_ask_12 : decode YM_ask.2.1 12 = .ok (.getfield 75, 3) := by decide +kernel
theorem dM_ask_15 : decode YM_ask.2.1 15 = .ok (.iload_n 1, 1) := by decide +kernel
theorem dM_ask_16 : decode YM_ask.2.1 16 = .ok (.iaload, 1) := by decide +kernel
theorem dM_ask_17 : decode YM_ask.2.1 17 = .ok (.invokevirtual 444, 3) := by decide +kernel
theorem dM_ask_20 : decode YM_ask.2.1 20 = .ok (.iconst 0, 1) := by decide +kernel
theorem dM_ask_21 : decode YM_ask.2.1 21 = .ok (.istore_n 2, 1) := by decide +kernel
theorem dM_ask_22 : decode YM_ask.2.1 22 = .ok (.iload_n 2, 1) := by decide +kernel
theorem dM_ask_23 : decode YM_ask.2.1 23 = .ok (.bipush 6, 2) := by decide +kernel
theorem dM_ask_25 : decode YM_ask.2.1 25 = .ok (.if_icmp .ge 26, 3) := by decide +kernel
theorem dM_ask_28 : decode YM_ask.2.1 28 = .ok (.aload_n 0, 1) := by decide +kernel
theorem dM_ask_29 : decode YM_ask.2.1 29 = .ok (.getfield 78, 3) := by decide +kernel
theorem dM_ask_32 : decode YM_ask.2.1 32 = .ok (.bipush 6, 2) := by decide +kernel
theorem dM_ask_34 : decode YM_ask.2.1 34 = .ok (.iload_n 1, 1) := by decide +kernel
theorem dM_ask_35 : decode YM_ask.2.1 35 = .ok (.imul, 1) := by decide +kernel
theorem dM_ask_36 : decode YM_ask.2.1 36 = .ok (.iload_n 2, 1) := by decide +kernel
theorem dM_ask_37 : decode YM_ask.2.1 37 = .ok (.iadd, 1) := by decide +kernel
theorem dM_ask_38 : decode YM_ask.2.1 38 = .ok (.aload_n 0, 1) := by decide +kernel
theorem dM_ask_39 : decode YM_ask.2.1 39 = .ok (.getfield 44, 3) := by decide +kernel
theorem dM_ask_42 : decode YM_ask.2.1 42 = .ok (.iload_n 2, 1) := by decide +kernel
theorem dM_ask_43 : decode YM_ask.2.1 43 = .ok (.iaload, 1) := by decide +kernel
theorem dM_ask_44 : decode YM_ask.2.1 44 = .ok (.iastore, 1) := by decide +kernel
theorem dM_ask_45 : decode YM_ask.2.1 45 = .ok (.iinc 2 1, 3) := by decide +kernel
theorem dM_ask_48 : decode YM_ask.2.1 48 = .ok (.goto (-26), 3) := by decide +kernel
theorem dM_ask_51 : decode YM_ask.2.1 51 = .ok (.iinc 1 1, 3) := by decide +kernel
theorem dM_ask_54 : decode YM_ask.2.1 54 = .ok (.goto (-52), 3) := by decide +kernel
theorem dM_ask_57 : decode YM_ask.2.1 57 = .ok (.iconst (-1), 1) := by decide +kernel
theorem dM_ask_58 : decode YM_ask.2.1 58 = .ok (.istore_n 1, 1) := by decide +kernel
theorem dM_ask_59 : decode YM_ask.2.1 59 = .ok (.ldc_w 349, 3) := by decide +kernel
theorem dM_ask_62 : decode YM_ask.2.1 62 = .ok (.istore_n 2, 1) := by decide +kernel
theorem dM_ask_63 : decode YM_ask.2.1 63 = .ok (.iconst 0, 1) := by decide +kernel
theorem dM_ask_64 : decode YM_ask.2.1 64 = .ok (.istore_n 3, 1) := by decide +kernel
theorem dM_ask_65 : decode YM_ask.2.1 65 = .ok (.iload_n 3, 1) := by decide +kernel
theorem dM_ask_66 : decode YM_ask.2.1 66 = .ok (.aload_n 0, 1) := by decide +kernel
theorem dM_ask_67 : decode YM_ask.2.1 67 = .ok (.getfield 259, 3) := by decide +kernel
theorem dM_ask_70 : decode YM_ask.2.1 70 = .ok (.if_icmp .ge 42, 3) := by decide +kernel
theorem dM_ask_73 : decode YM_ask.2.1 73 = .ok (.aload_n 0, 1) := by decide +kernel
theorem dM_ask_74 : decode YM_ask.2.1 74 = .ok (.getfield 447, 3) := by decide +kernel
theorem dM_ask_77 : decode YM_ask.2.1 77 = .ok (.ifCond .le 35, 3) := by decide +kernel
theorem dM_ask_80 : decode YM_ask.2.1 80 = .ok (.aload_n 0, 1) := by decide +kernel
theorem dM_ask_81 : decode YM_ask.2.1 81 = .ok (.iload_n 3, 1) := by decide +kernel
theorem dM_ask_82 : decode YM_ask.2.1 82 = .ok (.invokevirtual 453, 3) := by decide +kernel
theorem dM_ask_85 : decode YM_ask.2.1 85 = .ok (.istore 4, 2) := by decide +kernel
theorem dM_ask_87 : decode YM_ask.2.1 87 = .ok (.iload 4, 2) := by decide +kernel
theorem dM_ask_89 : decode YM_ask.2.1 89 = .ok (.iload_n 2, 1) := by decide +kernel
theorem dM_ask_90 : decode YM_ask.2.1 90 = .ok (.if_icmp .ge 7, 3) := by decide +kernel
theorem dM_ask_93 : decode YM_ask.2.1 93 = .ok (.iload_n 3, 1) := by decide +kernel
theorem dM_ask_94 : decode YM_ask.2.1 94 = .ok (.goto 4, 3) := by decide +kernel
theorem dM_ask_97 : decode YM_ask.2.1 97 = .ok (.iload_n 1, 1) := by decide +kernel
theorem dM_ask_98 : decode YM_ask.2.1 98 = .ok (.istore_n 1, 1) := by decide +kernel
theorem dM_ask_99 : decode YM_ask.2.1 99 = .ok (.iload_n 2, 1) := by decide +kernel
theorem dM_ask_100 : decode YM_ask.2.1 100 = .ok (.iload 4, 2) := by decide +kernel
theorem dM_ask_102 : decode YM_ask.2.1 102 = .ok (.invokestatic 355, 3) := by decide +kernel
theorem dM_ask_105 : decode YM_ask.2.1 105 = .ok (.istore_n 2, 1) := by decide +kernel
theorem dM_ask_106 : decode YM_ask.2.1 106 = .ok (.iinc 3 1, 3) := by decide +kernel
theorem dM_ask_109 : decode YM_ask.2.1 109 = .ok (.goto (-44), 3) := by decide +kernel
theorem dM_ask_112 : decode YM_ask.2.1 112 = .ok (.iload_n 1, 1) := by decide +kernel
theorem dM_ask_113 : decode YM_ask.2.1 113 = .ok (.ireturn, 1) := by decide +kernel
theorem dM_fits_0 : decode YM_fits.2.1 0 = .ok (.aload_n 0, 1) := by decide +kernel
theorem dM_fits_1 : decode YM_fits.2.1 1 = .ok (.iconst 0, 1) := by decide +kernel
theorem dM_fits_2 : decode YM_fits.2.1 2 = .ok (.putfield 90, 3) := by decide +kernel
theorem dM_fits_5 : decode YM_fits.2.1 5 = .ok (.aload_n 0, 1) := by decide +kernel
theorem dM_fits_6 : decode YM_fits.2.1 6 = .ok (.iload_n 1, 1) := by decide +kernel
theorem dM_fits_7 : decode YM_fits.2.1 7 = .ok (.iload_n 2, 1) := by decide +kernel
theorem dM_fits_8 : decode YM_fits.2.1 8 = .ok (.invokevirtual 456, 3) := by decide +kernel
theorem dM_fits_11 : decode YM_fits.2.1 11 = .ok (.ifCond .ne 6, 3) := by decide +kernel
theorem dM_fits_14 : decode YM_fits.2.1 14 = .ok (.bipush (-2), 2) := by decide +kernel
theorem dM_fits_16 : decode YM_fits.2.1 16 = .ok (.ireturn, 1) := by decide +kernel
theorem dM_fits_17 : decode YM_fits.2.1 17 = .ok (.iload_n 3, 1) := by decide +kernel
theorem dM_fits_18 : decode YM_fits.2.1 18 = .ok (.bipush 10, 2) := by decide +kernel
theorem dM_fits_20 : decode YM_fits.2.1 20 = .ok (.if_icmp .lt 29, 3) := by decide +kernel
theorem dM_fits_23 : decode YM_fits.2.1 23 = .ok (.iload_n 3, 1) := by decide +kernel
theorem dM_fits_24 : decode YM_fits.2.1 24 = .ok (.bipush 10, 2) := by decide +kernel
theorem dM_fits_26 : decode YM_fits.2.1 26 = .ok (.isub, 1) := by decide +kernel
theorem dM_fits_27 : decode YM_fits.2.1 27 = .ok (.aload_n 0, 1) := by decide +kernel
theorem dM_fits_28 : decode YM_fits.2.1 28 = .ok (.getfield 447, 3) := by decide +kernel
theorem dM_fits_31 : decode YM_fits.2.1 31 = .ok (.if_icmp .ge 15, 3) := by decide +kernel
theorem dM_fits_34 : decode YM_fits.2.1 34 = .ok (.aload_n 0, 1) := by decide +kernel
theorem dM_fits_35 : decode YM_fits.2.1 35 = .ok (.getfield 75, 3) := by decide +kernel
theorem dM_fits_38 : decode YM_fits.2.1 38 = .ok (.iload_n 3, 1) := by decide +kernel
theorem dM_fits_39 : decode YM_fits.2.1 39 = .ok (.bipush 10, 2) := by decide +kernel
theorem dM_fits_41 : decode YM_fits.2.1 41 = .ok (.isub, 1) := by decide +kernel
theorem dM_fits_42 : decode YM_fits.2.1 42 = .ok (.iaload, 1) := by decide +kernel
theorem dM_fits_43 : decode YM_fits.2.1 43 = .ok (.goto 5, 3) := by decide +kernel
theorem dM_fits_46 : decode YM_fits.2.1 46 = .ok (.bipush (-2), 2) := by decide +kernel
theorem dM_fits_48 : decode YM_fits.2.1 48 = .ok (.ireturn, 1) := by decide +kernel
theorem dM_fits_49 : decode YM_fits.2.1 49 = .ok (.iload_n 3, 1) := by decide +kernel
theorem dM_fits_50 : decode YM_fits.2.1 50 = .ok (.tableswitch 55 0 3 #[30, 35, 35, 50], 30) := by decide +kernel
theorem dM_fits_80 : decode YM_fits.2.1 80 = .ok (.aload_n 0, 1) := by decide +kernel
theorem dM_fits_81 : decode YM_fits.2.1 81 = .ok (.getfield 447, 3) := by decide +kernel
theorem dM_fits_84 : decode YM_fits.2.1 84 = .ok (.ireturn, 1) := by decide +kernel
theorem dM_fits_85 : decode YM_fits.2.1 85 = .ok (.aload_n 0, 1) := by decide +kernel
theorem dM_fits_86 : decode YM_fits.2.1 86 = .ok (.iload_n 3, 1) := by decide +kernel
theorem dM_fits_87 : decode YM_fits.2.1 87 = .ok (.iconst 1, 1) := by decide +kernel
theorem dM_fits_88 : decode YM_fits.2.1 88 = .ok (.if_icmp .ne 7, 3) := by decide +kernel
theorem dM_fits_91 : decode YM_fits.2.1 91 = .ok (.iconst 1, 1) := by decide +kernel
theorem dM_fits_92 : decode YM_fits.2.1 92 = .ok (.goto 4, 3) := by decide +kernel
theorem dM_fits_95 : decode YM_fits.2.1 95 = .ok (.iconst 0, 1) := by decide +kernel
theorem dM_fits_96 : decode YM_fits.2.1 96 = .ok (.invokevirtual 459, 3) := by decide +kernel
theorem dM_fits_99 : decode YM_fits.2.1 99 = .ok (.ireturn, 1) := by decide +kernel
theorem dM_fits_100 : decode YM_fits.2.1 100 = .ok (.aload_n 0, 1) := by decide +kernel
theorem dM_fits_101 : decode YM_fits.2.1 101 = .ok (.invokevirtual 463, 3) := by decide +kernel
theorem dM_fits_104 : decode YM_fits.2.1 104 = .ok (.ireturn, 1) := by decide +kernel
theorem dM_fits_105 : decode YM_fits.2.1 105 = .ok (.bipush (-2), 2) := by decide +kernel
theorem dM_fits_107 : decode YM_fits.2.1 107 = .ok (.ireturn, 1) := by decide +kernel
theorem dM_draw_0 : decode YM_draw.2.1 0 = .ok (.aload_n 0, 1) := by decide +kernel
theorem dM_draw_1 : decode YM_draw.2.1 1 = .ok (.aload_n 0, 1) := by decide +kernel
theorem dM_draw_2 : decode YM_draw.2.1 2 = .ok (.getfield 466, 3) := by decide +kernel
theorem dM_draw_5 : decode YM_draw.2.1 5 = .ok (.ldc_w 469, 3) := by decide +kernel
theorem dM_draw_8 : decode YM_draw.2.1 8 = .ok (.imul, 1) := by decide +kernel
theorem dM_draw_9 : decode YM_draw.2.1 9 = .ok (.sipush 12345, 3) := by decide +kernel
theorem dM_draw_12 : decode YM_draw.2.1 12 = .ok (.iadd, 1) := by decide +kernel
theorem dM_draw_13 : decode YM_draw.2.1 13 = .ok (.putfield 466, 3) := by decide +kernel
theorem dM_draw_16 : decode YM_draw.2.1 16 = .ok (.aload_n 0, 1) := by decide +kernel
theorem dM_draw_17 : decode YM_draw.2.1 17 = .ok (.getfield 466, 3) := by decide +kernel
theorem dM_draw_20 : decode YM_draw.2.1 20 = .ok (.bipush 16, 2) := by decide +kernel
theorem dM_draw_22 : decode YM_draw.2.1 22 = .ok (.iushr, 1) := by decide +kernel
theorem dM_draw_23 : decode YM_draw.2.1 23 = .ok (.iload_n 1, 1) := by decide +kernel
theorem dM_draw_24 : decode YM_draw.2.1 24 = .ok (.irem, 1) := by decide +kernel
theorem dM_draw_25 : decode YM_draw.2.1 25 = .ok (.ireturn, 1) := by decide +kernel
theorem dM_drawDeed_0 : decode YM_drawDeed.2.1 0 = .ok (.aload_n 0, 1) := by decide +kernel
theorem dM_drawDeed_1 : decode YM_drawDeed.2.1 1 = .ok (.bipush 8, 2) := by decide +kernel
theorem dM_drawDeed_3 : decode YM_drawDeed.2.1 3 = .ok (.invokevirtual 470, 3) := by decide +kernel
theorem dM_drawDeed_6 : decode YM_drawDeed.2.1 6 = .ok (.istore_n 1, 1) := by decide +kernel
theorem dM_drawDeed_7 : decode YM_drawDeed.2.1 7 = .ok (.iload_n 1, 1) := by decide +kernel
theorem dM_drawDeed_8 : decode YM_drawDeed.2.1 8 = .ok (.bipush 7, 2) := by decide +kernel
theorem dM_drawDeed_10 : decode YM_drawDeed.2.1 10 = .ok (.if_icmp .ne 14, 3) := by decide +kernel
theorem dM_drawDeed_13 : decode YM_drawDeed.2.1 13 = .ok (.aload_n 0, 1) := by decide +kernel
theorem dM_drawDeed_14 : decode YM_drawDeed.2.1 14 = .ok (.iconst 3, 1) := by decide +kernel
theorem dM_drawDeed_15 : decode YM_drawDeed.2.1 15 = .ok (.iconst (-1), 1) := by decide +kernel
theorem dM_drawDeed_16 : decode YM_drawDeed.2.1 16 = .ok (.iconst (-1), 1) := by decide +kernel
theorem dM_drawDeed_17 : decode YM_drawDeed.2.1 17 = .ok (.invokevirtual 328, 3) := by decide +kernel
theorem dM_drawDeed_20 : decode YM_drawDeed.2.1 20 = .ok (.pop, 1) := by decide +kernel
theorem dM_drawDeed_21 : decode YM_drawDeed.2.1 21 = .ok (.goto 65, 3) := by decide +kernel
theorem dM_drawDeed_24 : decode YM_drawDeed.2.1 24 = .ok (.aload_n 0, 1) := by decide +kernel
theorem dM_drawDeed_25 : decode YM_drawDeed.2.1 25 = .ok (.getfield 262, 3) := by decide +kernel
theorem dM_drawDeed_28 : decode YM_drawDeed.2.1 28 = .ok (.ifCond .le 58, 3) := by decide +kernel
theorem dM_drawDeed_31 : decode YM_drawDeed.2.1 31 = .ok (.aload_n 0, 1) := by decide +kernel
theorem dM_drawDeed_32 : decode YM_drawDeed.2.1 32 = .ok (.aload_n 0, 1) := by decide +kernel
theorem dM_drawDeed_33 : decode YM_drawDeed.2.1 33 = .ok (.getfield 262, 3) := by decide +kernel
theorem dM_drawDeed_36 : decode YM_drawDeed.2.1 36 = .ok (.invokevirtual 470, 3) := by decide +kernel
theorem dM_drawDeed_39 : decode YM_drawDeed.2.1 39 = .ok (.istore_n 2, 1) := by decide +kernel
theorem dM_drawDeed_40 : decode YM_drawDeed.2.1 40 = .ok (.iload_n 1, 1) := by decide +kernel
theorem dM_drawDeed_41 : decode YM_drawDeed.2.1 41 = .ok (.iconst 4, 1) := by decide +kernel
theorem dM_drawDeed_42 : decode YM_drawDeed.2.1 42 = .ok (.if_icmp .eq 8, 3) := by decide +kernel
theorem dM_drawDeed_45 : decode YM_drawDeed.2.1 45 = .ok (.iload_n 1, 1) := by decide +kernel
theorem dM_drawDeed_46 : decode YM_drawDeed.2.1 46 = .ok (.iconst 5, 1) := by decide +kernel
theorem dM_drawDeed_47 : decode YM_drawDeed.2.1 47 = .ok (.if_icmp .ne 21, 3) := by decide +kernel
theorem dM_drawDeed_50 : decode YM_drawDeed.2.1 50 = .ok (.aload_n 0, 1) := by decide +kernel
theorem dM_drawDeed_51 : decode YM_drawDeed.2.1 51 = .ok (.iconst 1, 1) := by decide +kernel
theorem dM_drawDeed_52 : decode YM_drawDeed.2.1 52 = .ok (.iload_n 2, 1) := by decide +kernel
theorem dM_drawDeed_53 : decode YM_drawDeed.2.1 53 = .ok (.aload_n 0, 1) := by decide +kernel
theorem dM_drawDeed_54 : decode YM_drawDeed.2.1 54 = .ok (.aload_n 0, 1) := by decide +kernel
theorem dM_drawDeed_55 : decode YM_drawDeed.2.1 55 = .ok (.getfield 259, 3) := by decide +kernel
theorem dM_drawDeed_58 : decode YM_drawDeed.2.1 58 = .ok (.invokevirtual 470, 3) := by decide +kernel
theorem dM_drawDeed_61 : decode YM_drawDeed.2.1 61 = .ok (.invokevirtual 328, 3) := by decide +kernel
theorem dM_drawDeed_64 : decode YM_drawDeed.2.1 64 = .ok (.pop, 1) := by decide +kernel
theorem dM_drawDeed_65 : decode YM_drawDeed.2.1 65 = .ok (.goto 21, 3) := by decide +kernel
theorem dM_drawDeed_68 : decode YM_drawDeed.2.1 68 = .ok (.aload_n 0, 1) := by decide +kernel
theorem dM_drawDeed_69 : decode YM_drawDeed.2.1 69 = .ok (.iload_n 1, 1) := by decide +kernel
theorem dM_drawDeed_70 : decode YM_drawDeed.2.1 70 = .ok (.bipush 6, 2) := by decide +kernel
theorem dM_drawDeed_72 : decode YM_drawDeed.2.1 72 = .ok (.if_icmp .ne 7, 3) := by decide +kernel
theorem dM_drawDeed_75 : decode YM_drawDeed.2.1 75 = .ok (.iconst 2, 1) := by decide +kernel
theorem dM_drawDeed_76 : decode YM_drawDeed.2.1 76 = .ok (.goto 4, 3) := by decide +kernel
theorem dM_drawDeed_79 : decode YM_drawDeed.2.1 79 = .ok (.iconst 0, 1) := by decide +kernel
theorem dM_drawDeed_80 : decode YM_drawDeed.2.1 80 = .ok (.iload_n 2, 1) := by decide +kernel
theorem dM_drawDeed_81 : decode YM_drawDeed.2.1 81 = .ok (.iconst (-1), 1) := by decide +kernel
theorem dM_drawDeed_82 : decode YM_drawDeed.2.1 82 = .ok (.invokevirtual 328, 3) := by decide +kernel
theorem dM_drawDeed_85 : decode YM_drawDeed.2.1 85 = .ok (.pop, 1) := by decide +kernel
theorem dM_drawDeed_86 : decode YM_drawDeed.2.1 86 = .ok (.return_, 1) := by decide +kernel
theorem dM_drawn_0 : decode YM_drawn.2.1 0 = .ok (.aload_n 0, 1) := by decide +kernel
theorem dM_drawn_1 : decode YM_drawn.2.1 1 = .ok (.iconst 0, 1) := by decide +kernel
theorem dM_drawn_2 : decode YM_drawn.2.1 2 = .ok (.putfield 90, 3) := by decide +kernel
theorem dM_drawn_5 : decode YM_drawn.2.1 5 = .ok (.iload_n 3, 1) := by decide +kernel
theorem dM_drawn_6 : decode YM_drawn.2.1 6 = .ok (.iconst 0, 1) := by decide +kernel
theorem dM_drawn_7 : decode YM_drawn.2.1 7 = .ok (.bipush 60, 2) := by decide +kernel
theorem dM_drawn_9 : decode YM_drawn.2.1 9 = .ok (.invokestatic 102, 3) := by decide +kernel
theorem dM_drawn_12 : decode YM_drawn.2.1 12 = .ok (.ifCond .eq 11, 3) := by decide +kernel
theorem dM_drawn_15 : decode YM_drawn.2.1 15 = .ok (.aload_n 0, 1) := by decide +kernel
theorem dM_drawn_16 : decode YM_drawn.2.1 16 = .ok (.iload_n 1, 1) := by decide +kernel
theorem dM_drawn_17 : decode YM_drawn.2.1 17 = .ok (.invokevirtual 277, 3) := by decide +kernel
theorem dM_drawn_20 : decode YM_drawn.2.1 20 = .ok (.ifCond .ne 7, 3) := by decide +kernel
theorem dM_drawn_23 : decode YM_drawn.2.1 23 = .ok (.sipush (-1000), 3) := by decide +kernel
theorem dM_drawn_26 : decode YM_drawn.2.1 26 = .ok (.ireturn, 1) := by decide +kernel
theorem dM_drawn_27 : decode YM_drawn.2.1 27 = .ok (.aload_n 0, 1) := by decide +kernel
theorem dM_drawn_28 : decode YM_drawn.2.1 28 = .ok (.iload_n 2, 1) := by decide +kernel
theorem dM_drawn_29 : decode YM_drawn.2.1 29 = .ok (.putfield 466, 3) := by decide +kernel
theorem dM_drawn_32 : decode YM_drawn.2.1 32 = .ok (.aload_n 0, 1) := by decide +kernel
theorem dM_drawn_33 : decode YM_drawn.2.1 33 = .ok (.invokevirtual 331, 3) := by decide +kernel
theorem dM_drawn_36 : decode YM_drawn.2.1 36 = .ok (.iconst 0, 1) := by decide +kernel
theorem dM_drawn_37 : decode YM_drawn.2.1 37 = .ok (.istore 5, 2) := by decide +kernel
theorem dM_drawn_39 : decode YM_drawn.2.1 39 = .ok (.iload 5, 2) := by decide +kernel
theorem dM_drawn_41 : decode YM_drawn.2.1 41 = .ok (.iload_n 3, 1) := by decide +kernel
theorem dM_drawn_42 : decode YM_drawn.2.1 42 = .ok (.if_icmp .ge 13, 3) := by decide +kernel
theorem dM_drawn_45 : decode YM_drawn.2.1 45 = .ok (.aload_n 0, 1) := by decide +kernel
theorem dM_drawn_46 : decode YM_drawn.2.1 46 = .ok (.invokevirtual 473, 3) := by decide +kernel
theorem dM_drawn_49 : decode YM_drawn.2.1 49 = .ok (.iinc 5 1, 3) := by decide +kernel
theorem dM_drawn_52 : decode YM_drawn.2.1 52 = .ok (.goto (-13), 3) := by decide +kernel
theorem dM_drawn_55 : decode YM_drawn.2.1 55 = .ok (.aload_n 0, 1) := by decide +kernel
theorem dM_drawn_56 : decode YM_drawn.2.1 56 = .ok (.iload 4, 2) := by decide +kernel
theorem dM_drawn_58 : decode YM_drawn.2.1 58 = .ok (.invokevirtual 346, 3) := by decide +kernel
theorem dM_drawn_61 : decode YM_drawn.2.1 61 = .ok (.ireturn, 1) := by decide +kernel
theorem dM_dear_0 : decode YM_dear.2.1 0 = .ok (.aload_n 0, 1) := by decide +kernel
theorem dM_dear_1 : decode YM_dear.2.1 1 = .ok (.iconst 0, 1) := by decide +kernel
theorem dM_dear_2 : decode YM_dear.2.1 2 = .ok (.putfield 90, 3) := by decide +kernel
theorem dM_dear_5 : decode YM_dear.2.1 5 = .ok (.aload_n 0, 1) := by decide +kernel
theorem dM_dear_6 : decode YM_dear.2.1 6 = .ok (.iload_n 1, 1) := by decide +kernel
theorem dM_dear_7 : decode YM_dear.2.1 7 = .ok (.invokevirtual 277, 3) := by decide +kernel
theorem dM_dear_10 : decode YM_dear.2.1 10 = .ok (.ifCond .eq 11, 3) := by decide +kernel
theorem dM_dear_13 : decode YM_dear.2.1 13 = .ok (.aload_n 0, 1) := by decide +kernel
theorem dM_dear_14 : decode YM_dear.2.1 14 = .ok (.iload_n 2, 1) := by decide +kernel
theorem dM_dear_15 : decode YM_dear.2.1 15 = .ok (.invokevirtual 280, 3) := by decide +kernel
theorem dM_dear_18 : decode YM_dear.2.1 18 = .ok (.ifCond .ne 7, 3) := by decide +kernel
theorem dM_dear_21 : decode YM_dear.2.1 21 = .ok (.sipush (-1000), 3) := by decide +kernel
theorem dM_dear_24 : decode YM_dear.2.1 24 = .ok (.ireturn, 1) := by decide +kernel
theorem dM_dear_25 : decode YM_dear.2.1 25 = .ok (.aload_n 0, 1) := by decide +kernel
theorem dM_dear_26 : decode YM_dear.2.1 26 = .ok (.getfield 41, 3) := by decide +kernel
theorem dM_dear_29 : decode YM_dear.2.1 29 = .ok (.iload_n 2, 1) := by decide +kernel
theorem dM_dear_30 : decode YM_dear.2.1 30 = .ok (.iaload, 1) := by decide +kernel
theorem dM_dear_31 : decode YM_dear.2.1 31 = .ok (.istore_n 3, 1) := by decide +kernel
theorem dM_dear_32 : decode YM_dear.2.1 32 = .ok (.aload_n 0, 1) := by decide +kernel
theorem dM_dear_33 : decode YM_dear.2.1 33 = .ok (.iload_n 3, 1) := by decide +kernel
theorem dM_dear_34 : decode YM_dear.2.1 34 = .ok (.invokevirtual 476, 3) := by decide +kernel
theorem dM_dear_37 : decode YM_dear.2.1 37 = .ok (.aload_n 0, 1) := by decide +kernel
theorem dM_dear_38 : decode YM_dear.2.1 38 = .ok (.iload_n 3, 1) := by decide +kernel
theorem dM_dear_39 : decode YM_dear.2.1 39 = .ok (.aload_n 0, 1) := by decide +kernel
theorem dM_dear_40 : decode YM_dear.2.1 40 = .ok (.iload_n 3, 1) := by decide +kernel
theorem dM_dear_41 : decode YM_dear.2.1 41 = .ok (.invokevirtual 362, 3) := by decide +kernel
theorem dM_dear_44 : decode YM_dear.2.1 44 = .ok (.iconst 1, 1) := by decide +kernel
theorem dM_dear_45 : decode YM_dear.2.1 45 = .ok (.iload_n 2, 1) := by decide +kernel
theorem dM_dear_46 : decode YM_dear.2.1 46 = .ok (.ishl, 1) := by decide +kernel
theorem dM_dear_47 : decode YM_dear.2.1 47 = .ok (.iconst (-1), 1) := by decide +kernel
theorem dM_dear_48 : decode YM_dear.2.1 48 = .ok (.ixor, 1) := by decide +kernel
theorem dM_dear_49 : decode YM_dear.2.1 49 = .ok (.iand, 1) := by decide +kernel
theorem dM_dear_50 : decode YM_dear.2.1 50 = .ok (.iconst 0, 1) := by decide +kernel
theorem dM_dear_51 : decode YM_dear.2.1 51 = .ok (.invokevirtual 365, 3) := by decide +kernel
theorem dM_dear_54 : decode YM_dear.2.1 54 = .ok (.isub, 1) := by decide +kernel
theorem dM_dear_55 : decode YM_dear.2.1 55 = .ok (.ireturn, 1) := by decide +kernel
theorem dM_spoilt_0 : decode YM_spoilt.2.1 0 = .ok (.aload_n 0, 1) := by decide +kernel
theorem dM_spoilt_1 : decode YM_spoilt.2.1 1 = .ok (.iconst 0, 1) := by decide +kernel
theorem dM_spoilt_2 : decode YM_spoilt.2.1 2 = .ok (.putfield 90, 3) := by decide +kernel
theorem dM_spoilt_5 : decode YM_spoilt.2.1 5 = .ok (.aload_n 0, 1) := by decide +kernel
theorem dM_spoilt_6 : decode YM_spoilt.2.1 6 = .ok (.iload_n 1, 1) := by decide +kernel
theorem dM_spoilt_7 : decode YM_spoilt.2.1 7 = .ok (.invokevirtual 277, 3) := by decide +kernel
theorem dM_spoilt_10 : decode YM_spoilt.2.1 10 = .ok (.ifCond .eq 11, 3) := by decide +kernel
theorem dM_spoilt_13 : decode YM_spoilt.2.1 13 = .ok (.aload_n 0, 1) := by decide +kernel
theorem dM_spoilt_14 : decode YM_spoilt.2.1 14 = .ok (.iload_n 2, 1) := by decide +kernel
theorem dM_spoilt_15 : decode YM_spoilt.2.1 15 = .ok (.invokevirtual 322, 3) := by decide +kernel
theorem dM_spoilt_18 : decode YM_spoilt.2.1 18 = .ok (.ifCond .ne 7, 3) := by decide +kernel
theorem dM_spoilt_21 : decode YM_spoilt.2.1 21 = .ok (.sipush (-1000), 3) := by decide +kernel
theorem dM_spoilt_24 : decode YM_spoilt.2.1 24 = .ok (.ireturn, 1) := by decide +kernel
theorem dM_spoilt_25 : decode YM_spoilt.2.1 25 = .ok (.aload_n 0, 1) := by decide +kernel
theorem dM_spoilt_26 : decode YM_spoilt.2.1 26 = .ok (.iload_n 2, 1) := by decide +kernel
theorem dM_spoilt_27 : decode YM_spoilt.2.1 27 = .ok (.aload_n 0, 1) := by decide +kernel
theorem dM_spoilt_28 : decode YM_spoilt.2.1 28 = .ok (.iload_n 2, 1) := by decide +kernel
theorem dM_spoilt_29 : decode YM_spoilt.2.1 29 = .ok (.invokevirtual 362, 3) := by decide +kernel
theorem dM_spoilt_32 : decode YM_spoilt.2.1 32 = .ok (.invokevirtual 390, 3) := by decide +kernel
theorem dM_spoilt_35 : decode YM_spoilt.2.1 35 = .ok (.istore 4, 2) := by decide +kernel
theorem dM_spoilt_37 : decode YM_spoilt.2.1 37 = .ok (.iload_n 3, 1) := by decide +kernel
theorem dM_spoilt_38 : decode YM_spoilt.2.1 38 = .ok (.ifCond .eq 10, 3) := by decide +kernel
theorem dM_spoilt_41 : decode YM_spoilt.2.1 41 = .ok (.aload_n 0, 1) := by decide +kernel
theorem dM_spoilt_42 : decode YM_spoilt.2.1 42 = .ok (.getfield 385, 3) := by decide +kernel
theorem dM_spoilt_45 : decode YM_spoilt.2.1 45 = .ok (.goto 11, 3) := by decide +kernel
theorem dM_spoilt_48 : decode YM_spoilt.2.1 48 = .ok (.aload_n 0, 1) := by decide +kernel
theorem dM_spoilt_49 : decode YM_spoilt.2.1 49 = .ok (.iload_n 2, 1) := by decide +kernel
theorem dM_spoilt_50 : decode YM_spoilt.2.1 50 = .ok (.invokevirtual 476, 3) := by decide +kernel
theorem dM_spoilt_53 : decode YM_spoilt.2.1 53 = .ok (.iload 4, 2) := by decide +kernel
theorem dM_spoilt_55 : decode YM_spoilt.2.1 55 = .ok (.isub, 1) := by decide +kernel
theorem dM_spoilt_56 : decode YM_spoilt.2.1 56 = .ok (.ireturn, 1) := by decide +kernel
theorem dM_calm_0 : decode YM_calm.2.1 0 = .ok (.aload_n 0, 1) := by decide +kernel
theorem dM_calm_1 : decode YM_calm.2.1 1 = .ok (.iconst 0, 1) := by decide +kernel
theorem dM_calm_2 : decode YM_calm.2.1 2 = .ok (.putfield 90, 3) := by decide +kernel
theorem dM_calm_5 : decode YM_calm.2.1 5 = .ok (.iload_n 3, 1) := by decide +kernel
theorem dM_calm_6 : decode YM_calm.2.1 6 = .ok (.iconst 0, 1) := by decide +kernel
theorem dM_calm_7 : decode YM_calm.2.1 7 = .ok (.bipush 99, 2) := by decide +kernel
theorem dM_calm_9 : decode YM_calm.2.1 9 = .ok (.invokestatic 102, 3) := by decide +kernel
theorem dM_calm_12 : decode YM_calm.2.1 12 = .ok (.ifCond .eq 19, 3) := by decide +kernel
theorem dM_calm_15 : decode YM_calm.2.1 15 = .ok (.aload_n 0, 1) := by decide +kernel
theorem dM_calm_16 : decode YM_calm.2.1 16 = .ok (.iload_n 1, 1) := by decide +kernel
theorem dM_calm_17 : decode YM_calm.2.1 17 = .ok (.invokevirtual 277, 3) := by decide +kernel
theorem dM_calm_20 : decode YM_calm.2.1 20 = .ok (.ifCond .eq 11, 3) := by decide +kernel
theorem dM_calm_23 : decode YM_calm.2.1 23 = .ok (.aload_n 0, 1) := by decide +kernel
theorem dM_calm_24 : decode YM_calm.2.1 24 = .ok (.iload_n 2, 1) := by decide +kernel
theorem dM_calm_25 : decode YM_calm.2.1 25 = .ok (.invokevirtual 322, 3) := by decide +kernel
theorem dM_calm_28 : decode YM_calm.2.1 28 = .ok (.ifCond .ne 5, 3) := by decide +kernel
theorem dM_calm_31 : decode YM_calm.2.1 31 = .ok (.iconst (-1), 1) := by decide +kernel
theorem dM_calm_32 : decode YM_calm.2.1 32 = .ok (.ireturn, 1) := by decide +kernel
theorem dM_calm_33 : decode YM_calm.2.1 33 = .ok (.aload_n 0, 1) := by decide +kernel
theorem dM_calm_34 : decode YM_calm.2.1 34 = .ok (.iload_n 2, 1) := by decide +kernel
theorem dM_calm_35 : decode YM_calm.2.1 35 = .ok (.invokevirtual 362, 3) := by decide +kernel
theorem dM_calm_38 : decode YM_calm.2.1 38 = .ok (.istore 5, 2) := by decide +kernel
theorem dM_calm_40 : decode YM_calm.2.1 40 = .ok (.iconst (-1), 1) := by decide +kernel
theorem dM_calm_41 : decode YM_calm.2.1 41 = .ok (.istore 6, 2) := by decide +kernel
theorem dM_calm_43 : decode YM_calm.2.1 43 = .ok (.iconst 0, 1) := by decide +kernel
theorem dM_calm_44 : decode YM_calm.2.1 44 = .ok (.istore 7, 2) := by decide +kernel
theorem dM_calm_46 : decode YM_calm.2.1 46 = .ok (.iload 7, 2) := by decide +kernel
theorem dM_calm_48 : decode YM_calm.2.1 48 = .ok (.sipush 1024, 3) := by decide +kernel
theorem dM_calm_51 : decode YM_calm.2.1 51 = .ok (.if_icmp .ge 68, 3) := by decide +kernel
theorem dM_calm_54 : decode YM_calm.2.1 54 = .ok (.iload 7, 2) := by decide +kernel
theorem dM_calm_56 : decode YM_calm.2.1 56 = .ok (.iload 5, 2) := by decide +kernel
theorem dM_calm_58 : decode YM_calm.2.1 58 = .ok (.iconst (-1), 1) := by decide +kernel
theorem dM_calm_59 : decode YM_calm.2.1 59 = .ok (.ixor, 1) := by decide +kernel
theorem dM_calm_60 : decode YM_calm.2.1 60 = .ok (.iand, 1) := by decide +kernel
theorem dM_calm_61 : decode YM_calm.2.1 61 = .ok (.ifCond .ne 52, 3) := by decide +kernel
theorem dM_calm_64 : decode YM_calm.2.1 64 = .ok (.iload 6, 2) := by decide +kernel
theorem dM_calm_66 : decode YM_calm.2.1 66 = .ok (.iconst (-1), 1) := by decide +kernel
theorem dM_calm_67 : decode YM_calm.2.1 67 = .ok (.if_icmp .eq 16, 3) := by decide +kernel
theorem dM_calm_70 : decode YM_calm.2.1 70 = .ok (.iload 7, 2) := by decide +kernel
theorem dM_calm_72 : decode YM_calm.2.1 72 = .ok (.invokestatic 369, 3) := by decide +kernel
theorem dM_calm_75 : decode YM_calm.2.1 75 = .ok (.iload 6, 2) := by decide +kernel
theorem dM_calm_77 : decode YM_calm.2.1 77 = .ok (.invokestatic 369, 3) := by decide +kernel
theorem dM_calm_80 : decode YM_calm.2.1 80 = .ok (.if_icmp .ge 33, 3) := by decide +kernel
theorem dM_calm_83 : decode YM_calm.2.1 83 = .ok (.aload_n 0, 1) := by decide +kernel
theorem dM_calm_84 : decode YM_calm.2.1 84 = .ok (.iload_n 2, 1) := by decide +kernel
theorem dM_calm_85 : decode YM_calm.2.1 85 = .ok (.iload 5, 2) := by decide +kernel
theorem dM_calm_87 : decode YM_calm.2.1 87 = .ok (.iload 7, 2) := by decide +kernel
theorem dM_calm_89 : decode YM_calm.2.1 89 = .ok (.iconst (-1), 1) := by decide +kernel
theorem dM_calm_90 : decode YM_calm.2.1 90 = .ok (.ixor, 1) := by decide +kernel
theorem dM_calm_91 : decode YM_calm.2.1 91 = .ok (.iand, 1) := by decide +kernel
theorem dM_calm_92 : decode YM_calm.2.1 92 = .ok (.invokevirtual 390, 3) := by decide +kernel
theorem dM_calm_95 : decode YM_calm.2.1 95 = .ok (.pop, 1) := by decide +kernel
theorem dM_calm_96 : decode YM_calm.2.1 96 = .ok (.aload_n 0, 1) := by decide +kernel
theorem dM_calm_97 : decode YM_calm.2.1 97 = .ok (.getfield 385, 3) := by decide +kernel
theorem dM_calm_100 : decode YM_calm.2.1 100 = .ok (.iload_n 3, 1) := by decide +kernel
theorem dM_calm_101 : decode YM_calm.2.1 101 = .ok (.if_icmp .lt 8, 3) := by decide +kernel
theorem dM_calm_104 : decode YM_calm.2.1 104 = .ok (.iload 7, 2) := by decide +kernel
theorem dM_calm_106 : decode YM_calm.2.1 106 = .ok (.goto 5, 3) := by decide +kernel
theorem dM_calm_109 : decode YM_calm.2.1 109 = .ok (.iload 6, 2) := by decide +kernel
theorem dM_calm_111 : decode YM_calm.2.1 111 = .ok (.istore 6, 2) := by decide +kernel
theorem dM_calm_113 : decode YM_calm.2.1 113 = .ok (.iinc 7 1, 3) := by decide +kernel
theorem dM_calm_116 : decode YM_calm.2.1 116 = .ok (.goto (-70), 3) := by decide +kernel
theorem dM_calm_119 : decode YM_calm.2.1 119 = .ok (.iload 4, 2) := by decide +kernel
theorem dM_calm_121 : decode YM_calm.2.1 121 = .ok (.ifCond .ne 9, 3) := by decide +kernel
theorem dM_calm_124 : decode YM_calm.2.1 124 = .ok (.iload 6, 2) := by decide +kernel
theorem dM_calm_126 : decode YM_calm.2.1 126 = .ok (.iconst (-1), 1) := by decide +kernel
theorem dM_calm_127 : decode YM_calm.2.1 127 = .ok (.if_icmp .ne 8, 3) := by decide +kernel
theorem dM_calm_130 : decode YM_calm.2.1 130 = .ok (.iload 6, 2) := by decide +kernel
theorem dM_calm_132 : decode YM_calm.2.1 132 = .ok (.goto 8, 3) := by decide +kernel
theorem dM_calm_135 : decode YM_calm.2.1 135 = .ok (.iload 6, 2) := by decide +kernel
theorem dM_calm_137 : decode YM_calm.2.1 137 = .ok (.invokestatic 369, 3) := by decide +kernel
theorem dM_calm_140 : decode YM_calm.2.1 140 = .ok (.ireturn, 1) := by decide +kernel
theorem dM_hoped_0 : decode YM_hoped.2.1 0 = .ok (.aload_n 0, 1) := by decide +kernel
theorem dM_hoped_1 : decode YM_hoped.2.1 1 = .ok (.iconst 0, 1) := by decide +kernel
theorem dM_hoped_2 : decode YM_hoped.2.1 2 = .ok (.putfield 90, 3) := by decide +kernel
theorem dM_hoped_5 : decode YM_hoped.2.1 5 = .ok (.aload_n 0, 1) := by decide +kernel
theorem dM_hoped_6 : decode YM_hoped.2.1 6 = .ok (.iload_n 1, 1) := by decide +kernel
theorem dM_hoped_7 : decode YM_hoped.2.1 7 = .ok (.invokevirtual 277, 3) := by decide +kernel
theorem dM_hoped_10 : decode YM_hoped.2.1 10 = .ok (.ifCond .eq 15, 3) := by decide +kernel
theorem dM_hoped_13 : decode YM_hoped.2.1 13 = .ok (.iload_n 2, 1) := by decide +kernel
theorem dM_hoped_14 : decode YM_hoped.2.1 14 = .ok (.iconst 0, 1) := by decide +kernel
theorem dM_hoped_15 : decode YM_hoped.2.1 15 = .ok (.aload_n 0, 1) := by decide +kernel
theorem dM_hoped_16 : decode YM_hoped.2.1 16 = .ok (.getfield 262, 3) := by decide +kernel
theorem dM_hoped_19 : decode YM_hoped.2.1 19 = .ok (.invokestatic 102, 3) := by decide +kernel
theorem dM_hoped_22 : decode YM_hoped.2.1 22 = .ok (.ifCond .ne 7, 3) := by decide +kernel
theorem dM_hoped_25 : decode YM_hoped.2.1 25 = .ok (.ldc2_w 379, 3) := by decide +kernel
theorem dM_hoped_28 : decode YM_hoped.2.1 28 = .ok (.lreturn, 1) := by decide +kernel
theorem dM_hoped_29 : decode YM_hoped.2.1 29 = .ok (.lconst 0, 1) := by decide +kernel
theorem dM_hoped_30 : decode YM_hoped.2.1 30 = .ok (.lstore 4, 2) := by decide +kernel
theorem dM_hoped_32 : decode YM_hoped.2.1 32 = .ok (.lconst 0, 1) := by decide +kernel
theorem dM_hoped_33 : decode YM_hoped.2.1 33 = .ok (.lstore 6, 2) := by decide +kernel
theorem dM_hoped_35 : decode YM_hoped.2.1 35 = .ok (.iconst 0, 1) := by decide +kernel
theorem dM_hoped_36 : decode YM_hoped.2.1 36 = .ok (.istore 8, 2) := by decide +kernel
theorem dM_hoped_38 : decode YM_hoped.2.1 38 = .ok (.iload 8, 2) := by decide +kernel
theorem dM_hoped_40 : decode YM_hoped.2.1 40 = .ok (.iconst 1, 1) := by decide +kernel
theorem dM_hoped_41 : decode YM_hoped.2.1 41 = .ok (.aload_n 0, 1) := by decide +kernel
theorem dM_hoped_42 : decode YM_hoped.2.1 42 = .ok (.getfield 262, 3) := by decide +kernel
theorem dM_hoped_45 : decode YM_hoped.2.1 45 = .ok (.ishl, 1) := by decide +kernel
theorem dM_hoped_46 : decode YM_hoped.2.1 46 = .ok (.if_icmp .ge 63, 3) := by decide +kernel
theorem dM_hoped_49 : decode YM_hoped.2.1 49 = .ok (.iload 8, 2) := by decide +kernel
theorem dM_hoped_51 : decode YM_hoped.2.1 51 = .ok (.invokestatic 369, 3) := by decide +kernel
theorem dM_hoped_54 : decode YM_hoped.2.1 54 = .ok (.iload_n 2, 1) := by decide +kernel
theorem dM_hoped_55 : decode YM_hoped.2.1 55 = .ok (.if_icmp .ne 48, 3) := by decide +kernel
theorem dM_hoped_58 : decode YM_hoped.2.1 58 = .ok (.lload 6, 2) := by decide +kernel
theorem dM_hoped_60 : decode YM_hoped.2.1 60 = .ok (.lconst 1, 1) := by decide +kernel
theorem dM_hoped_61 : decode YM_hoped.2.1 61 = .ok (.ladd, 1) := by decide +kernel
theorem dM_hoped_62 : decode YM_hoped.2.1 62 = .ok (.lstore 6, 2) := by decide +kernel
theorem dM_hoped_64 : decode YM_hoped.2.1 64 = .ok (.iconst 0, 1) := by decide +kernel
theorem dM_hoped_65 : decode YM_hoped.2.1 65 = .ok (.istore 9, 2) := by decide +kernel
theorem dM_hoped_67 : decode YM_hoped.2.1 67 = .ok (.iload 9, 2) := by decide +kernel
theorem dM_hoped_69 : decode YM_hoped.2.1 69 = .ok (.aload_n 0, 1) := by decide +kernel
theorem dM_hoped_70 : decode YM_hoped.2.1 70 = .ok (.getfield 259, 3) := by decide +kernel
theorem dM_hoped_73 : decode YM_hoped.2.1 73 = .ok (.if_icmp .ge 30, 3) := by decide +kernel
theorem dM_hoped_76 : decode YM_hoped.2.1 76 = .ok (.lload 4, 2) := by decide +kernel
theorem dM_hoped_78 : decode YM_hoped.2.1 78 = .ok (.aload_n 0, 1) := by decide +kernel
theorem dM_hoped_79 : decode YM_hoped.2.1 79 = .ok (.iload 9, 2) := by decide +kernel
theorem dM_hoped_81 : decode YM_hoped.2.1 81 = .ok (.iload 8, 2) := by decide +kernel
theorem dM_hoped_83 : decode YM_hoped.2.1 83 = .ok (.aload_n 0, 1) := by decide +kernel
theorem dM_hoped_84 : decode YM_hoped.2.1 84 = .ok (.iload 9, 2) := by decide +kernel
theorem dM_hoped_86 : decode YM_hoped.2.1 86 = .ok (.invokevirtual 362, 3) := by decide +kernel
theorem dM_hoped_89 : decode YM_hoped.2.1 89 = .ok (.iand, 1) := by decide +kernel
theorem dM_hoped_90 : decode YM_hoped.2.1 90 = .ok (.invokevirtual 390, 3) := by decide +kernel
theorem dM_hoped_93 : decode YM_hoped.2.1 93 = .ok (.i2l, 1) := by decide +kernel
theorem dM_hoped_94 : decode YM_hoped.2.1 94 = .ok (.ladd, 1) := by decide +kernel
theorem dM_hoped_95 : decode YM_hoped.2.1 95 = .ok (.lstore 4, 2) := by decide +kernel
theorem dM_hoped_97 : decode YM_hoped.2.1 97 = .ok (.iinc 9 1, 3) := by decide +kernel
theorem dM_hoped_100 : decode YM_hoped.2.1 100 = .ok (.goto (-33), 3) := by decide +kernel
theorem dM_hoped_103 : decode YM_hoped.2.1 103 = .ok (.iinc 8 1, 3) := by decide +kernel
theorem dM_hoped_106 : decode YM_hoped.2.1 106 = .ok (.goto (-68), 3) := by decide +kernel
theorem dM_hoped_109 : decode YM_hoped.2.1 109 = .ok (.lload 4, 2) := by decide +kernel
theorem dM_hoped_111 : decode YM_hoped.2.1 111 = .ok (.lload 6, 2) := by decide +kernel
theorem dM_hoped_113 : decode YM_hoped.2.1 113 = .ok (.iload_n 3, 1) := by decide +kernel
theorem dM_hoped_114 : decode YM_hoped.2.1 114 = .ok (.invokestatic 381, 3) := by decide +kernel
theorem dM_hoped_117 : decode YM_hoped.2.1 117 = .ok (.lreturn, 1) := by decide +kernel
theorem dM_allBests_0 : decode YM_allBests.2.1 0 = .ok (.iconst 0, 1) := by decide +kernel
theorem dM_allBests_1 : decode YM_allBests.2.1 1 = .ok (.istore_n 1, 1) := by decide +kernel
theorem dM_allBests_2 : decode YM_allBests.2.1 2 = .ok (.iconst 0, 1) := by decide +kernel
theorem dM_allBests_3 : decode YM_allBests.2.1 3 = .ok (.istore_n 2, 1) := by decide +kernel
theorem dM_allBests_4 : decode YM_allBests.2.1 4 = .ok (.iload_n 2, 1) := by decide +kernel
theorem dM_allBests_5 : decode YM_allBests.2.1 5 = .ok (.aload_n 0, 1) := by decide +kernel
theorem dM_allBests_6 : decode YM_allBests.2.1 6 = .ok (.getfield 259, 3) := by decide +kernel
theorem dM_allBests_9 : decode YM_allBests.2.1 9 = .ok (.if_icmp .ge 17, 3) := by decide +kernel
theorem dM_allBests_12 : decode YM_allBests.2.1 12 = .ok (.iload_n 1, 1) := by decide +kernel
theorem dM_allBests_13 : decode YM_allBests.2.1 13 = .ok (.aload_n 0, 1) := by decide +kernel
theorem dM_allBests_14 : decode YM_allBests.2.1 14 = .ok (.iload_n 2, 1) := by decide +kernel
theorem dM_allBests_15 : decode YM_allBests.2.1 15 = .ok (.invokevirtual 476, 3) := by decide +kernel
theorem dM_allBests_18 : decode YM_allBests.2.1 18 = .ok (.iadd, 1) := by decide +kernel
theorem dM_allBests_19 : decode YM_allBests.2.1 19 = .ok (.istore_n 1, 1) := by decide +kernel
theorem dM_allBests_20 : decode YM_allBests.2.1 20 = .ok (.iinc 2 1, 3) := by decide +kernel
theorem dM_allBests_23 : decode YM_allBests.2.1 23 = .ok (.goto (-19), 3) := by decide +kernel
theorem dM_allBests_26 : decode YM_allBests.2.1 26 = .ok (.iload_n 1, 1) := by decide +kernel
theorem dM_allBests_27 : decode YM_allBests.2.1 27 = .ok (.ireturn, 1) := by decide +kernel
theorem dM_strongest_0 : decode YM_strongest.2.1 0 = .ok (.aload_n 0, 1) := by decide +kernel
theorem dM_strongest_1 : decode YM_strongest.2.1 1 = .ok (.iconst 0, 1) := by decide +kernel
theorem dM_strongest_2 : decode YM_strongest.2.1 2 = .ok (.putfield 90, 3) := by decide +kernel
theorem dM_strongest_5 : decode YM_strongest.2.1 5 = .ok (.aload_n 0, 1) := by decide +kernel
theorem dM_strongest_6 : decode YM_strongest.2.1 6 = .ok (.iload_n 1, 1) := by decide +kernel
theorem dM_strongest_7 : decode YM_strongest.2.1 7 = .ok (.invokevirtual 277, 3) := by decide +kernel
theorem dM_strongest_10 : decode YM_strongest.2.1 10 = .ok (.ifCond .ne 5, 3) := by decide +kernel
theorem dM_strongest_13 : decode YM_strongest.2.1 13 = .ok (.iconst (-1), 1) := by decide +kernel
theorem dM_strongest_14 : decode YM_strongest.2.1 14 = .ok (.ireturn, 1) := by decide +kernel
theorem dM_strongest_15 : decode YM_strongest.2.1 15 = .ok (.aload_n 0, 1) := by decide +kernel
theorem dM_strongest_16 : decode YM_strongest.2.1 16 = .ok (.invokevirtual 479, 3) := by decide +kernel
theorem dM_strongest_19 : decode YM_strongest.2.1 19 = .ok (.istore_n 3, 1) := by decide +kernel
theorem dM_strongest_20 : decode YM_strongest.2.1 20 = .ok (.iconst (-1), 1) := by decide +kernel
theorem dM_strongest_21 : decode YM_strongest.2.1 21 = .ok (.istore 4, 2) := by decide +kernel
theorem dM_strongest_23 : decode YM_strongest.2.1 23 = .ok (.iconst (-1), 1) := by decide +kernel
theorem dM_strongest_24 : decode YM_strongest.2.1 24 = .ok (.istore 5, 2) := by decide +kernel
theorem dM_strongest_26 : decode YM_strongest.2.1 26 = .ok (.iconst 0, 1) := by decide +kernel
theorem dM_strongest_27 : decode YM_strongest.2.1 27 = .ok (.istore 6, 2) := by decide +kernel
theorem dM_strongest_29 : decode YM_strongest.2.1 29 = .ok (.iload 6, 2) := by decide +kernel
theorem dM_strongest_31 : decode YM_strongest.2.1 31 = .ok (.bipush 16, 2) := by decide +kernel
theorem dM_strongest_33 : decode YM_strongest.2.1 33 = .ok (.if_icmp .ge 96, 3) := by decide +kernel
theorem dM_strongest_36 : decode YM_strongest.2.1 36 = .ok (.aload_n 0, 1) := by decide +kernel
theorem dM_strongest_37 : decode YM_strongest.2.1 37 = .ok (.iload 6, 2) := by decide +kernel
theorem dM_strongest_39 : decode YM_strongest.2.1 39 = .ok (.putfield 265, 3) := by decide +kernel
theorem dM_strongest_42 : decode YM_strongest.2.1 42 = .ok (.aload_n 0, 1) := by decide +kernel
theorem dM_strongest_43 : decode YM_strongest.2.1 43 = .ok (.bipush 59, 2) := by decide +kernel
theorem dM_strongest_45 : decode YM_strongest.2.1 45 = .ok (.iload 6, 2) := by decide +kernel
theorem dM_strongest_47 : decode YM_strongest.2.1 47 = .ok (.iadd, 1) := by decide +kernel
theorem dM_strongest_48 : decode YM_strongest.2.1 48 = .ok (.invokevirtual 255, 3) := by decide +kernel
theorem dM_strongest_51 : decode YM_strongest.2.1 51 = .ok (.iconst (-1), 1) := by decide +kernel
theorem dM_strongest_52 : decode YM_strongest.2.1 52 = .ok (.if_icmp .ne 7, 3) := by decide +kernel
theorem dM_strongest_55 : decode YM_strongest.2.1 55 = .ok (.iconst (-1), 1) := by decide +kernel
theorem dM_strongest_56 : decode YM_strongest.2.1 56 = .ok (.goto 9, 3) := by decide +kernel
theorem dM_strongest_59 : decode YM_strongest.2.1 59 = .ok (.aload_n 0, 1) := by decide +kernel
theorem dM_strongest_60 : decode YM_strongest.2.1 60 = .ok (.invokevirtual 479, 3) := by decide +kernel
theorem dM_strongest_63 : decode YM_strongest.2.1 63 = .ok (.iload_n 3, 1) := by decide +kernel
theorem dM_strongest_64 : decode YM_strongest.2.1 64 = .ok (.isub, 1) := by decide +kernel
theorem dM_strongest_65 : decode YM_strongest.2.1 65 = .ok (.istore 7, 2) := by decide +kernel
theorem dM_strongest_67 : decode YM_strongest.2.1 67 = .ok (.aload_n 0, 1) := by decide +kernel
theorem dM_strongest_68 : decode YM_strongest.2.1 68 = .ok (.bipush 59, 2) := by decide +kernel
theorem dM_strongest_70 : decode YM_strongest.2.1 70 = .ok (.iload 6, 2) := by decide +kernel
theorem dM_strongest_72 : decode YM_strongest.2.1 72 = .ok (.iadd, 1) := by decide +kernel
theorem dM_strongest_73 : decode YM_strongest.2.1 73 = .ok (.invokevirtual 255, 3) := by decide +kernel
theorem dM_strongest_76 : decode YM_strongest.2.1 76 = .ok (.iconst (-1), 1) := by decide +kernel
theorem dM_strongest_77 : decode YM_strongest.2.1 77 = .ok (.if_icmp .eq 14, 3) := by decide +kernel
theorem dM_strongest_80 : decode YM_strongest.2.1 80 = .ok (.iload 7, 2) := by decide +kernel
theorem dM_strongest_82 : decode YM_strongest.2.1 82 = .ok (.ifCond .ge 9, 3) := by decide +kernel
theorem dM_strongest_85 : decode YM_strongest.2.1 85 = .ok (.iload 7, 2) := by decide +kernel
theorem dM_strongest_87 : decode YM_strongest.2.1 87 = .ok (.ineg, 1) := by decide +kernel
theorem dM_strongest_88 : decode YM_strongest.2.1 88 = .ok (.goto 5, 3) := by decide +kernel
theorem dM_strongest_91 : decode YM_strongest.2.1 91 = .ok (.iload 7, 2) := by decide +kernel
theorem dM_strongest_93 : decode YM_strongest.2.1 93 = .ok (.istore 7, 2) := by decide +kernel
theorem dM_strongest_95 : decode YM_strongest.2.1 95 = .ok (.iload 7, 2) := by decide +kernel
theorem dM_strongest_97 : decode YM_strongest.2.1 97 = .ok (.iload 5, 2) := by decide +kernel
theorem dM_strongest_99 : decode YM_strongest.2.1 99 = .ok (.if_icmp .le 11, 3) := by decide +kernel
theorem dM_strongest_102 : decode YM_strongest.2.1 102 = .ok (.bipush 100, 2) := by decide +kernel
theorem dM_strongest_104 : decode YM_strongest.2.1 104 = .ok (.iload 6, 2) := by decide +kernel
theorem dM_strongest_106 : decode YM_strongest.2.1 106 = .ok (.iadd, 1) := by decide +kernel
theorem dM_strongest_107 : decode YM_strongest.2.1 107 = .ok (.goto 5, 3) := by decide +kernel
theorem dM_strongest_110 : decode YM_strongest.2.1 110 = .ok (.iload 4, 2) := by decide +kernel
theorem dM_strongest_112 : decode YM_strongest.2.1 112 = .ok (.istore 4, 2) := by decide +kernel
theorem dM_strongest_114 : decode YM_strongest.2.1 114 = .ok (.iload 5, 2) := by decide +kernel
theorem dM_strongest_116 : decode YM_strongest.2.1 116 = .ok (.iload 7, 2) := by decide +kernel
theorem dM_strongest_118 : decode YM_strongest.2.1 118 = .ok (.invokestatic 167, 3) := by decide +kernel
theorem dM_strongest_121 : decode YM_strongest.2.1 121 = .ok (.istore 5, 2) := by decide +kernel
theorem dM_strongest_123 : decode YM_strongest.2.1 123 = .ok (.iinc 6 1, 3) := by decide +kernel
theorem dM_strongest_126 : decode YM_strongest.2.1 126 = .ok (.goto (-97), 3) := by decide +kernel
theorem dM_strongest_129 : decode YM_strongest.2.1 129 = .ok (.iload_n 2, 1) := by decide +kernel
theorem dM_strongest_130 : decode YM_strongest.2.1 130 = .ok (.ifCond .eq 8, 3) := by decide +kernel
theorem dM_strongest_133 : decode YM_strongest.2.1 133 = .ok (.iload 5, 2) := by decide +kernel
theorem dM_strongest_135 : decode YM_strongest.2.1 135 = .ok (.goto 5, 3) := by decide +kernel
theorem dM_strongest_138 : decode YM_strongest.2.1 138 = .ok (.iload 4, 2) := by decide +kernel
theorem dM_strongest_140 : decode YM_strongest.2.1 140 = .ok (.ireturn, 1) := by decide +kernel
theorem dM_change_0 : decode YM_change.2.1 0 = .ok (.aload_n 0, 1) := by decide +kernel
theorem dM_change_1 : decode YM_change.2.1 1 = .ok (.getfield 41, 3) := by decide +kernel
theorem dM_change_4 : decode YM_change.2.1 4 = .ok (.iload_n 1, 1) := by decide +kernel
theorem dM_change_5 : decode YM_change.2.1 5 = .ok (.iaload, 1) := by decide +kernel
theorem dM_change_6 : decode YM_change.2.1 6 = .ok (.istore_n 3, 1) := by decide +kernel
theorem dM_change_7 : decode YM_change.2.1 7 = .ok (.aload_n 0, 1) := by decide +kernel
theorem dM_change_8 : decode YM_change.2.1 8 = .ok (.getfield 41, 3) := by decide +kernel
theorem dM_change_11 : decode YM_change.2.1 11 = .ok (.iload_n 1, 1) := by decide +kernel
theorem dM_change_12 : decode YM_change.2.1 12 = .ok (.aload_n 0, 1) := by decide +kernel
theorem dM_change_13 : decode YM_change.2.1 13 = .ok (.getfield 41, 3) := by decide +kernel
theorem dM_change_16 : decode YM_change.2.1 16 = .ok (.iload_n 2, 1) := by decide +kernel
theorem dM_change_17 : decode YM_change.2.1 17 = .ok (.iaload, 1) := by decide +kernel
theorem dM_change_18 : decode YM_change.2.1 18 = .ok (.iastore, 1) := by decide +kernel
theorem dM_change_19 : decode YM_change.2.1 19 = .ok (.aload_n 0, 1) := by decide +kernel
theorem dM_change_20 : decode YM_change.2.1 20 = .ok (.getfield 41, 3) := by decide +kernel
theorem dM_change_23 : decode YM_change.2.1 23 = .ok (.iload_n 2, 1) := by decide +kernel
theorem dM_change_24 : decode YM_change.2.1 24 = .ok (.iload_n 3, 1) := by decide +kernel
theorem dM_change_25 : decode YM_change.2.1 25 = .ok (.iastore, 1) := by decide +kernel
theorem dM_change_26 : decode YM_change.2.1 26 = .ok (.return_, 1) := by decide +kernel
theorem dM_swapped_0 : decode YM_swapped.2.1 0 = .ok (.aload_n 0, 1) := by decide +kernel
theorem dM_swapped_1 : decode YM_swapped.2.1 1 = .ok (.iconst 0, 1) := by decide +kernel
theorem dM_swapped_2 : decode YM_swapped.2.1 2 = .ok (.putfield 90, 3) := by decide +kernel
theorem dM_swapped_5 : decode YM_swapped.2.1 5 = .ok (.aload_n 0, 1) := by decide +kernel
theorem dM_swapped_6 : decode YM_swapped.2.1 6 = .ok (.iload_n 1, 1) := by decide +kernel
theorem dM_swapped_7 : decode YM_swapped.2.1 7 = .ok (.invokevirtual 277, 3) := by decide +kernel
theorem dM_swapped_10 : decode YM_swapped.2.1 10 = .ok (.ifCond .ne 7, 3) := by decide +kernel
theorem dM_swapped_13 : decode YM_swapped.2.1 13 = .ok (.sipush (-1000), 3) := by decide +kernel
theorem dM_swapped_16 : decode YM_swapped.2.1 16 = .ok (.ireturn, 1) := by decide +kernel
theorem dM_swapped_17 : decode YM_swapped.2.1 17 = .ok (.iconst (-1), 1) := by decide +kernel
theorem dM_swapped_18 : decode YM_swapped.2.1 18 = .ok (.istore_n 3, 1) := by decide +kernel
theorem dM_swapped_19 : decode YM_swapped.2.1 19 = .ok (.aload_n 0, 1) := by decide +kernel
theorem dM_swapped_20 : decode YM_swapped.2.1 20 = .ok (.invokevirtual 479, 3) := by decide +kernel
theorem dM_swapped_23 : decode YM_swapped.2.1 23 = .ok (.istore 4, 2) := by decide +kernel
theorem dM_swapped_25 : decode YM_swapped.2.1 25 = .ok (.iconst 0, 1) := by decide +kernel
theorem dM_swapped_26 : decode YM_swapped.2.1 26 = .ok (.istore 5, 2) := by decide +kernel
theorem dM_swapped_28 : decode YM_swapped.2.1 28 = .ok (.iload 5, 2) := by decide +kernel
theorem dM_swapped_30 : decode YM_swapped.2.1 30 = .ok (.aload_n 0, 1) := by decide +kernel
theorem dM_swapped_31 : decode YM_swapped.2.1 31 = .ok (.getfield 262, 3) := by decide +kernel
theorem dM_swapped_34 : decode YM_swapped.2.1 34 = .ok (.if_icmp .ge 81, 3) := by decide +kernel
theorem dM_swapped_37 : decode YM_swapped.2.1 37 = .ok (.iload 5, 2) := by decide +kernel
theorem dM_swapped_39 : decode YM_swapped.2.1 39 = .ok (.iconst 1, 1) := by decide +kernel
theorem dM_swapped_40 : decode YM_swapped.2.1 40 = .ok (.iadd, 1) := by decide +kernel
theorem dM_swapped_41 : decode YM_swapped.2.1 41 = .ok (.istore 6, 2) := by decide +kernel
theorem dM_swapped_43 : decode YM_swapped.2.1 43 = .ok (.iload 6, 2) := by decide +kernel
theorem dM_swapped_45 : decode YM_swapped.2.1 45 = .ok (.aload_n 0, 1) := by decide +kernel
theorem dM_swapped_46 : decode YM_swapped.2.1 46 = .ok (.getfield 262, 3) := by decide +kernel
theorem dM_swapped_49 : decode YM_swapped.2.1 49 = .ok (.if_icmp .ge 60, 3) := by decide +kernel
theorem dM_swapped_52 : decode YM_swapped.2.1 52 = .ok (.aload_n 0, 1) := by decide +kernel
theorem dM_swapped_53 : decode YM_swapped.2.1 53 = .ok (.iload 5, 2) := by decide +kernel
theorem dM_swapped_55 : decode YM_swapped.2.1 55 = .ok (.iload 6, 2) := by decide +kernel
theorem dM_swapped_57 : decode YM_swapped.2.1 57 = .ok (.invokevirtual 482, 3) := by decide +kernel
theorem dM_swapped_60 : decode YM_swapped.2.1 60 = .ok (.aload_n 0, 1) := by decide +kernel
theorem dM_swapped_61 : decode YM_swapped.2.1 61 = .ok (.invokevirtual 479, 3) := by decide +kernel
theorem dM_swapped_64 : decode YM_swapped.2.1 64 = .ok (.istore 7, 2) := by decide +kernel
theorem dM_swapped_66 : decode YM_swapped.2.1 66 = .ok (.aload_n 0, 1) := by decide +kernel
theorem dM_swapped_67 : decode YM_swapped.2.1 67 = .ok (.iload 5, 2) := by decide +kernel
theorem dM_swapped_69 : decode YM_swapped.2.1 69 = .ok (.iload 6, 2) := by decide +kernel
theorem dM_swapped_71 : decode YM_swapped.2.1 71 = .ok (.invokevirtual 482, 3) := by decide +kernel
theorem dM_swapped_74 : decode YM_swapped.2.1 74 = .ok (.iload 7, 2) := by decide +kernel
theorem dM_swapped_76 : decode YM_swapped.2.1 76 = .ok (.iload 4, 2) := by decide +kernel
theorem dM_swapped_78 : decode YM_swapped.2.1 78 = .ok (.if_icmp .le 14, 3) := by decide +kernel
theorem dM_swapped_81 : decode YM_swapped.2.1 81 = .ok (.bipush 10, 2) := by decide +kernel
theorem dM_swapped_83 : decode YM_swapped.2.1 83 = .ok (.iload 5, 2) := by decide +kernel
theorem dM_swapped_85 : decode YM_swapped.2.1 85 = .ok (.imul, 1) := by decide +kernel
theorem dM_swapped_86 : decode YM_swapped.2.1 86 = .ok (.iload 6, 2) := by decide +kernel
theorem dM_swapped_88 : decode YM_swapped.2.1 88 = .ok (.iadd, 1) := by decide +kernel
theorem dM_swapped_89 : decode YM_swapped.2.1 89 = .ok (.goto 4, 3) := by decide +kernel
theorem dM_swapped_92 : decode YM_swapped.2.1 92 = .ok (.iload_n 3, 1) := by decide +kernel
theorem dM_swapped_93 : decode YM_swapped.2.1 93 = .ok (.istore_n 3, 1) := by decide +kernel
theorem dM_swapped_94 : decode YM_swapped.2.1 94 = .ok (.iload 4, 2) := by decide +kernel
theorem dM_swapped_96 : decode YM_swapped.2.1 96 = .ok (.iload 7, 2) := by decide +kernel
theorem dM_swapped_98 : decode YM_swapped.2.1 98 = .ok (.invokestatic 167, 3) := by decide +kernel
theorem dM_swapped_101 : decode YM_swapped.2.1 101 = .ok (.istore 4, 2) := by decide +kernel
theorem dM_swapped_103 : decode YM_swapped.2.1 103 = .ok (.iinc 6 1, 3) := by decide +kernel
theorem dM_swapped_106 : decode YM_swapped.2.1 106 = .ok (.goto (-63), 3) := by decide +kernel
theorem dM_swapped_109 : decode YM_swapped.2.1 109 = .ok (.iinc 5 1, 3) := by decide +kernel
theorem dM_swapped_112 : decode YM_swapped.2.1 112 = .ok (.goto (-84), 3) := by decide +kernel
theorem dM_swapped_115 : decode YM_swapped.2.1 115 = .ok (.iload_n 2, 1) := by decide +kernel
theorem dM_swapped_116 : decode YM_swapped.2.1 116 = .ok (.ifCond .eq 8, 3) := by decide +kernel
theorem dM_swapped_119 : decode YM_swapped.2.1 119 = .ok (.iload 4, 2) := by decide +kernel
theorem dM_swapped_121 : decode YM_swapped.2.1 121 = .ok (.goto 4, 3) := by decide +kernel
theorem dM_swapped_124 : decode YM_swapped.2.1 124 = .ok (.iload_n 3, 1) := by decide +kernel
theorem dM_swapped_125 : decode YM_swapped.2.1 125 = .ok (.ireturn, 1) := by decide +kernel
theorem dM_isFair_0 : decode YM_isFair.2.1 0 = .ok (.aload_n 0, 1) := by decide +kernel
theorem dM_isFair_1 : decode YM_isFair.2.1 1 = .ok (.invokevirtual 268, 3) := by decide +kernel
theorem dM_isFair_4 : decode YM_isFair.2.1 4 = .ok (.iconst 0, 1) := by decide +kernel
theorem dM_isFair_5 : decode YM_isFair.2.1 5 = .ok (.istore_n 1, 1) := by decide +kernel
theorem dM_isFair_6 : decode YM_isFair.2.1 6 = .ok (.iload_n 1, 1) := by decide +kernel
theorem dM_isFair_7 : decode YM_isFair.2.1 7 = .ok (.aload_n 0, 1) := by decide +kernel
theorem dM_isFair_8 : decode YM_isFair.2.1 8 = .ok (.getfield 262, 3) := by decide +kernel
theorem dM_isFair_11 : decode YM_isFair.2.1 11 = .ok (.if_icmp .ge 21, 3) := by decide +kernel
theorem dM_isFair_14 : decode YM_isFair.2.1 14 = .ok (.aload_n 0, 1) := by decide +kernel
theorem dM_isFair_15 : decode YM_isFair.2.1 15 = .ok (.iload_n 1, 1) := by decide +kernel
theorem dM_isFair_16 : decode YM_isFair.2.1 16 = .ok (.aload_n 0, 1) := by decide +kernel
theorem dM_isFair_17 : decode YM_isFair.2.1 17 = .ok (.getfield 81, 3) := by decide +kernel
theorem dM_isFair_20 : decode YM_isFair.2.1 20 = .ok (.iload_n 1, 1) := by decide +kernel
theorem dM_isFair_21 : decode YM_isFair.2.1 21 = .ok (.iaload, 1) := by decide +kernel
theorem dM_isFair_22 : decode YM_isFair.2.1 22 = .ok (.invokevirtual 316, 3) := by decide +kernel
theorem dM_isFair_25 : decode YM_isFair.2.1 25 = .ok (.pop, 1) := by decide +kernel
theorem dM_isFair_26 : decode YM_isFair.2.1 26 = .ok (.iinc 1 1, 3) := by decide +kernel
theorem dM_isFair_29 : decode YM_isFair.2.1 29 = .ok (.goto (-23), 3) := by decide +kernel
theorem dM_isFair_32 : decode YM_isFair.2.1 32 = .ok (.iconst 0, 1) := by decide +kernel
theorem dM_isFair_33 : decode YM_isFair.2.1 33 = .ok (.istore_n 1, 1) := by decide +kernel
theorem dM_isFair_34 : decode YM_isFair.2.1 34 = .ok (.iload_n 1, 1) := by decide +kernel
theorem dM_isFair_35 : decode YM_isFair.2.1 35 = .ok (.aload_n 0, 1) := by decide +kernel
theorem dM_isFair_36 : decode YM_isFair.2.1 36 = .ok (.getfield 259, 3) := by decide +kernel
theorem dM_isFair_39 : decode YM_isFair.2.1 39 = .ok (.if_icmp .ge 27, 3) := by decide +kernel
theorem dM_isFair_42 : decode YM_isFair.2.1 42 = .ok (.aload_n 0, 1) := by decide +kernel
theorem dM_isFair_43 : decode YM_isFair.2.1 43 = .ok (.getfield 44, 3) := by decide +kernel
theorem dM_isFair_46 : decode YM_isFair.2.1 46 = .ok (.iload_n 1, 1) := by decide +kernel
theorem dM_isFair_47 : decode YM_isFair.2.1 47 = .ok (.iaload, 1) := by decide +kernel
theorem dM_isFair_48 : decode YM_isFair.2.1 48 = .ok (.aload_n 0, 1) := by decide +kernel
theorem dM_isFair_49 : decode YM_isFair.2.1 49 = .ok (.iconst 3, 1) := by decide +kernel
theorem dM_isFair_50 : decode YM_isFair.2.1 50 = .ok (.iload_n 1, 1) := by decide +kernel
theorem dM_isFair_51 : decode YM_isFair.2.1 51 = .ok (.iadd, 1) := by decide +kernel
theorem dM_isFair_52 : decode YM_isFair.2.1 52 = .ok (.invokevirtual 255, 3) := by decide +kernel
theorem dM_isFair_55 : decode YM_isFair.2.1 55 = .ok (.if_icmp .ge 5, 3) := by decide +kernel
theorem dM_isFair_58 : decode YM_isFair.2.1 58 = .ok (.iconst 0, 1) := by decide +kernel
theorem dM_isFair_59 : decode YM_isFair.2.1 59 = .ok (.ireturn, 1) := by decide +kernel
theorem dM_isFair_60 : decode YM_isFair.2.1 60 = .ok (.iinc 1 1, 3) := by decide +kernel
theorem dM_isFair_63 : decode YM_isFair.2.1 63 = .ok (.goto (-29), 3) := by decide +kernel
theorem dM_isFair_66 : decode YM_isFair.2.1 66 = .ok (.iconst 1, 1) := by decide +kernel
theorem dM_isFair_67 : decode YM_isFair.2.1 67 = .ok (.ireturn, 1) := by decide +kernel
theorem dM_fairBy_0 : decode YM_fairBy.2.1 0 = .ok (.iconst 0, 1) := by decide +kernel
theorem dM_fairBy_1 : decode YM_fairBy.2.1 1 = .ok (.istore_n 3, 1) := by decide +kernel
theorem dM_fairBy_2 : decode YM_fairBy.2.1 2 = .ok (.iconst 0, 1) := by decide +kernel
theorem dM_fairBy_3 : decode YM_fairBy.2.1 3 = .ok (.istore 4, 2) := by decide +kernel
theorem dM_fairBy_5 : decode YM_fairBy.2.1 5 = .ok (.iload 4, 2) := by decide +kernel
theorem dM_fairBy_7 : decode YM_fairBy.2.1 7 = .ok (.iload_n 2, 1) := by decide +kernel
theorem dM_fairBy_8 : decode YM_fairBy.2.1 8 = .ok (.if_icmp .ge 102, 3) := by decide +kernel
theorem dM_fairBy_11 : decode YM_fairBy.2.1 11 = .ok (.iload 4, 2) := by decide +kernel
theorem dM_fairBy_13 : decode YM_fairBy.2.1 13 = .ok (.istore 5, 2) := by decide +kernel
theorem dM_fairBy_15 : decode YM_fairBy.2.1 15 = .ok (.iconst 0, 1) := by decide +kernel
theorem dM_fairBy_16 : decode YM_fairBy.2.1 16 = .ok (.istore 6, 2) := by decide +kernel
theorem dM_fairBy_18 : decode YM_fairBy.2.1 18 = .ok (.iload 6, 2) := by decide +kernel
theorem dM_fairBy_20 : decode YM_fairBy.2.1 20 = .ok (.aload_n 0, 1) := by decide +kernel
theorem dM_fairBy_21 : decode YM_fairBy.2.1 21 = .ok (.getfield 262, 3) := by decide +kernel
theorem dM_fairBy_24 : decode YM_fairBy.2.1 24 = .ok (.if_icmp .ge 65, 3) := by decide +kernel
theorem dM_fairBy_27 : decode YM_fairBy.2.1 27 = .ok (.aload_n 0, 1) := by decide +kernel
theorem dM_fairBy_28 : decode YM_fairBy.2.1 28 = .ok (.getfield 81, 3) := by decide +kernel
theorem dM_fairBy_31 : decode YM_fairBy.2.1 31 = .ok (.iload 6, 2) := by decide +kernel
theorem dM_fairBy_33 : decode YM_fairBy.2.1 33 = .ok (.iload_n 1, 1) := by decide +kernel
theorem dM_fairBy_34 : decode YM_fairBy.2.1 34 = .ok (.iload 6, 2) := by decide +kernel
theorem dM_fairBy_36 : decode YM_fairBy.2.1 36 = .ok (.invokestatic 94, 3) := by decide +kernel
theorem dM_fairBy_39 : decode YM_fairBy.2.1 39 = .ok (.ifCond .eq 13, 3) := by decide +kernel
theorem dM_fairBy_42 : decode YM_fairBy.2.1 42 = .ok (.iload 5, 2) := by decide +kernel
theorem dM_fairBy_44 : decode YM_fairBy.2.1 44 = .ok (.aload_n 0, 1) := by decide +kernel
theorem dM_fairBy_45 : decode YM_fairBy.2.1 45 = .ok (.getfield 259, 3) := by decide +kernel
theorem dM_fairBy_48 : decode YM_fairBy.2.1 48 = .ok (.irem, 1) := by decide +kernel
theorem dM_fairBy_49 : decode YM_fairBy.2.1 49 = .ok (.goto 10, 3) := by decide +kernel
theorem dM_fairBy_52 : decode YM_fairBy.2.1 52 = .ok (.aload_n 0, 1) := by decide +kernel
theorem dM_fairBy_53 : decode YM_fairBy.2.1 53 = .ok (.getfield 41, 3) := by decide +kernel
theorem dM_fairBy_56 : decode YM_fairBy.2.1 56 = .ok (.iload 6, 2) := by decide +kernel
theorem dM_fairBy_58 : decode YM_fairBy.2.1 58 = .ok (.iaload, 1) := by decide +kernel
theorem dM_fairBy_59 : decode YM_fairBy.2.1 59 = .ok (.iastore, 1) := by decide +kernel
theorem dM_fairBy_60 : decode YM_fairBy.2.1 60 = .ok (.iload_n 1, 1) := by decide +kernel
theorem dM_fairBy_61 : decode YM_fairBy.2.1 61 = .ok (.iload 6, 2) := by decide +kernel
theorem dM_fairBy_63 : decode YM_fairBy.2.1 63 = .ok (.invokestatic 94, 3) := by decide +kernel
theorem dM_fairBy_66 : decode YM_fairBy.2.1 66 = .ok (.ifCond .eq 13, 3) := by decide +kernel
theorem dM_fairBy_69 : decode YM_fairBy.2.1 69 = .ok (.iload 5, 2) := by decide +kernel
theorem dM_fairBy_71 : decode YM_fairBy.2.1 71 = .ok (.aload_n 0, 1) := by decide +kernel
theorem dM_fairBy_72 : decode YM_fairBy.2.1 72 = .ok (.getfield 259, 3) := by decide +kernel
theorem dM_fairBy_75 : decode YM_fairBy.2.1 75 = .ok (.idiv, 1) := by decide +kernel
theorem dM_fairBy_76 : decode YM_fairBy.2.1 76 = .ok (.goto 5, 3) := by decide +kernel
theorem dM_fairBy_79 : decode YM_fairBy.2.1 79 = .ok (.iload 5, 2) := by decide +kernel
theorem dM_fairBy_81 : decode YM_fairBy.2.1 81 = .ok (.istore 5, 2) := by decide +kernel
theorem dM_fairBy_83 : decode YM_fairBy.2.1 83 = .ok (.iinc 6 1, 3) := by decide +kernel
theorem dM_fairBy_86 : decode YM_fairBy.2.1 86 = .ok (.goto (-68), 3) := by decide +kernel
theorem dM_fairBy_89 : decode YM_fairBy.2.1 89 = .ok (.iload_n 3, 1) := by decide +kernel
theorem dM_fairBy_90 : decode YM_fairBy.2.1 90 = .ok (.aload_n 0, 1) := by decide +kernel
theorem dM_fairBy_91 : decode YM_fairBy.2.1 91 = .ok (.invokevirtual 485, 3) := by decide +kernel
theorem dM_fairBy_94 : decode YM_fairBy.2.1 94 = .ok (.ifCond .eq 7, 3) := by decide +kernel
theorem dM_fairBy_97 : decode YM_fairBy.2.1 97 = .ok (.iconst 1, 1) := by decide +kernel
theorem dM_fairBy_98 : decode YM_fairBy.2.1 98 = .ok (.goto 4, 3) := by decide +kernel
theorem dM_fairBy_101 : decode YM_fairBy.2.1 101 = .ok (.iconst 0, 1) := by decide +kernel
theorem dM_fairBy_102 : decode YM_fairBy.2.1 102 = .ok (.iadd, 1) := by decide +kernel
theorem dM_fairBy_103 : decode YM_fairBy.2.1 103 = .ok (.istore_n 3, 1) := by decide +kernel
theorem dM_fairBy_104 : decode YM_fairBy.2.1 104 = .ok (.iinc 4 1, 3) := by decide +kernel
theorem dM_fairBy_107 : decode YM_fairBy.2.1 107 = .ok (.goto (-102), 3) := by decide +kernel
theorem dM_fairBy_110 : decode YM_fairBy.2.1 110 = .ok (.iload_n 3, 1) := by decide +kernel
theorem dM_fairBy_111 : decode YM_fairBy.2.1 111 = .ok (.ireturn, 1) := by decide +kernel
theorem dM_strike_0 : decode YM_strike.2.1 0 = .ok (.aload_n 0, 1) := by decide +kernel
theorem dM_strike_1 : decode YM_strike.2.1 1 = .ok (.iconst 0, 1) := by decide +kernel
theorem dM_strike_2 : decode YM_strike.2.1 2 = .ok (.putfield 90, 3) := by decide +kernel
theorem dM_strike_5 : decode YM_strike.2.1 5 = .ok (.iload_n 2, 1) := by decide +kernel
theorem dM_strike_6 : decode YM_strike.2.1 6 = .ok (.iconst 0, 1) := by decide +kernel
theorem dM_strike_7 : decode YM_strike.2.1 7 = .ok (.iconst 3, 1) := by decide +kernel
theorem dM_strike_8 : decode YM_strike.2.1 8 = .ok (.invokestatic 102, 3) := by decide +kernel
theorem dM_strike_11 : decode YM_strike.2.1 11 = .ok (.ifCond .eq 19, 3) := by decide +kernel
theorem dM_strike_14 : decode YM_strike.2.1 14 = .ok (.aload_n 0, 1) := by decide +kernel
theorem dM_strike_15 : decode YM_strike.2.1 15 = .ok (.iload_n 1, 1) := by decide +kernel
theorem dM_strike_16 : decode YM_strike.2.1 16 = .ok (.invokevirtual 277, 3) := by decide +kernel
theorem dM_strike_19 : decode YM_strike.2.1 19 = .ok (.ifCond .eq 11, 3) := by decide +kernel
theorem dM_strike_22 : decode YM_strike.2.1 22 = .ok (.iload_n 2, 1) := by decide +kernel
theorem dM_strike_23 : decode YM_strike.2.1 23 = .ok (.aload_n 0, 1) := by decide +kernel
theorem dM_strike_24 : decode YM_strike.2.1 24 = .ok (.getfield 262, 3) := by decide +kernel
theorem dM_strike_27 : decode YM_strike.2.1 27 = .ok (.if_icmp .le 7, 3) := by decide +kernel
theorem dM_strike_30 : decode YM_strike.2.1 30 = .ok (.ldc2_w 388, 3) := by decide +kernel
theorem dM_strike_33 : decode YM_strike.2.1 33 = .ok (.lreturn, 1) := by decide +kernel
theorem dM_strike_34 : decode YM_strike.2.1 34 = .ok (.aload_n 0, 1) := by decide +kernel
theorem dM_strike_35 : decode YM_strike.2.1 35 = .ok (.getfield 259, 3) := by decide +kernel
theorem dM_strike_38 : decode YM_strike.2.1 38 = .ok (.i2l, 1) := by decide +kernel
theorem dM_strike_39 : decode YM_strike.2.1 39 = .ok (.iload_n 2, 1) := by decide +kernel
theorem dM_strike_40 : decode YM_strike.2.1 40 = .ok (.invokestatic 395, 3) := by decide +kernel
theorem dM_strike_43 : decode YM_strike.2.1 43 = .ok (.l2i, 1) := by decide +kernel
theorem dM_strike_44 : decode YM_strike.2.1 44 = .ok (.istore 4, 2) := by decide +kernel
theorem dM_strike_46 : decode YM_strike.2.1 46 = .ok (.lconst 0, 1) := by decide +kernel
theorem dM_strike_47 : decode YM_strike.2.1 47 = .ok (.lstore 5, 2) := by decide +kernel
theorem dM_strike_49 : decode YM_strike.2.1 49 = .ok (.lconst 0, 1) := by decide +kernel
theorem dM_strike_50 : decode YM_strike.2.1 50 = .ok (.lstore 7, 2) := by decide +kernel
theorem dM_strike_52 : decode YM_strike.2.1 52 = .ok (.iconst 0, 1) := by decide +kernel
theorem dM_strike_53 : decode YM_strike.2.1 53 = .ok (.istore 9, 2) := by decide +kernel
theorem dM_strike_55 : decode YM_strike.2.1 55 = .ok (.iload 9, 2) := by decide +kernel
theorem dM_strike_57 : decode YM_strike.2.1 57 = .ok (.iconst 1, 1) := by decide +kernel
theorem dM_strike_58 : decode YM_strike.2.1 58 = .ok (.aload_n 0, 1) := by decide +kernel
theorem dM_strike_59 : decode YM_strike.2.1 59 = .ok (.getfield 262, 3) := by decide +kernel
theorem dM_strike_62 : decode YM_strike.2.1 62 = .ok (.ishl, 1) := by decide +kernel
theorem dM_strike_63 : decode YM_strike.2.1 63 = .ok (.if_icmp .ge 40, 3) := by decide +kernel
theorem dM_strike_66 : decode YM_strike.2.1 66 = .ok (.iload 9, 2) := by decide +kernel
theorem dM_strike_68 : decode YM_strike.2.1 68 = .ok (.invokestatic 369, 3) := by decide +kernel
theorem dM_strike_71 : decode YM_strike.2.1 71 = .ok (.iload_n 2, 1) := by decide +kernel
theorem dM_strike_72 : decode YM_strike.2.1 72 = .ok (.if_icmp .ne 25, 3) := by decide +kernel
theorem dM_strike_75 : decode YM_strike.2.1 75 = .ok (.lload 7, 2) := by decide +kernel
theorem dM_strike_77 : decode YM_strike.2.1 77 = .ok (.iload 4, 2) := by decide +kernel
theorem dM_strike_79 : decode YM_strike.2.1 79 = .ok (.i2l, 1) := by decide +kernel
theorem dM_strike_80 : decode YM_strike.2.1 80 = .ok (.ladd, 1) := by decide +kernel
theorem dM_strike_81 : decode YM_strike.2.1 81 = .ok (.lstore 7, 2) := by decide +kernel
theorem dM_strike_83 : decode YM_strike.2.1 83 = .ok (.lload 5, 2) := by decide +kernel
theorem dM_strike_85 : decode YM_strike.2.1 85 = .ok (.aload_n 0, 1) := by decide +kernel
theorem dM_strike_86 : decode YM_strike.2.1 86 = .ok (.iload 9, 2) := by decide +kernel
theorem dM_strike_88 : decode YM_strike.2.1 88 = .ok (.iload 4, 2) := by decide +kernel
theorem dM_strike_90 : decode YM_strike.2.1 90 = .ok (.invokevirtual 488, 3) := by decide +kernel
theorem dM_strike_93 : decode YM_strike.2.1 93 = .ok (.i2l, 1) := by decide +kernel
theorem dM_strike_94 : decode YM_strike.2.1 94 = .ok (.ladd, 1) := by decide +kernel
theorem dM_strike_95 : decode YM_strike.2.1 95 = .ok (.lstore 5, 2) := by decide +kernel
theorem dM_strike_97 : decode YM_strike.2.1 97 = .ok (.iinc 9 1, 3) := by decide +kernel
theorem dM_strike_100 : decode YM_strike.2.1 100 = .ok (.goto (-45), 3) := by decide +kernel
theorem dM_strike_103 : decode YM_strike.2.1 103 = .ok (.lload 5, 2) := by decide +kernel
theorem dM_strike_105 : decode YM_strike.2.1 105 = .ok (.lload 7, 2) := by decide +kernel
theorem dM_strike_107 : decode YM_strike.2.1 107 = .ok (.iload_n 3, 1) := by decide +kernel
theorem dM_strike_108 : decode YM_strike.2.1 108 = .ok (.invokestatic 381, 3) := by decide +kernel
theorem dM_strike_111 : decode YM_strike.2.1 111 = .ok (.lreturn, 1) := by decide +kernel
theorem dM_couples_0 : decode YM_couples.2.1 0 = .ok (.iconst 0, 1) := by decide +kernel
theorem dM_couples_1 : decode YM_couples.2.1 1 = .ok (.istore_n 1, 1) := by decide +kernel
theorem dM_couples_2 : decode YM_couples.2.1 2 = .ok (.iconst 0, 1) := by decide +kernel
theorem dM_couples_3 : decode YM_couples.2.1 3 = .ok (.istore_n 2, 1) := by decide +kernel
theorem dM_couples_4 : decode YM_couples.2.1 4 = .ok (.iload_n 2, 1) := by decide +kernel
theorem dM_couples_5 : decode YM_couples.2.1 5 = .ok (.aload_n 0, 1) := by decide +kernel
theorem dM_couples_6 : decode YM_couples.2.1 6 = .ok (.getfield 262, 3) := by decide +kernel
theorem dM_couples_9 : decode YM_couples.2.1 9 = .ok (.if_icmp .ge 69, 3) := by decide +kernel
theorem dM_couples_12 : decode YM_couples.2.1 12 = .ok (.iconst 0, 1) := by decide +kernel
theorem dM_couples_13 : decode YM_couples.2.1 13 = .ok (.istore_n 3, 1) := by decide +kernel
theorem dM_couples_14 : decode YM_couples.2.1 14 = .ok (.iload_n 3, 1) := by decide +kernel
theorem dM_couples_15 : decode YM_couples.2.1 15 = .ok (.iload_n 2, 1) := by decide +kernel
theorem dM_couples_16 : decode YM_couples.2.1 16 = .ok (.if_icmp .ge 56, 3) := by decide +kernel
theorem dM_couples_19 : decode YM_couples.2.1 19 = .ok (.iload_n 1, 1) := by decide +kernel
theorem dM_couples_20 : decode YM_couples.2.1 20 = .ok (.aload_n 0, 1) := by decide +kernel
theorem dM_couples_21 : decode YM_couples.2.1 21 = .ok (.getfield 41, 3) := by decide +kernel
theorem dM_couples_24 : decode YM_couples.2.1 24 = .ok (.iload_n 3, 1) := by decide +kernel
theorem dM_couples_25 : decode YM_couples.2.1 25 = .ok (.iaload, 1) := by decide +kernel
theorem dM_couples_26 : decode YM_couples.2.1 26 = .ok (.aload_n 0, 1) := by decide +kernel
theorem dM_couples_27 : decode YM_couples.2.1 27 = .ok (.getfield 41, 3) := by decide +kernel
theorem dM_couples_30 : decode YM_couples.2.1 30 = .ok (.iload_n 2, 1) := by decide +kernel
theorem dM_couples_31 : decode YM_couples.2.1 31 = .ok (.iaload, 1) := by decide +kernel
theorem dM_couples_32 : decode YM_couples.2.1 32 = .ok (.if_icmp .ne 31, 3) := by decide +kernel
theorem dM_couples_35 : decode YM_couples.2.1 35 = .ok (.aload_n 0, 1) := by decide +kernel
theorem dM_couples_36 : decode YM_couples.2.1 36 = .ok (.bipush 59, 2) := by decide +kernel
theorem dM_couples_38 : decode YM_couples.2.1 38 = .ok (.iconst 4, 1) := by decide +kernel
theorem dM_couples_39 : decode YM_couples.2.1 39 = .ok (.aload_n 0, 1) := by decide +kernel
theorem dM_couples_40 : decode YM_couples.2.1 40 = .ok (.iload_n 3, 1) := by decide +kernel
theorem dM_couples_41 : decode YM_couples.2.1 41 = .ok (.invokevirtual 271, 3) := by decide +kernel
theorem dM_couples_44 : decode YM_couples.2.1 44 = .ok (.imul, 1) := by decide +kernel
theorem dM_couples_45 : decode YM_couples.2.1 45 = .ok (.iadd, 1) := by decide +kernel
theorem dM_couples_46 : decode YM_couples.2.1 46 = .ok (.aload_n 0, 1) := by decide +kernel
theorem dM_couples_47 : decode YM_couples.2.1 47 = .ok (.iload_n 2, 1) := by decide +kernel
theorem dM_couples_48 : decode YM_couples.2.1 48 = .ok (.invokevirtual 271, 3) := by decide +kernel
theorem dM_couples_51 : decode YM_couples.2.1 51 = .ok (.iadd, 1) := by decide +kernel
theorem dM_couples_52 : decode YM_couples.2.1 52 = .ok (.invokevirtual 255, 3) := by decide +kernel
theorem dM_couples_55 : decode YM_couples.2.1 55 = .ok (.iconst (-1), 1) := by decide +kernel
theorem dM_couples_56 : decode YM_couples.2.1 56 = .ok (.if_icmp .eq 7, 3) := by decide +kernel
theorem dM_couples_59 : decode YM_couples.2.1 59 = .ok (.iconst 1, 1) := by decide +kernel
theorem dM_couples_60 : decode YM_couples.2.1 60 = .ok (.goto 4, 3) := by decide +kernel
theorem dM_couples_63 : decode YM_couples.2.1 63 = .ok (.iconst 0, 1) := by decide +kernel
theorem dM_couples_64 : decode YM_couples.2.1 64 = .ok (.iadd, 1) := by decide +kernel
theorem dM_couples_65 : decode YM_couples.2.1 65 = .ok (.istore_n 1, 1) := by decide +kernel
theorem dM_couples_66 : decode YM_couples.2.1 66 = .ok (.iinc 3 1, 3) := by decide +kernel
theorem dM_couples_69 : decode YM_couples.2.1 69 = .ok (.goto (-55), 3) := by decide +kernel
theorem dM_couples_72 : decode YM_couples.2.1 72 = .ok (.iinc 2 1, 3) := by decide +kernel
theorem dM_couples_75 : decode YM_couples.2.1 75 = .ok (.goto (-71), 3) := by decide +kernel
theorem dM_couples_78 : decode YM_couples.2.1 78 = .ok (.iload_n 1, 1) := by decide +kernel
theorem dM_couples_79 : decode YM_couples.2.1 79 = .ok (.ireturn, 1) := by decide +kernel
theorem dM_follow_0 : decode YM_follow.2.1 0 = .ok (.iconst 0, 1) := by decide +kernel
theorem dM_follow_1 : decode YM_follow.2.1 1 = .ok (.istore_n 1, 1) := by decide +kernel
theorem dM_follow_2 : decode YM_follow.2.1 2 = .ok (.iconst 0, 1) := by decide +kernel
theorem dM_follow_3 : decode YM_follow.2.1 3 = .ok (.istore_n 2, 1) := by decide +kernel
theorem dM_follow_4 : decode YM_follow.2.1 4 = .ok (.iload_n 2, 1) := by decide +kernel
theorem dM_follow_5 : decode YM_follow.2.1 5 = .ok (.aload_n 0, 1) := by decide +kernel
theorem dM_follow_6 : decode YM_follow.2.1 6 = .ok (.getfield 262, 3) := by decide +kernel
theorem dM_follow_9 : decode YM_follow.2.1 9 = .ok (.if_icmp .ge 59, 3) := by decide +kernel
theorem dM_follow_12 : decode YM_follow.2.1 12 = .ok (.iconst 0, 1) := by decide +kernel
theorem dM_follow_13 : decode YM_follow.2.1 13 = .ok (.istore_n 3, 1) := by decide +kernel
theorem dM_follow_14 : decode YM_follow.2.1 14 = .ok (.iload_n 2, 1) := by decide +kernel
theorem dM_follow_15 : decode YM_follow.2.1 15 = .ok (.istore 4, 2) := by decide +kernel
theorem dM_follow_17 : decode YM_follow.2.1 17 = .ok (.iload 4, 2) := by decide +kernel
theorem dM_follow_19 : decode YM_follow.2.1 19 = .ok (.iconst (-1), 1) := by decide +kernel
theorem dM_follow_20 : decode YM_follow.2.1 20 = .ok (.if_icmp .eq 33, 3) := by decide +kernel
theorem dM_follow_23 : decode YM_follow.2.1 23 = .ok (.iload_n 3, 1) := by decide +kernel
theorem dM_follow_24 : decode YM_follow.2.1 24 = .ok (.iload 4, 2) := by decide +kernel
theorem dM_follow_26 : decode YM_follow.2.1 26 = .ok (.invokestatic 94, 3) := by decide +kernel
theorem dM_follow_29 : decode YM_follow.2.1 29 = .ok (.ifCond .ne 24, 3) := by decide +kernel
theorem dM_follow_32 : decode YM_follow.2.1 32 = .ok (.iload_n 3, 1) := by decide +kernel
theorem dM_follow_33 : decode YM_follow.2.1 33 = .ok (.iconst 1, 1) := by decide +kernel
theorem dM_follow_34 : decode YM_follow.2.1 34 = .ok (.iload 4, 2) := by decide +kernel
theorem dM_follow_36 : decode YM_follow.2.1 36 = .ok (.ishl, 1) := by decide +kernel
theorem dM_follow_37 : decode YM_follow.2.1 37 = .ok (.ior, 1) := by decide +kernel
theorem dM_follow_38 : decode YM_follow.2.1 38 = .ok (.istore_n 3, 1) := by decide +kernel
theorem dM_follow_39 : decode YM_follow.2.1 39 = .ok (.aload_n 0, 1) := by decide +kernel
theorem dM_follow_40 : decode YM_follow.2.1 40 = .ok (.bipush 39, 2) := by decide +kernel
theorem dM_follow_42 : decode YM_follow.2.1 42 = .ok (.iload 4, 2) := by decide +kernel
theorem dM_follow_44 : decode YM_follow.2.1 44 = .ok (.iadd, 1) := by decide +kernel
theorem dM_follow_45 : decode YM_follow.2.1 45 = .ok (.invokevirtual 255, 3) := by decide +kernel
theorem dM_follow_48 : decode YM_follow.2.1 48 = .ok (.istore 4, 2) := by decide +kernel
theorem dM_follow_50 : decode YM_follow.2.1 50 = .ok (.goto (-33), 3) := by decide +kernel
theorem dM_follow_53 : decode YM_follow.2.1 53 = .ok (.iload_n 1, 1) := by decide +kernel
theorem dM_follow_54 : decode YM_follow.2.1 54 = .ok (.iload_n 3, 1) := by decide +kernel
theorem dM_follow_55 : decode YM_follow.2.1 55 = .ok (.invokestatic 369, 3) := by decide +kernel
theorem dM_follow_58 : decode YM_follow.2.1 58 = .ok (.invokestatic 167, 3) := by decide +kernel
theorem dM_follow_61 : decode YM_follow.2.1 61 = .ok (.istore_n 1, 1) := by decide +kernel
theorem dM_follow_62 : decode YM_follow.2.1 62 = .ok (.iinc 2 1, 3) := by decide +kernel
theorem dM_follow_65 : decode YM_follow.2.1 65 = .ok (.goto (-61), 3) := by decide +kernel
theorem dM_follow_68 : decode YM_follow.2.1 68 = .ok (.iload_n 1, 1) := by decide +kernel
theorem dM_follow_69 : decode YM_follow.2.1 69 = .ok (.ireturn, 1) := by decide +kernel
theorem dM_loose_0 : decode YM_loose.2.1 0 = .ok (.iconst (-1), 1) := by decide +kernel
theorem dM_loose_1 : decode YM_loose.2.1 1 = .ok (.istore_n 1, 1) := by decide +kernel
theorem dM_loose_2 : decode YM_loose.2.1 2 = .ok (.iconst 0, 1) := by decide +kernel
theorem dM_loose_3 : decode YM_loose.2.1 3 = .ok (.istore_n 2, 1) := by decide +kernel
theorem dM_loose_4 : decode YM_loose.2.1 4 = .ok (.iload_n 2, 1) := by decide +kernel
theorem dM_loose_5 : decode YM_loose.2.1 5 = .ok (.iconst 1, 1) := by decide +kernel
theorem dM_loose_6 : decode YM_loose.2.1 6 = .ok (.aload_n 0, 1) := by decide +kernel
theorem dM_loose_7 : decode YM_loose.2.1 7 = .ok (.getfield 262, 3) := by decide +kernel
theorem dM_loose_10 : decode YM_loose.2.1 10 = .ok (.ishl, 1) := by decide +kernel
theorem dM_loose_11 : decode YM_loose.2.1 11 = .ok (.if_icmp .ge 49, 3) := by decide +kernel
theorem dM_loose_14 : decode YM_loose.2.1 14 = .ok (.iload_n 1, 1) := by decide +kernel
theorem dM_loose_15 : decode YM_loose.2.1 15 = .ok (.iconst (-1), 1) := by decide +kernel
theorem dM_loose_16 : decode YM_loose.2.1 16 = .ok (.if_icmp .eq 14, 3) := by decide +kernel
theorem dM_loose_19 : decode YM_loose.2.1 19 = .ok (.iload_n 2, 1) := by decide +kernel
theorem dM_loose_20 : decode YM_loose.2.1 20 = .ok (.invokestatic 369, 3) := by decide +kernel
theorem dM_loose_23 : decode YM_loose.2.1 23 = .ok (.iload_n 1, 1) := by decide +kernel
theorem dM_loose_24 : decode YM_loose.2.1 24 = .ok (.invokestatic 369, 3) := by decide +kernel
theorem dM_loose_27 : decode YM_loose.2.1 27 = .ok (.if_icmp .ge 27, 3) := by decide +kernel
theorem dM_loose_30 : decode YM_loose.2.1 30 = .ok (.aload_n 0, 1) := by decide +kernel
theorem dM_loose_31 : decode YM_loose.2.1 31 = .ok (.bipush 20, 2) := by decide +kernel
theorem dM_loose_33 : decode YM_loose.2.1 33 = .ok (.iload_n 2, 1) := by decide +kernel
theorem dM_loose_34 : decode YM_loose.2.1 34 = .ok (.invokevirtual 405, 3) := by decide +kernel
theorem dM_loose_37 : decode YM_loose.2.1 37 = .ok (.istore_n 3, 1) := by decide +kernel
theorem dM_loose_38 : decode YM_loose.2.1 38 = .ok (.aload_n 0, 1) := by decide +kernel
theorem dM_loose_39 : decode YM_loose.2.1 39 = .ok (.iload_n 3, 1) := by decide +kernel
theorem dM_loose_40 : decode YM_loose.2.1 40 = .ok (.iload_n 2, 1) := by decide +kernel
theorem dM_loose_41 : decode YM_loose.2.1 41 = .ok (.invokevirtual 402, 3) := by decide +kernel
theorem dM_loose_44 : decode YM_loose.2.1 44 = .ok (.iload_n 3, 1) := by decide +kernel
theorem dM_loose_45 : decode YM_loose.2.1 45 = .ok (.if_icmp .ne 7, 3) := by decide +kernel
theorem dM_loose_48 : decode YM_loose.2.1 48 = .ok (.iload_n 2, 1) := by decide +kernel
theorem dM_loose_49 : decode YM_loose.2.1 49 = .ok (.goto 4, 3) := by decide +kernel
theorem dM_loose_52 : decode YM_loose.2.1 52 = .ok (.iload_n 1, 1) := by decide +kernel
theorem dM_loose_53 : decode YM_loose.2.1 53 = .ok (.istore_n 1, 1) := by decide +kernel
theorem dM_loose_54 : decode YM_loose.2.1 54 = .ok (.iinc 2 1, 3) := by decide +kernel
theorem dM_loose_57 : decode YM_loose.2.1 57 = .ok (.goto (-53), 3) := by decide +kernel
theorem dM_loose_60 : decode YM_loose.2.1 60 = .ok (.iload_n 1, 1) := by decide +kernel
theorem dM_loose_61 : decode YM_loose.2.1 61 = .ok (.ireturn, 1) := by decide +kernel
theorem dM_touched_0 : decode YM_touched.2.1 0 = .ok (.iconst 0, 1) := by decide +kernel
theorem dM_touched_1 : decode YM_touched.2.1 1 = .ok (.istore_n 1, 1) := by decide +kernel
theorem dM_touched_2 : decode YM_touched.2.1 2 = .ok (.iconst 0, 1) := by decide +kernel
theorem dM_touched_3 : decode YM_touched.2.1 3 = .ok (.istore_n 2, 1) := by decide +kernel
theorem dM_touched_4 : decode YM_touched.2.1 4 = .ok (.iload_n 2, 1) := by decide +kernel
theorem dM_touched_5 : decode YM_touched.2.1 5 = .ok (.aload_n 0, 1) := by decide +kernel
theorem dM_touched_6 : decode YM_touched.2.1 6 = .ok (.getfield 259, 3) := by decide +kernel
theorem dM_touched_9 : decode YM_touched.2.1 9 = .ok (.if_icmp .ge 36, 3) := by decide +kernel
theorem dM_touched_12 : decode YM_touched.2.1 12 = .ok (.iload_n 1, 1) := by decide +kernel
theorem dM_touched_13 : decode YM_touched.2.1 13 = .ok (.aload_n 0, 1) := by decide +kernel
theorem dM_touched_14 : decode YM_touched.2.1 14 = .ok (.iload_n 2, 1) := by decide +kernel
theorem dM_touched_15 : decode YM_touched.2.1 15 = .ok (.invokevirtual 476, 3) := by decide +kernel
theorem dM_touched_18 : decode YM_touched.2.1 18 = .ok (.aload_n 0, 1) := by decide +kernel
theorem dM_touched_19 : decode YM_touched.2.1 19 = .ok (.iload_n 2, 1) := by decide +kernel
theorem dM_touched_20 : decode YM_touched.2.1 20 = .ok (.aload_n 0, 1) := by decide +kernel
theorem dM_touched_21 : decode YM_touched.2.1 21 = .ok (.iload_n 2, 1) := by decide +kernel
theorem dM_touched_22 : decode YM_touched.2.1 22 = .ok (.invokevirtual 362, 3) := by decide +kernel
theorem dM_touched_25 : decode YM_touched.2.1 25 = .ok (.iconst 1, 1) := by decide +kernel
theorem dM_touched_26 : decode YM_touched.2.1 26 = .ok (.invokevirtual 365, 3) := by decide +kernel
theorem dM_touched_29 : decode YM_touched.2.1 29 = .ok (.if_icmp .eq 7, 3) := by decide +kernel
theorem dM_touched_32 : decode YM_touched.2.1 32 = .ok (.iconst 1, 1) := by decide +kernel
theorem dM_touched_33 : decode YM_touched.2.1 33 = .ok (.goto 4, 3) := by decide +kernel
theorem dM_touched_36 : decode YM_touched.2.1 36 = .ok (.iconst 0, 1) := by decide +kernel
theorem dM_touched_37 : decode YM_touched.2.1 37 = .ok (.iadd, 1) := by decide +kernel
theorem dM_touched_38 : decode YM_touched.2.1 38 = .ok (.istore_n 1, 1) := by decide +kernel
theorem dM_touched_39 : decode YM_touched.2.1 39 = .ok (.iinc 2 1, 3) := by decide +kernel
theorem dM_touched_42 : decode YM_touched.2.1 42 = .ok (.goto (-38), 3) := by decide +kernel
theorem dM_touched_45 : decode YM_touched.2.1 45 = .ok (.iload_n 1, 1) := by decide +kernel
theorem dM_touched_46 : decode YM_touched.2.1 46 = .ok (.ireturn, 1) := by decide +kernel
theorem dM_ranked_0 : decode YM_ranked.2.1 0 = .ok (.iconst 0, 1) := by decide +kernel
theorem dM_ranked_1 : decode YM_ranked.2.1 1 = .ok (.istore_n 2, 1) := by decide +kernel
theorem dM_ranked_2 : decode YM_ranked.2.1 2 = .ok (.iload_n 2, 1) := by decide +kernel
theorem dM_ranked_3 : decode YM_ranked.2.1 3 = .ok (.aload_n 0, 1) := by decide +kernel
theorem dM_ranked_4 : decode YM_ranked.2.1 4 = .ok (.getfield 259, 3) := by decide +kernel
theorem dM_ranked_7 : decode YM_ranked.2.1 7 = .ok (.if_icmp .ge 20, 3) := by decide +kernel
theorem dM_ranked_10 : decode YM_ranked.2.1 10 = .ok (.aload_n 0, 1) := by decide +kernel
theorem dM_ranked_11 : decode YM_ranked.2.1 11 = .ok (.getfield 84, 3) := by decide +kernel
theorem dM_ranked_14 : decode YM_ranked.2.1 14 = .ok (.iload_n 2, 1) := by decide +kernel
theorem dM_ranked_15 : decode YM_ranked.2.1 15 = .ok (.aload_n 0, 1) := by decide +kernel
theorem dM_ranked_16 : decode YM_ranked.2.1 16 = .ok (.iload_n 2, 1) := by decide +kernel
theorem dM_ranked_17 : decode YM_ranked.2.1 17 = .ok (.invokevirtual 476, 3) := by decide +kernel
theorem dM_ranked_20 : decode YM_ranked.2.1 20 = .ok (.iastore, 1) := by decide +kernel
theorem dM_ranked_21 : decode YM_ranked.2.1 21 = .ok (.iinc 2 1, 3) := by decide +kernel
theorem dM_ranked_24 : decode YM_ranked.2.1 24 = .ok (.goto (-22), 3) := by decide +kernel
theorem dM_ranked_27 : decode YM_ranked.2.1 27 = .ok (.iconst 0, 1) := by decide +kernel
theorem dM_ranked_28 : decode YM_ranked.2.1 28 = .ok (.istore_n 2, 1) := by decide +kernel
theorem dM_ranked_29 : decode YM_ranked.2.1 29 = .ok (.iload_n 2, 1) := by decide +kernel
theorem dM_ranked_30 : decode YM_ranked.2.1 30 = .ok (.aload_n 0, 1) := by decide +kernel
theorem dM_ranked_31 : decode YM_ranked.2.1 31 = .ok (.getfield 259, 3) := by decide +kernel
theorem dM_ranked_34 : decode YM_ranked.2.1 34 = .ok (.if_icmp .ge 82, 3) := by decide +kernel
theorem dM_ranked_37 : decode YM_ranked.2.1 37 = .ok (.iconst 0, 1) := by decide +kernel
theorem dM_ranked_38 : decode YM_ranked.2.1 38 = .ok (.istore_n 3, 1) := by decide +kernel
theorem dM_ranked_39 : decode YM_ranked.2.1 39 = .ok (.iconst 0, 1) := by decide +kernel
theorem dM_ranked_40 : decode YM_ranked.2.1 40 = .ok (.istore 4, 2) := by decide +kernel
theorem dM_ranked_42 : decode YM_ranked.2.1 42 = .ok (.iload 4, 2) := by decide +kernel
theorem dM_ranked_44 : decode YM_ranked.2.1 44 = .ok (.aload_n 0, 1) := by decide +kernel
theorem dM_ranked_45 : decode YM_ranked.2.1 45 = .ok (.getfield 259, 3) := by decide +kernel
theorem dM_ranked_48 : decode YM_ranked.2.1 48 = .ok (.if_icmp .ge 55, 3) := by decide +kernel
theorem dM_ranked_51 : decode YM_ranked.2.1 51 = .ok (.iload_n 3, 1) := by decide +kernel
theorem dM_ranked_52 : decode YM_ranked.2.1 52 = .ok (.aload_n 0, 1) := by decide +kernel
theorem dM_ranked_53 : decode YM_ranked.2.1 53 = .ok (.getfield 84, 3) := by decide +kernel
theorem dM_ranked_56 : decode YM_ranked.2.1 56 = .ok (.iload 4, 2) := by decide +kernel
theorem dM_ranked_58 : decode YM_ranked.2.1 58 = .ok (.iaload, 1) := by decide +kernel
theorem dM_ranked_59 : decode YM_ranked.2.1 59 = .ok (.aload_n 0, 1) := by decide +kernel
theorem dM_ranked_60 : decode YM_ranked.2.1 60 = .ok (.getfield 84, 3) := by decide +kernel
theorem dM_ranked_63 : decode YM_ranked.2.1 63 = .ok (.iload_n 2, 1) := by decide +kernel
theorem dM_ranked_64 : decode YM_ranked.2.1 64 = .ok (.iaload, 1) := by decide +kernel
theorem dM_ranked_65 : decode YM_ranked.2.1 65 = .ok (.if_icmp .gt 25, 3) := by decide +kernel
theorem dM_ranked_68 : decode YM_ranked.2.1 68 = .ok (.aload_n 0, 1) := by decide +kernel
theorem dM_ranked_69 : decode YM_ranked.2.1 69 = .ok (.getfield 84, 3) := by decide +kernel
theorem dM_ranked_72 : decode YM_ranked.2.1 72 = .ok (.iload 4, 2) := by decide +kernel
theorem dM_ranked_74 : decode YM_ranked.2.1 74 = .ok (.iaload, 1) := by decide +kernel
theorem dM_ranked_75 : decode YM_ranked.2.1 75 = .ok (.aload_n 0, 1) := by decide +kernel
theorem dM_ranked_76 : decode YM_ranked.2.1 76 = .ok (.getfield 84, 3) := by decide +kernel
theorem dM_ranked_79 : decode YM_ranked.2.1 79 = .ok (.iload_n 2, 1) := by decide +kernel
theorem dM_ranked_80 : decode YM_ranked.2.1 80 = .ok (.iaload, 1) := by decide +kernel
theorem dM_ranked_81 : decode YM_ranked.2.1 81 = .ok (.if_icmp .ne 13, 3) := by decide +kernel
theorem dM_ranked_84 : decode YM_ranked.2.1 84 = .ok (.iload 4, 2) := by decide +kernel
theorem dM_ranked_86 : decode YM_ranked.2.1 86 = .ok (.iload_n 2, 1) := by decide +kernel
theorem dM_ranked_87 : decode YM_ranked.2.1 87 = .ok (.if_icmp .ge 7, 3) := by decide +kernel
theorem dM_ranked_90 : decode YM_ranked.2.1 90 = .ok (.iconst 1, 1) := by decide +kernel
theorem dM_ranked_91 : decode YM_ranked.2.1 91 = .ok (.goto 4, 3) := by decide +kernel
theorem dM_ranked_94 : decode YM_ranked.2.1 94 = .ok (.iconst 0, 1) := by decide +kernel
theorem dM_ranked_95 : decode YM_ranked.2.1 95 = .ok (.iadd, 1) := by decide +kernel
theorem dM_ranked_96 : decode YM_ranked.2.1 96 = .ok (.istore_n 3, 1) := by decide +kernel
theorem dM_ranked_97 : decode YM_ranked.2.1 97 = .ok (.iinc 4 1, 3) := by decide +kernel
theorem dM_ranked_100 : decode YM_ranked.2.1 100 = .ok (.goto (-58), 3) := by decide +kernel
theorem dM_ranked_103 : decode YM_ranked.2.1 103 = .ok (.iload_n 3, 1) := by decide +kernel
theorem dM_ranked_104 : decode YM_ranked.2.1 104 = .ok (.iload_n 1, 1) := by decide +kernel
theorem dM_ranked_105 : decode YM_ranked.2.1 105 = .ok (.if_icmp .ne 5, 3) := by decide +kernel
theorem dM_ranked_108 : decode YM_ranked.2.1 108 = .ok (.iload_n 2, 1) := by decide +kernel
theorem dM_ranked_109 : decode YM_ranked.2.1 109 = .ok (.ireturn, 1) := by decide +kernel
theorem dM_ranked_110 : decode YM_ranked.2.1 110 = .ok (.iinc 2 1, 3) := by decide +kernel
theorem dM_ranked_113 : decode YM_ranked.2.1 113 = .ok (.goto (-84), 3) := by decide +kernel
theorem dM_ranked_116 : decode YM_ranked.2.1 116 = .ok (.iconst (-1), 1) := by decide +kernel
theorem dM_ranked_117 : decode YM_ranked.2.1 117 = .ok (.ireturn, 1) := by decide +kernel
theorem dM_ruled_0 : decode YM_ruled.2.1 0 = .ok (.aload_n 0, 1) := by decide +kernel
theorem dM_ruled_1 : decode YM_ruled.2.1 1 = .ok (.iconst 0, 1) := by decide +kernel
theorem dM_ruled_2 : decode YM_ruled.2.1 2 = .ok (.putfield 90, 3) := by decide +kernel
theorem dM_ruled_5 : decode YM_ruled.2.1 5 = .ok (.aload_n 0, 1) := by decide +kernel
theorem dM_ruled_6 : decode YM_ruled.2.1 6 = .ok (.iload_n 1, 1) := by decide +kernel
theorem dM_ruled_7 : decode YM_ruled.2.1 7 = .ok (.invokevirtual 277, 3) := by decide +kernel
theorem dM_ruled_10 : decode YM_ruled.2.1 10 = .ok (.ifCond .ne 5, 3) := by decide +kernel
theorem dM_ruled_13 : decode YM_ruled.2.1 13 = .ok (.iconst (-1), 1) := by decide +kernel
theorem dM_ruled_14 : decode YM_ruled.2.1 14 = .ok (.ireturn, 1) := by decide +kernel
theorem dM_ruled_15 : decode YM_ruled.2.1 15 = .ok (.iload_n 2, 1) := by decide +kernel
theorem dM_ruled_16 : decode YM_ruled.2.1 16 = .ok (.tableswitch 52 0 3 #[32, 37, 42, 47], 32) := by decide +kernel
theorem dM_ruled_48 : decode YM_ruled.2.1 48 = .ok (.aload_n 0, 1) := by decide +kernel
theorem dM_ruled_49 : decode YM_ruled.2.1 49 = .ok (.invokevirtual 491, 3) := by decide +kernel
theorem dM_ruled_52 : decode YM_ruled.2.1 52 = .ok (.ireturn, 1) := by decide +kernel
theorem dM_ruled_53 : decode YM_ruled.2.1 53 = .ok (.aload_n 0, 1) := by decide +kernel
theorem dM_ruled_54 : decode YM_ruled.2.1 54 = .ok (.invokevirtual 494, 3) := by decide +kernel
theorem dM_ruled_57 : decode YM_ruled.2.1 57 = .ok (.ireturn, 1) := by decide +kernel
theorem dM_ruled_58 : decode YM_ruled.2.1 58 = .ok (.aload_n 0, 1) := by decide +kernel
theorem dM_ruled_59 : decode YM_ruled.2.1 59 = .ok (.invokevirtual 497, 3) := by decide +kernel
theorem dM_ruled_62 : decode YM_ruled.2.1 62 = .ok (.ireturn, 1) := by decide +kernel
theorem dM_ruled_63 : decode YM_ruled.2.1 63 = .ok (.aload_n 0, 1) := by decide +kernel
theorem dM_ruled_64 : decode YM_ruled.2.1 64 = .ok (.invokevirtual 500, 3) := by decide +kernel
theorem dM_ruled_67 : decode YM_ruled.2.1 67 = .ok (.ireturn, 1) := by decide +kernel
theorem dM_ruled_68 : decode YM_ruled.2.1 68 = .ok (.iload_n 2, 1) := by decide +kernel
theorem dM_ruled_69 : decode YM_ruled.2.1 69 = .ok (.bipush 10, 2) := by decide +kernel
theorem dM_ruled_71 : decode YM_ruled.2.1 71 = .ok (.if_icmp .ge 7, 3) := by decide +kernel
theorem dM_ruled_74 : decode YM_ruled.2.1 74 = .ok (.iconst (-1), 1) := by decide +kernel
theorem dM_ruled_75 : decode YM_ruled.2.1 75 = .ok (.goto 11, 3) := by decide +kernel
theorem dM_ruled_78 : decode YM_ruled.2.1 78 = .ok (.aload_n 0, 1) := by decide +kernel
theorem dM_ruled_79 : decode YM_ruled.2.1 79 = .ok (.iload_n 2, 1) := by decide +kernel
theorem dM_ruled_80 : decode YM_ruled.2.1 80 = .ok (.bipush 10, 2) := by decide +kernel
theorem dM_ruled_82 : decode YM_ruled.2.1 82 = .ok (.isub, 1) := by decide +kernel
theorem dM_ruled_83 : decode YM_ruled.2.1 83 = .ok (.invokevirtual 503, 3) := by decide +kernel
theorem dM_ruled_86 : decode YM_ruled.2.1 86 = .ok (.ireturn, 1) := by decide +kernel
theorem dM_after_0 : decode YM_after.2.1 0 = .ok (.aload_n 0, 1) := by decide +kernel
theorem dM_after_1 : decode YM_after.2.1 1 = .ok (.iconst 0, 1) := by decide +kernel
theorem dM_after_2 : decode YM_after.2.1 2 = .ok (.putfield 90, 3) := by decide +kernel
theorem dM_after_5 : decode YM_after.2.1 5 = .ok (.aload_n 0, 1) := by decide +kernel
theorem dM_after_6 : decode YM_after.2.1 6 = .ok (.iload_n 1, 1) := by decide +kernel
theorem dM_after_7 : decode YM_after.2.1 7 = .ok (.iload_n 2, 1) := by decide +kernel
theorem dM_after_8 : decode YM_after.2.1 8 = .ok (.invokevirtual 337, 3) := by decide +kernel
theorem dM_after_11 : decode YM_after.2.1 11 = .ok (.ifCond .eq 12, 3) := by decide +kernel
theorem dM_after_14 : decode YM_after.2.1 14 = .ok (.iload_n 3, 1) := by decide +kernel
theorem dM_after_15 : decode YM_after.2.1 15 = .ok (.iconst 0, 1) := by decide +kernel
theorem dM_after_16 : decode YM_after.2.1 16 = .ok (.iconst 3, 1) := by decide +kernel
theorem dM_after_17 : decode YM_after.2.1 17 = .ok (.invokestatic 102, 3) := by decide +kernel
theorem dM_after_20 : decode YM_after.2.1 20 = .ok (.ifCond .ne 7, 3) := by decide +kernel
theorem dM_after_23 : decode YM_after.2.1 23 = .ok (.sipush (-1000), 3) := by decide +kernel
theorem dM_after_26 : decode YM_after.2.1 26 = .ok (.ireturn, 1) := by decide +kernel
theorem dM_after_27 : decode YM_after.2.1 27 = .ok (.aload_n 0, 1) := by decide +kernel
theorem dM_after_28 : decode YM_after.2.1 28 = .ok (.invokevirtual 331, 3) := by decide +kernel
theorem dM_after_31 : decode YM_after.2.1 31 = .ok (.iconst (-1), 1) := by decide +kernel
theorem dM_after_32 : decode YM_after.2.1 32 = .ok (.istore 4, 2) := by decide +kernel
theorem dM_after_34 : decode YM_after.2.1 34 = .ok (.ldc_w 349, 3) := by decide +kernel
theorem dM_after_37 : decode YM_after.2.1 37 = .ok (.istore 5, 2) := by decide +kernel
theorem dM_after_39 : decode YM_after.2.1 39 = .ok (.iconst 1, 1) := by decide +kernel
theorem dM_after_40 : decode YM_after.2.1 40 = .ok (.istore 6, 2) := by decide +kernel
theorem dM_after_42 : decode YM_after.2.1 42 = .ok (.iconst 0, 1) := by decide +kernel
theorem dM_after_43 : decode YM_after.2.1 43 = .ok (.istore 7, 2) := by decide +kernel
theorem dM_after_45 : decode YM_after.2.1 45 = .ok (.iload 6, 2) := by decide +kernel
theorem dM_after_47 : decode YM_after.2.1 47 = .ok (.ifCond .eq 106, 3) := by decide +kernel
theorem dM_after_50 : decode YM_after.2.1 50 = .ok (.iconst 0, 1) := by decide +kernel
theorem dM_after_51 : decode YM_after.2.1 51 = .ok (.istore 8, 2) := by decide +kernel
theorem dM_after_53 : decode YM_after.2.1 53 = .ok (.iload 8, 2) := by decide +kernel
theorem dM_after_55 : decode YM_after.2.1 55 = .ok (.aload_n 0, 1) := by decide +kernel
theorem dM_after_56 : decode YM_after.2.1 56 = .ok (.getfield 259, 3) := by decide +kernel
theorem dM_after_59 : decode YM_after.2.1 59 = .ok (.if_icmp .ge 63, 3) := by decide +kernel
theorem dM_after_62 : decode YM_after.2.1 62 = .ok (.aload_n 0, 1) := by decide +kernel
theorem dM_after_63 : decode YM_after.2.1 63 = .ok (.getfield 44, 3) := by decide +kernel
theorem dM_after_66 : decode YM_after.2.1 66 = .ok (.iload 8, 2) := by decide +kernel
theorem dM_after_68 : decode YM_after.2.1 68 = .ok (.iaload, 1) := by decide +kernel
theorem dM_after_69 : decode YM_after.2.1 69 = .ok (.iload 5, 2) := by decide +kernel
theorem dM_after_71 : decode YM_after.2.1 71 = .ok (.if_icmp .lt 22, 3) := by decide +kernel
theorem dM_after_74 : decode YM_after.2.1 74 = .ok (.aload_n 0, 1) := by decide +kernel
theorem dM_after_75 : decode YM_after.2.1 75 = .ok (.getfield 44, 3) := by decide +kernel
theorem dM_after_78 : decode YM_after.2.1 78 = .ok (.iload 8, 2) := by decide +kernel
theorem dM_after_80 : decode YM_after.2.1 80 = .ok (.iaload, 1) := by decide +kernel
theorem dM_after_81 : decode YM_after.2.1 81 = .ok (.iload 5, 2) := by decide +kernel
theorem dM_after_83 : decode YM_after.2.1 83 = .ok (.if_icmp .ne 15, 3) := by decide +kernel
theorem dM_after_86 : decode YM_after.2.1 86 = .ok (.iload 8, 2) := by decide +kernel
theorem dM_after_88 : decode YM_after.2.1 88 = .ok (.iload 4, 2) := by decide +kernel
theorem dM_after_90 : decode YM_after.2.1 90 = .ok (.if_icmp .ge 8, 3) := by decide +kernel
theorem dM_after_93 : decode YM_after.2.1 93 = .ok (.iload 8, 2) := by decide +kernel
theorem dM_after_95 : decode YM_after.2.1 95 = .ok (.goto 5, 3) := by decide +kernel
theorem dM_after_98 : decode YM_after.2.1 98 = .ok (.iload 4, 2) := by decide +kernel
theorem dM_after_100 : decode YM_after.2.1 100 = .ok (.istore 4, 2) := by decide +kernel
theorem dM_after_102 : decode YM_after.2.1 102 = .ok (.iload 5, 2) := by decide +kernel
theorem dM_after_104 : decode YM_after.2.1 104 = .ok (.aload_n 0, 1) := by decide +kernel
theorem dM_after_105 : decode YM_after.2.1 105 = .ok (.getfield 44, 3) := by decide +kernel
theorem dM_after_108 : decode YM_after.2.1 108 = .ok (.iload 8, 2) := by decide +kernel
theorem dM_after_110 : decode YM_after.2.1 110 = .ok (.iaload, 1) := by decide +kernel
theorem dM_after_111 : decode YM_after.2.1 111 = .ok (.invokestatic 355, 3) := by decide +kernel
theorem dM_after_114 : decode YM_after.2.1 114 = .ok (.istore 5, 2) := by decide +kernel
theorem dM_after_116 : decode YM_after.2.1 116 = .ok (.iinc 8 1, 3) := by decide +kernel
theorem dM_after_119 : decode YM_after.2.1 119 = .ok (.goto (-66), 3) := by decide +kernel
theorem dM_after_122 : decode YM_after.2.1 122 = .ok (.iload 7, 2) := by decide +kernel
theorem dM_after_124 : decode YM_after.2.1 124 = .ok (.aload_n 0, 1) := by decide +kernel
theorem dM_after_125 : decode YM_after.2.1 125 = .ok (.invokevirtual 292, 3) := by decide +kernel
theorem dM_after_128 : decode YM_after.2.1 128 = .ok (.if_icmp .ge 16, 3) := by decide +kernel
theorem dM_after_131 : decode YM_after.2.1 131 = .ok (.aload_n 0, 1) := by decide +kernel
theorem dM_after_132 : decode YM_after.2.1 132 = .ok (.iload 7, 2) := by decide +kernel
theorem dM_after_134 : decode YM_after.2.1 134 = .ok (.invokevirtual 334, 3) := by decide +kernel
theorem dM_after_137 : decode YM_after.2.1 137 = .ok (.ifCond .eq 7, 3) := by decide +kernel
theorem dM_after_140 : decode YM_after.2.1 140 = .ok (.iconst 1, 1) := by decide +kernel
theorem dM_after_141 : decode YM_after.2.1 141 = .ok (.goto 4, 3) := by decide +kernel
theorem dM_after_144 : decode YM_after.2.1 144 = .ok (.iconst 0, 1) := by decide +kernel
theorem dM_after_145 : decode YM_after.2.1 145 = .ok (.istore 6, 2) := by decide +kernel
theorem dM_after_147 : decode YM_after.2.1 147 = .ok (.iinc 7 1, 3) := by decide +kernel
theorem dM_after_150 : decode YM_after.2.1 150 = .ok (.goto (-105), 3) := by decide +kernel
theorem dM_after_153 : decode YM_after.2.1 153 = .ok (.iload_n 3, 1) := by decide +kernel
theorem dM_after_154 : decode YM_after.2.1 154 = .ok (.ifCond .ne 8, 3) := by decide +kernel
theorem dM_after_157 : decode YM_after.2.1 157 = .ok (.iload 4, 2) := by decide +kernel
theorem dM_after_159 : decode YM_after.2.1 159 = .ok (.goto 29, 3) := by decide +kernel
theorem dM_after_162 : decode YM_after.2.1 162 = .ok (.iload_n 3, 1) := by decide +kernel
theorem dM_after_163 : decode YM_after.2.1 163 = .ok (.iconst 1, 1) := by decide +kernel
theorem dM_after_164 : decode YM_after.2.1 164 = .ok (.if_icmp .ne 8, 3) := by decide +kernel
theorem dM_after_167 : decode YM_after.2.1 167 = .ok (.iload 5, 2) := by decide +kernel
theorem dM_after_169 : decode YM_after.2.1 169 = .ok (.goto 19, 3) := by decide +kernel
theorem dM_after_172 : decode YM_after.2.1 172 = .ok (.iload_n 3, 1) := by decide +kernel
theorem dM_after_173 : decode YM_after.2.1 173 = .ok (.iconst 2, 1) := by decide +kernel
theorem dM_after_174 : decode YM_after.2.1 174 = .ok (.if_icmp .ne 10, 3) := by decide +kernel
theorem dM_after_177 : decode YM_after.2.1 177 = .ok (.aload_n 0, 1) := by decide +kernel
theorem dM_after_178 : decode YM_after.2.1 178 = .ok (.getfield 310, 3) := by decide +kernel
theorem dM_after_181 : decode YM_after.2.1 181 = .ok (.goto 7, 3) := by decide +kernel
theorem dM_after_184 : decode YM_after.2.1 184 = .ok (.aload_n 0, 1) := by decide +kernel
theorem dM_after_185 : decode YM_after.2.1 185 = .ok (.getfield 313, 3) := by decide +kernel
theorem dM_after_188 : decode YM_after.2.1 188 = .ok (.ireturn, 1) := by decide +kernel
theorem dM_then_0 : decode YM_then.2.1 0 = .ok (.aload_n 0, 1) := by decide +kernel
theorem dM_then_1 : decode YM_then.2.1 1 = .ok (.iconst 0, 1) := by decide +kernel
theorem dM_then_2 : decode YM_then.2.1 2 = .ok (.putfield 90, 3) := by decide +kernel
theorem dM_then_5 : decode YM_then.2.1 5 = .ok (.aload_n 0, 1) := by decide +kernel
theorem dM_then_6 : decode YM_then.2.1 6 = .ok (.iload_n 1, 1) := by decide +kernel
theorem dM_then_7 : decode YM_then.2.1 7 = .ok (.iload_n 2, 1) := by decide +kernel
theorem dM_then_8 : decode YM_then.2.1 8 = .ok (.invokevirtual 456, 3) := by decide +kernel
theorem dM_then_11 : decode YM_then.2.1 11 = .ok (.ifCond .eq 26, 3) := by decide +kernel
theorem dM_then_14 : decode YM_then.2.1 14 = .ok (.iload_n 3, 1) := by decide +kernel
theorem dM_then_15 : decode YM_then.2.1 15 = .ok (.iconst 0, 1) := by decide +kernel
theorem dM_then_16 : decode YM_then.2.1 16 = .ok (.aload_n 0, 1) := by decide +kernel
theorem dM_then_17 : decode YM_then.2.1 17 = .ok (.getfield 447, 3) := by decide +kernel
theorem dM_then_20 : decode YM_then.2.1 20 = .ok (.iconst 1, 1) := by decide +kernel
theorem dM_then_21 : decode YM_then.2.1 21 = .ok (.isub, 1) := by decide +kernel
theorem dM_then_22 : decode YM_then.2.1 22 = .ok (.invokestatic 102, 3) := by decide +kernel
theorem dM_then_25 : decode YM_then.2.1 25 = .ok (.ifCond .eq 12, 3) := by decide +kernel
theorem dM_then_28 : decode YM_then.2.1 28 = .ok (.aload_n 0, 1) := by decide +kernel
theorem dM_then_29 : decode YM_then.2.1 29 = .ok (.iload 4, 2) := by decide +kernel
theorem dM_then_31 : decode YM_then.2.1 31 = .ok (.invokevirtual 322, 3) := by decide +kernel
theorem dM_then_34 : decode YM_then.2.1 34 = .ok (.ifCond .ne 7, 3) := by decide +kernel
theorem dM_then_37 : decode YM_then.2.1 37 = .ok (.sipush (-1000), 3) := by decide +kernel
theorem dM_then_40 : decode YM_then.2.1 40 = .ok (.ireturn, 1) := by decide +kernel
theorem dM_then_41 : decode YM_then.2.1 41 = .ok (.aload_n 0, 1) := by decide +kernel
theorem dM_then_42 : decode YM_then.2.1 42 = .ok (.aload_n 0, 1) := by decide +kernel
theorem dM_then_43 : decode YM_then.2.1 43 = .ok (.getfield 75, 3) := by decide +kernel
theorem dM_then_46 : decode YM_then.2.1 46 = .ok (.iload_n 3, 1) := by decide +kernel
theorem dM_then_47 : decode YM_then.2.1 47 = .ok (.iaload, 1) := by decide +kernel
theorem dM_then_48 : decode YM_then.2.1 48 = .ok (.invokevirtual 444, 3) := by decide +kernel
theorem dM_then_51 : decode YM_then.2.1 51 = .ok (.aload_n 0, 1) := by decide +kernel
theorem dM_then_52 : decode YM_then.2.1 52 = .ok (.getfield 44, 3) := by decide +kernel
theorem dM_then_55 : decode YM_then.2.1 55 = .ok (.iload 4, 2) := by decide +kernel
theorem dM_then_57 : decode YM_then.2.1 57 = .ok (.iaload, 1) := by decide +kernel
theorem dM_then_58 : decode YM_then.2.1 58 = .ok (.ireturn, 1) := by decide +kernel
theorem dM_count_0 : decode YM_count.2.1 0 = .ok (.aload_n 0, 1) := by decide +kernel
theorem dM_count_1 : decode YM_count.2.1 1 = .ok (.iconst 0, 1) := by decide +kernel
theorem dM_count_2 : decode YM_count.2.1 2 = .ok (.putfield 90, 3) := by decide +kernel
theorem dM_count_5 : decode YM_count.2.1 5 = .ok (.iload_n 1, 1) := by decide +kernel
theorem dM_count_6 : decode YM_count.2.1 6 = .ok (.iconst 0, 1) := by decide +kernel
theorem dM_count_7 : decode YM_count.2.1 7 = .ok (.iconst 2, 1) := by decide +kernel
theorem dM_count_8 : decode YM_count.2.1 8 = .ok (.invokestatic 102, 3) := by decide +kernel
theorem dM_count_11 : decode YM_count.2.1 11 = .ok (.ifCond .eq 12, 3) := by decide +kernel
theorem dM_count_14 : decode YM_count.2.1 14 = .ok (.aload_n 0, 1) := by decide +kernel
theorem dM_count_15 : decode YM_count.2.1 15 = .ok (.getfield 23, 3) := by decide +kernel
theorem dM_count_18 : decode YM_count.2.1 18 = .ok (.iload_n 1, 1) := by decide +kernel
theorem dM_count_19 : decode YM_count.2.1 19 = .ok (.iaload, 1) := by decide +kernel
theorem dM_count_20 : decode YM_count.2.1 20 = .ok (.goto 5, 3) := by decide +kernel
theorem dM_count_23 : decode YM_count.2.1 23 = .ok (.bipush (-2), 2) := by decide +kernel
theorem dM_count_25 : decode YM_count.2.1 25 = .ok (.ireturn, 1) := by decide +kernel
theorem dM_image_0 : decode YM_image.2.1 0 = .ok (.aload_n 0, 1) := by decide +kernel
theorem dM_image_1 : decode YM_image.2.1 1 = .ok (.iconst 0, 1) := by decide +kernel
theorem dM_image_2 : decode YM_image.2.1 2 = .ok (.putfield 90, 3) := by decide +kernel
theorem dM_image_5 : decode YM_image.2.1 5 = .ok (.iload_n 1, 1) := by decide +kernel
theorem dM_image_6 : decode YM_image.2.1 6 = .ok (.iconst 0, 1) := by decide +kernel
theorem dM_image_7 : decode YM_image.2.1 7 = .ok (.iconst 2, 1) := by decide +kernel
theorem dM_image_8 : decode YM_image.2.1 8 = .ok (.invokestatic 102, 3) := by decide +kernel
theorem dM_image_11 : decode YM_image.2.1 11 = .ok (.ifCond .ne 5, 3) := by decide +kernel
theorem dM_image_14 : decode YM_image.2.1 14 = .ok (.iconst 0, 1) := by decide +kernel
theorem dM_image_15 : decode YM_image.2.1 15 = .ok (.ireturn, 1) := by decide +kernel
theorem dM_image_16 : decode YM_image.2.1 16 = .ok (.aload_n 0, 1) := by decide +kernel
theorem dM_image_17 : decode YM_image.2.1 17 = .ok (.iconst 0, 1) := by decide +kernel
theorem dM_image_18 : decode YM_image.2.1 18 = .ok (.iload_n 1, 1) := by decide +kernel
theorem dM_image_19 : decode YM_image.2.1 19 = .ok (.iconst 1, 1) := by decide +kernel
theorem dM_image_20 : decode YM_image.2.1 20 = .ok (.iadd, 1) := by decide +kernel
theorem dM_image_21 : decode YM_image.2.1 21 = .ok (.invokevirtual 506, 3) := by decide +kernel
theorem dM_image_24 : decode YM_image.2.1 24 = .ok (.aload_n 0, 1) := by decide +kernel
theorem dM_image_25 : decode YM_image.2.1 25 = .ok (.getfield 87, 3) := by decide +kernel
theorem dM_image_28 : decode YM_image.2.1 28 = .ok (.iload_n 1, 1) := by decide +kernel
theorem dM_image_29 : decode YM_image.2.1 29 = .ok (.iconst 1, 1) := by decide +kernel
theorem dM_image_30 : decode YM_image.2.1 30 = .ok (.bastore, 1) := by decide +kernel
theorem dM_image_31 : decode YM_image.2.1 31 = .ok (.iconst 1, 1) := by decide +kernel
theorem dM_image_32 : decode YM_image.2.1 32 = .ok (.ireturn, 1) := by decide +kernel
theorem dM_again_0 : decode YM_again.2.1 0 = .ok (.aload_n 0, 1) := by decide +kernel
theorem dM_again_1 : decode YM_again.2.1 1 = .ok (.iconst 0, 1) := by decide +kernel
theorem dM_again_2 : decode YM_again.2.1 2 = .ok (.putfield 90, 3) := by decide +kernel
theorem dM_again_5 : decode YM_again.2.1 5 = .ok (.iload_n 1, 1) := by decide +kernel
theorem dM_again_6 : decode YM_again.2.1 6 = .ok (.iconst 0, 1) := by decide +kernel
theorem dM_again_7 : decode YM_again.2.1 7 = .ok (.iconst 2, 1) := by decide +kernel
theorem dM_again_8 : decode YM_again.2.1 8 = .ok (.invokestatic 102, 3) := by decide +kernel
theorem dM_again_11 : decode YM_again.2.1 11 = .ok (.ifCond .eq 12, 3) := by decide +kernel
theorem dM_again_14 : decode YM_again.2.1 14 = .ok (.aload_n 0, 1) := by decide +kernel
theorem dM_again_15 : decode YM_again.2.1 15 = .ok (.getfield 87, 3) := by decide +kernel
theorem dM_again_18 : decode YM_again.2.1 18 = .ok (.iload_n 1, 1) := by decide +kernel
theorem dM_again_19 : decode YM_again.2.1 19 = .ok (.baload, 1) := by decide +kernel
theorem dM_again_20 : decode YM_again.2.1 20 = .ok (.ifCond .ne 5, 3) := by decide +kernel
theorem dM_again_23 : decode YM_again.2.1 23 = .ok (.iconst 0, 1) := by decide +kernel
theorem dM_again_24 : decode YM_again.2.1 24 = .ok (.ireturn, 1) := by decide +kernel
theorem dM_again_25 : decode YM_again.2.1 25 = .ok (.aload_n 0, 1) := by decide +kernel
theorem dM_again_26 : decode YM_again.2.1 26 = .ok (.iload_n 1, 1) := by decide +kernel
theorem dM_again_27 : decode YM_again.2.1 27 = .ok (.iconst 1, 1) := by decide +kernel
theorem dM_again_28 : decode YM_again.2.1 28 = .ok (.iadd, 1) := by decide +kernel
theorem dM_again_29 : decode YM_again.2.1 29 = .ok (.iconst 0, 1) := by decide +kernel
theorem dM_again_30 : decode YM_again.2.1 30 = .ok (.invokevirtual 506, 3) := by decide +kernel
theorem dM_again_33 : decode YM_again.2.1 33 = .ok (.iconst 1, 1) := by decide +kernel
theorem dM_again_34 : decode YM_again.2.1 34 = .ok (.ireturn, 1) := by decide +kernel
theorem dBags_init_0 : decode YBags_init.2.1 0 = .ok (.aload_n 0, 1) := by decide +kernel
theorem dBags_init_1 : decode YBags_init.2.1 1 = .ok (.invokespecial 3, 3) := by decide +kernel
theorem dBags_init_4 : decode YBags_init.2.1 4 = .ok (.aload_n 0, 1) := by decide +kernel
theorem dBags_init_5 : decode YBags_init.2.1 5 = .ok (.bipush 10, 2) := by decide +kernel
theorem dBags_init_7 : decode YBags_init.2.1 7 = .ok (.newarray .int, 2) := by decide +kernel
theorem dBags_init_9 : decode YBags_init.2.1 9 = .ok (.putfield 9, 3) := by decide +kernel
theorem dBags_init_12 : decode YBags_init.2.1 12 = .ok (.aload_n 0, 1) := by decide +kernel
theorem dBags_init_13 : decode YBags_init.2.1 13 = .ok (.bipush 10, 2) := by decide +kernel
theorem dBags_init_15 : decode YBags_init.2.1 15 = .ok (.newarray .int, 2) := by decide +kernel
theorem dBags_init_17 : decode YBags_init.2.1 17 = .ok (.putfield 15, 3) := by decide +kernel
theorem dBags_init_20 : decode YBags_init.2.1 20 = .ok (.aload_n 0, 1) := by decide +kernel
theorem dBags_init_21 : decode YBags_init.2.1 21 = .ok (.bipush 60, 2) := by decide +kernel
theorem dBags_init_23 : decode YBags_init.2.1 23 = .ok (.newarray .int, 2) := by decide +kernel
theorem dBags_init_25 : decode YBags_init.2.1 25 = .ok (.putfield 18, 3) := by decide +kernel
theorem dBags_init_28 : decode YBags_init.2.1 28 = .ok (.return_, 1) := by decide +kernel
theorem dBags_fewest_0 : decode YBags_fewest.2.1 0 = .ok (.aload_n 0, 1) := by decide +kernel
theorem dBags_fewest_1 : decode YBags_fewest.2.1 1 = .ok (.aload_n 1, 1) := by decide +kernel
theorem dBags_fewest_2 : decode YBags_fewest.2.1 2 = .ok (.putfield 21, 3) := by decide +kernel
theorem dBags_fewest_5 : decode YBags_fewest.2.1 5 = .ok (.aload_n 0, 1) := by decide +kernel
theorem dBags_fewest_6 : decode YBags_fewest.2.1 6 = .ok (.iload_n 2, 1) := by decide +kernel
theorem dBags_fewest_7 : decode YBags_fewest.2.1 7 = .ok (.putfield 25, 3) := by decide +kernel
theorem dBags_fewest_10 : decode YBags_fewest.2.1 10 = .ok (.aload_n 0, 1) := by decide +kernel
theorem dBags_fewest_11 : decode YBags_fewest.2.1 11 = .ok (.iload_n 3, 1) := by decide +kernel
theorem dBags_fewest_12 : decode YBags_fewest.2.1 12 = .ok (.putfield 29, 3) := by decide +kernel
theorem dBags_fewest_15 : decode YBags_fewest.2.1 15 = .ok (.iconst 0, 1) := by decide +kernel
theorem dBags_fewest_16 : decode YBags_fewest.2.1 16 = .ok (.istore 4, 2) := by decide +kernel
theorem dBags_fewest_18 : decode YBags_fewest.2.1 18 = .ok (.iload 4, 2) := by decide +kernel
theorem dBags_fewest_20 : decode YBags_fewest.2.1 20 = .ok (.aload_n 1, 1) := by decide +kernel
theorem dBags_fewest_21 : decode YBags_fewest.2.1 21 = .ok (.getfield 32, 3) := by decide +kernel
theorem dBags_fewest_24 : decode YBags_fewest.2.1 24 = .ok (.if_icmp .ge 25, 3) := by decide +kernel
theorem dBags_fewest_27 : decode YBags_fewest.2.1 27 = .ok (.aload_n 1, 1) := by decide +kernel
theorem dBags_fewest_28 : decode YBags_fewest.2.1 28 = .ok (.getfield 37, 3) := by decide +kernel
theorem dBags_fewest_31 : decode YBags_fewest.2.1 31 = .ok (.iload 4, 2) := by decide +kernel
theorem dBags_fewest_33 : decode YBags_fewest.2.1 33 = .ok (.iaload, 1) := by decide +kernel
theorem dBags_fewest_34 : decode YBags_fewest.2.1 34 = .ok (.aload_n 0, 1) := by decide +kernel
theorem dBags_fewest_35 : decode YBags_fewest.2.1 35 = .ok (.getfield 25, 3) := by decide +kernel
theorem dBags_fewest_38 : decode YBags_fewest.2.1 38 = .ok (.if_icmp .le 5, 3) := by decide +kernel
theorem dBags_fewest_41 : decode YBags_fewest.2.1 41 = .ok (.iconst (-1), 1) := by decide +kernel
theorem dBags_fewest_42 : decode YBags_fewest.2.1 42 = .ok (.ireturn, 1) := by decide +kernel
theorem dBags_fewest_43 : decode YBags_fewest.2.1 43 = .ok (.iinc 4 1, 3) := by decide +kernel
theorem dBags_fewest_46 : decode YBags_fewest.2.1 46 = .ok (.goto (-28), 3) := by decide +kernel
theorem dBags_fewest_49 : decode YBags_fewest.2.1 49 = .ok (.iconst 0, 1) := by decide +kernel
theorem dBags_fewest_50 : decode YBags_fewest.2.1 50 = .ok (.istore 4, 2) := by decide +kernel
theorem dBags_fewest_52 : decode YBags_fewest.2.1 52 = .ok (.iload 4, 2) := by decide +kernel
theorem dBags_fewest_54 : decode YBags_fewest.2.1 54 = .ok (.aload_n 1, 1) := by decide +kernel
theorem dBags_fewest_55 : decode YBags_fewest.2.1 55 = .ok (.getfield 32, 3) := by decide +kernel
theorem dBags_fewest_58 : decode YBags_fewest.2.1 58 = .ok (.if_icmp .gt 39, 3) := by decide +kernel
theorem dBags_fewest_61 : decode YBags_fewest.2.1 61 = .ok (.aload_n 0, 1) := by decide +kernel
theorem dBags_fewest_62 : decode YBags_fewest.2.1 62 = .ok (.getfield 15, 3) := by decide +kernel
theorem dBags_fewest_65 : decode YBags_fewest.2.1 65 = .ok (.iconst 0, 1) := by decide +kernel
theorem dBags_fewest_66 : decode YBags_fewest.2.1 66 = .ok (.invokestatic 40, 3) := by decide +kernel
theorem dBags_fewest_69 : decode YBags_fewest.2.1 69 = .ok (.aload_n 0, 1) := by decide +kernel
theorem dBags_fewest_70 : decode YBags_fewest.2.1 70 = .ok (.getfield 18, 3) := by decide +kernel
theorem dBags_fewest_73 : decode YBags_fewest.2.1 73 = .ok (.iconst 0, 1) := by decide +kernel
theorem dBags_fewest_74 : decode YBags_fewest.2.1 74 = .ok (.invokestatic 40, 3) := by decide +kernel
theorem dBags_fewest_77 : decode YBags_fewest.2.1 77 = .ok (.aload_n 0, 1) := by decide +kernel
theorem dBags_fewest_78 : decode YBags_fewest.2.1 78 = .ok (.iconst 0, 1) := by decide +kernel
theorem dBags_fewest_79 : decode YBags_fewest.2.1 79 = .ok (.iconst 0, 1) := by decide +kernel
theorem dBags_fewest_80 : decode YBags_fewest.2.1 80 = .ok (.iload 4, 2) := by decide +kernel
theorem dBags_fewest_82 : decode YBags_fewest.2.1 82 = .ok (.invokevirtual 46, 3) := by decide +kernel
theorem dBags_fewest_85 : decode YBags_fewest.2.1 85 = .ok (.ifCond .eq 6, 3) := by decide +kernel
theorem dBags_fewest_88 : decode YBags_fewest.2.1 88 = .ok (.iload 4, 2) := by decide +kernel
theorem dBags_fewest_90 : decode YBags_fewest.2.1 90 = .ok (.ireturn, 1) := by decide +kernel
theorem dBags_fewest_91 : decode YBags_fewest.2.1 91 = .ok (.iinc 4 1, 3) := by decide +kernel
theorem dBags_fewest_94 : decode YBags_fewest.2.1 94 = .ok (.goto (-42), 3) := by decide +kernel
theorem dBags_fewest_97 : decode YBags_fewest.2.1 97 = .ok (.iconst (-1), 1) := by decide +kernel
theorem dBags_fewest_98 : decode YBags_fewest.2.1 98 = .ok (.ireturn, 1) := by decide +kernel
theorem dBags_place_0 : decode YBags_place.2.1 0 = .ok (.iload_n 1, 1) := by decide +kernel
theorem dBags_place_1 : decode YBags_place.2.1 1 = .ok (.aload_n 0, 1) := by decide +kernel
theorem dBags_place_2 : decode YBags_place.2.1 2 = .ok (.getfield 21, 3) := by decide +kernel
theorem dBags_place_5 : decode YBags_place.2.1 5 = .ok (.getfield 32, 3) := by decide +kernel
theorem dBags_place_8 : decode YBags_place.2.1 8 = .ok (.if_icmp .lt 5, 3) := by decide +kernel
theorem dBags_place_11 : decode YBags_place.2.1 11 = .ok (.iconst 1, 1) := by decide +kernel
theorem dBags_place_12 : decode YBags_place.2.1 12 = .ok (.ireturn, 1) := by decide +kernel
theorem dBags_place_13 : decode YBags_place.2.1 13 = .ok (.aload_n 0, 1) := by decide +kernel
theorem dBags_place_14 : decode YBags_place.2.1 14 = .ok (.getfield 21, 3) := by decide +kernel
theorem dBags_place_17 : decode YBags_place.2.1 17 = .ok (.getfield 50, 3) := by decide +kernel
theorem dBags_place_20 : decode YBags_place.2.1 20 = .ok (.iload_n 1, 1) := by decide +kernel
theorem dBags_place_21 : decode YBags_place.2.1 21 = .ok (.iaload, 1) := by decide +kernel
theorem dBags_place_22 : decode YBags_place.2.1 22 = .ok (.istore 4, 2) := by decide +kernel
theorem dBags_place_24 : decode YBags_place.2.1 24 = .ok (.aload_n 0, 1) := by decide +kernel
theorem dBags_place_25 : decode YBags_place.2.1 25 = .ok (.getfield 21, 3) := by decide +kernel
theorem dBags_place_28 : decode YBags_place.2.1 28 = .ok (.getfield 37, 3) := by decide +kernel
theorem dBags_place_31 : decode YBags_place.2.1 31 = .ok (.iload_n 1, 1) := by decide +kernel
theorem dBags_place_32 : decode YBags_place.2.1 32 = .ok (.iaload, 1) := by decide +kernel
theorem dBags_place_33 : decode YBags_place.2.1 33 = .ok (.istore 5, 2) := by decide +kernel
theorem dBags_place_35 : decode YBags_place.2.1 35 = .ok (.iconst 0, 1) := by decide +kernel
theorem dBags_place_36 : decode YBags_place.2.1 36 = .ok (.istore 6, 2) := by decide +kernel
theorem dBags_place_38 : decode YBags_place.2.1 38 = .ok (.iload 6, 2) := by decide +kernel
theorem dBags_place_40 : decode YBags_place.2.1 40 = .ok (.iload_n 2, 1) := by decide +kernel
theorem dBags_place_41 : decode YBags_place.2.1 41 = .ok (.if_icmp .gt 131, 3) := by decide +kernel
theorem dBags_place_44 : decode YBags_place.2.1 44 = .ok (.iload 6, 2) := by decide +kernel
theorem dBags_place_46 : decode YBags_place.2.1 46 = .ok (.iload_n 3, 1) := by decide +kernel
theorem dBags_place_47 : decode YBags_place.2.1 47 = .ok (.if_icmp .ge 125, 3) := by decide +kernel
theorem dBags_place_50 : decode YBags_place.2.1 50 = .ok (.bipush 6, 2) := by decide +kernel
theorem dBags_place_52 : decode YBags_place.2.1 52 = .ok (.iload 6, 2) := by decide +kernel
theorem dBags_place_54 : decode YBags_place.2.1 54 = .ok (.imul, 1) := by decide +kernel
theorem dBags_place_55 : decode YBags_place.2.1 55 = .ok (.iload 4, 2) := by decide +kernel
theorem dBags_place_57 : decode YBags_place.2.1 57 = .ok (.iadd, 1) := by decide +kernel
theorem dBags_place_58 : decode YBags_place.2.1 58 = .ok (.istore 7, 2) := by decide +kernel
theorem dBags_place_60 : decode YBags_place.2.1 60 = .ok (.aload_n 0, 1) := by decide +kernel
theorem dBags_place_61 : decode YBags_place.2.1 61 = .ok (.getfield 15, 3) := by decide +kernel
theorem dBags_place_64 : decode YBags_place.2.1 64 = .ok (.iload 6, 2) := by decide +kernel
theorem dBags_place_66 : decode YBags_place.2.1 66 = .ok (.iaload, 1) := by decide +kernel
theorem dBags_place_67 : decode YBags_place.2.1 67 = .ok (.aload_n 0, 1) := by decide +kernel
theorem dBags_place_68 : decode YBags_place.2.1 68 = .ok (.getfield 29, 3) := by decide +kernel
theorem dBags_place_71 : decode YBags_place.2.1 71 = .ok (.if_icmp .ge 95, 3) := by decide +kernel
theorem dBags_place_74 : decode YBags_place.2.1 74 = .ok (.aload_n 0, 1) := by decide +kernel
theorem dBags_place_75 : decode YBags_place.2.1 75 = .ok (.getfield 18, 3) := by decide +kernel
theorem dBags_place_78 : decode YBags_place.2.1 78 = .ok (.iload 7, 2) := by decide +kernel
theorem dBags_place_80 : decode YBags_place.2.1 80 = .ok (.iaload, 1) := by decide +kernel
theorem dBags_place_81 : decode YBags_place.2.1 81 = .ok (.iload 5, 2) := by decide +kernel
theorem dBags_place_83 : decode YBags_place.2.1 83 = .ok (.iadd, 1) := by decide +kernel
theorem dBags_place_84 : decode YBags_place.2.1 84 = .ok (.aload_n 0, 1) := by decide +kernel
theorem dBags_place_85 : decode YBags_place.2.1 85 = .ok (.getfield 25, 3) := by decide +kernel
theorem dBags_place_88 : decode YBags_place.2.1 88 = .ok (.if_icmp .gt 78, 3) := by decide +kernel
theorem dBags_place_91 : decode YBags_place.2.1 91 = .ok (.aload_n 0, 1) := by decide +kernel
theorem dBags_place_92 : decode YBags_place.2.1 92 = .ok (.getfield 15, 3) := by decide +kernel
theorem dBags_place_95 : decode YBags_place.2.1 95 = .ok (.iload 6, 2) := by decide +kernel
theorem dBags_place_97 : decode YBags_place.2.1 97 = .ok (.dup2, 1) := by decide +kernel
theorem dBags_place_98 : decode YBags_place.2.1 98 = .ok (.iaload, 1) := by decide +kernel
theorem dBags_place_99 : decode YBags_place.2.1 99 = .ok (.iconst 1, 1) := by decide +kernel
theorem dBags_place_100 : decode YBags_place.2.1 100 = .ok (.iadd, 1) := by decide +kernel
theorem dBags_place_101 : decode YBags_place.2.1 101 = .ok (.iastore, 1) := by decide +kernel
theorem dBags_place_102 : decode YBags_place.2.1 102 = .ok (.aload_n 0, 1) := by decide +kernel
theorem dBags_place_103 : decode YBags_place.2.1 103 = .ok (.getfield 18, 3) := by decide +kernel
theorem dBags_place_106 : decode YBags_place.2.1 106 = .ok (.iload 7, 2) := by decide +kernel
theorem dBags_place_108 : decode YBags_place.2.1 108 = .ok (.dup2, 1) := by decide +kernel
theorem dBags_place_109 : decode YBags_place.2.1 109 = .ok (.iaload, 1) := by decide +kernel
theorem dBags_place_110 : decode YBags_place.2.1 110 = .ok (.iload 5, 2) := by decide +kernel
theorem dBags_place_112 : decode YBags_place.2.1 112 = .ok (.iadd, 1) := by decide +kernel
