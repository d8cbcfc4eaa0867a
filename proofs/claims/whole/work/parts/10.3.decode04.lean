theorem dBags_place_113 : decode YBags_place.2.1 113 = .ok (.iastore, 1) := by decide +kernel
theorem dBags_place_114 : decode YBags_place.2.1 114 = .ok (.aload_n 0, 1) := by decide +kernel
theorem dBags_place_115 : decode YBags_place.2.1 115 = .ok (.getfield 9, 3) := by decide +kernel
theorem dBags_place_118 : decode YBags_place.2.1 118 = .ok (.iload_n 1, 1) := by decide +kernel
theorem dBags_place_119 : decode YBags_place.2.1 119 = .ok (.iload 6, 2) := by decide +kernel
theorem dBags_place_121 : decode YBags_place.2.1 121 = .ok (.iastore, 1) := by decide +kernel
theorem dBags_place_122 : decode YBags_place.2.1 122 = .ok (.aload_n 0, 1) := by decide +kernel
theorem dBags_place_123 : decode YBags_place.2.1 123 = .ok (.iload_n 1, 1) := by decide +kernel
theorem dBags_place_124 : decode YBags_place.2.1 124 = .ok (.iconst 1, 1) := by decide +kernel
theorem dBags_place_125 : decode YBags_place.2.1 125 = .ok (.iadd, 1) := by decide +kernel
theorem dBags_place_126 : decode YBags_place.2.1 126 = .ok (.iload_n 2, 1) := by decide +kernel
theorem dBags_place_127 : decode YBags_place.2.1 127 = .ok (.iload 6, 2) := by decide +kernel
theorem dBags_place_129 : decode YBags_place.2.1 129 = .ok (.iconst 1, 1) := by decide +kernel
theorem dBags_place_130 : decode YBags_place.2.1 130 = .ok (.iadd, 1) := by decide +kernel
theorem dBags_place_131 : decode YBags_place.2.1 131 = .ok (.invokestatic 53, 3) := by decide +kernel
theorem dBags_place_134 : decode YBags_place.2.1 134 = .ok (.iload_n 3, 1) := by decide +kernel
theorem dBags_place_135 : decode YBags_place.2.1 135 = .ok (.invokevirtual 46, 3) := by decide +kernel
theorem dBags_place_138 : decode YBags_place.2.1 138 = .ok (.ifCond .eq 5, 3) := by decide +kernel
theorem dBags_place_141 : decode YBags_place.2.1 141 = .ok (.iconst 1, 1) := by decide +kernel
theorem dBags_place_142 : decode YBags_place.2.1 142 = .ok (.ireturn, 1) := by decide +kernel
theorem dBags_place_143 : decode YBags_place.2.1 143 = .ok (.aload_n 0, 1) := by decide +kernel
theorem dBags_place_144 : decode YBags_place.2.1 144 = .ok (.getfield 15, 3) := by decide +kernel
theorem dBags_place_147 : decode YBags_place.2.1 147 = .ok (.iload 6, 2) := by decide +kernel
theorem dBags_place_149 : decode YBags_place.2.1 149 = .ok (.dup2, 1) := by decide +kernel
theorem dBags_place_150 : decode YBags_place.2.1 150 = .ok (.iaload, 1) := by decide +kernel
theorem dBags_place_151 : decode YBags_place.2.1 151 = .ok (.iconst 1, 1) := by decide +kernel
theorem dBags_place_152 : decode YBags_place.2.1 152 = .ok (.isub, 1) := by decide +kernel
theorem dBags_place_153 : decode YBags_place.2.1 153 = .ok (.iastore, 1) := by decide +kernel
theorem dBags_place_154 : decode YBags_place.2.1 154 = .ok (.aload_n 0, 1) := by decide +kernel
theorem dBags_place_155 : decode YBags_place.2.1 155 = .ok (.getfield 18, 3) := by decide +kernel
theorem dBags_place_158 : decode YBags_place.2.1 158 = .ok (.iload 7, 2) := by decide +kernel
theorem dBags_place_160 : decode YBags_place.2.1 160 = .ok (.dup2, 1) := by decide +kernel
theorem dBags_place_161 : decode YBags_place.2.1 161 = .ok (.iaload, 1) := by decide +kernel
theorem dBags_place_162 : decode YBags_place.2.1 162 = .ok (.iload 5, 2) := by decide +kernel
theorem dBags_place_164 : decode YBags_place.2.1 164 = .ok (.isub, 1) := by decide +kernel
theorem dBags_place_165 : decode YBags_place.2.1 165 = .ok (.iastore, 1) := by decide +kernel
theorem dBags_place_166 : decode YBags_place.2.1 166 = .ok (.iinc 6 1, 3) := by decide +kernel
theorem dBags_place_169 : decode YBags_place.2.1 169 = .ok (.goto (-131), 3) := by decide +kernel
theorem dBags_place_172 : decode YBags_place.2.1 172 = .ok (.iconst 0, 1) := by decide +kernel
theorem dBags_place_173 : decode YBags_place.2.1 173 = .ok (.ireturn, 1) := by decide +kernel
theorem dChances_init_0 : decode YChances_init.2.1 0 = .ok (.aload_n 0, 1) := by decide +kernel
theorem dChances_init_1 : decode YChances_init.2.1 1 = .ok (.invokespecial 3, 3) := by decide +kernel
theorem dChances_init_4 : decode YChances_init.2.1 4 = .ok (.aload_n 0, 1) := by decide +kernel
theorem dChances_init_5 : decode YChances_init.2.1 5 = .ok (.bipush 6, 2) := by decide +kernel
theorem dChances_init_7 : decode YChances_init.2.1 7 = .ok (.newarray .int, 2) := by decide +kernel
theorem dChances_init_9 : decode YChances_init.2.1 9 = .ok (.putfield 9, 3) := by decide +kernel
theorem dChances_init_12 : decode YChances_init.2.1 12 = .ok (.aload_n 0, 1) := by decide +kernel
theorem dChances_init_13 : decode YChances_init.2.1 13 = .ok (.bipush 6, 2) := by decide +kernel
theorem dChances_init_15 : decode YChances_init.2.1 15 = .ok (.newarray .int, 2) := by decide +kernel
theorem dChances_init_17 : decode YChances_init.2.1 17 = .ok (.putfield 15, 3) := by decide +kernel
theorem dChances_init_20 : decode YChances_init.2.1 20 = .ok (.return_, 1) := by decide +kernel
theorem dChances_answer_0 : decode YChances_answer.2.1 0 = .ok (.aload_n 0, 1) := by decide +kernel
theorem dChances_answer_1 : decode YChances_answer.2.1 1 = .ok (.getfield 18, 3) := by decide +kernel
theorem dChances_answer_4 : decode YChances_answer.2.1 4 = .ok (.invokestatic 22, 3) := by decide +kernel
theorem dChances_answer_7 : decode YChances_answer.2.1 7 = .ok (.aload_n 0, 1) := by decide +kernel
theorem dChances_answer_8 : decode YChances_answer.2.1 8 = .ok (.getfield 28, 3) := by decide +kernel
theorem dChances_answer_11 : decode YChances_answer.2.1 11 = .ok (.invokestatic 31, 3) := by decide +kernel
theorem dChances_answer_14 : decode YChances_answer.2.1 14 = .ok (.lstore_n 2, 1) := by decide +kernel
theorem dChances_answer_15 : decode YChances_answer.2.1 15 = .ok (.lload_n 2, 1) := by decide +kernel
theorem dChances_answer_16 : decode YChances_answer.2.1 16 = .ok (.lconst 0, 1) := by decide +kernel
theorem dChances_answer_17 : decode YChances_answer.2.1 17 = .ok (.lcmp, 1) := by decide +kernel
theorem dChances_answer_18 : decode YChances_answer.2.1 18 = .ok (.ifCond .ne 5, 3) := by decide +kernel
theorem dChances_answer_21 : decode YChances_answer.2.1 21 = .ok (.lconst 0, 1) := by decide +kernel
theorem dChances_answer_22 : decode YChances_answer.2.1 22 = .ok (.lreturn, 1) := by decide +kernel
theorem dChances_answer_23 : decode YChances_answer.2.1 23 = .ok (.iload_n 1, 1) := by decide +kernel
theorem dChances_answer_24 : decode YChances_answer.2.1 24 = .ok (.ifCond .eq 10, 3) := by decide +kernel
theorem dChances_answer_27 : decode YChances_answer.2.1 27 = .ok (.aload_n 0, 1) := by decide +kernel
theorem dChances_answer_28 : decode YChances_answer.2.1 28 = .ok (.getfield 28, 3) := by decide +kernel
theorem dChances_answer_31 : decode YChances_answer.2.1 31 = .ok (.goto 7, 3) := by decide +kernel
theorem dChances_answer_34 : decode YChances_answer.2.1 34 = .ok (.aload_n 0, 1) := by decide +kernel
theorem dChances_answer_35 : decode YChances_answer.2.1 35 = .ok (.getfield 18, 3) := by decide +kernel
theorem dChances_answer_38 : decode YChances_answer.2.1 38 = .ok (.lload_n 2, 1) := by decide +kernel
theorem dChances_answer_39 : decode YChances_answer.2.1 39 = .ok (.ldiv, 1) := by decide +kernel
theorem dChances_answer_40 : decode YChances_answer.2.1 40 = .ok (.lreturn, 1) := by decide +kernel
theorem dChances_commonOf_0 : decode YChances_commonOf.2.1 0 = .ok (.lload_n 0, 1) := by decide +kernel
theorem dChances_commonOf_1 : decode YChances_commonOf.2.1 1 = .ok (.lstore 4, 2) := by decide +kernel
theorem dChances_commonOf_3 : decode YChances_commonOf.2.1 3 = .ok (.lload_n 2, 1) := by decide +kernel
theorem dChances_commonOf_4 : decode YChances_commonOf.2.1 4 = .ok (.lstore 6, 2) := by decide +kernel
theorem dChances_commonOf_6 : decode YChances_commonOf.2.1 6 = .ok (.iconst 0, 1) := by decide +kernel
theorem dChances_commonOf_7 : decode YChances_commonOf.2.1 7 = .ok (.istore 8, 2) := by decide +kernel
theorem dChances_commonOf_9 : decode YChances_commonOf.2.1 9 = .ok (.iload 8, 2) := by decide +kernel
theorem dChances_commonOf_11 : decode YChances_commonOf.2.1 11 = .ok (.sipush 200, 3) := by decide +kernel
theorem dChances_commonOf_14 : decode YChances_commonOf.2.1 14 = .ok (.if_icmp .ge 31, 3) := by decide +kernel
theorem dChances_commonOf_17 : decode YChances_commonOf.2.1 17 = .ok (.lload 6, 2) := by decide +kernel
theorem dChances_commonOf_19 : decode YChances_commonOf.2.1 19 = .ok (.lconst 0, 1) := by decide +kernel
theorem dChances_commonOf_20 : decode YChances_commonOf.2.1 20 = .ok (.lcmp, 1) := by decide +kernel
theorem dChances_commonOf_21 : decode YChances_commonOf.2.1 21 = .ok (.ifCond .eq 24, 3) := by decide +kernel
theorem dChances_commonOf_24 : decode YChances_commonOf.2.1 24 = .ok (.lload 4, 2) := by decide +kernel
theorem dChances_commonOf_26 : decode YChances_commonOf.2.1 26 = .ok (.lload 6, 2) := by decide +kernel
theorem dChances_commonOf_28 : decode YChances_commonOf.2.1 28 = .ok (.lrem, 1) := by decide +kernel
theorem dChances_commonOf_29 : decode YChances_commonOf.2.1 29 = .ok (.lstore 9, 2) := by decide +kernel
theorem dChances_commonOf_31 : decode YChances_commonOf.2.1 31 = .ok (.lload 6, 2) := by decide +kernel
theorem dChances_commonOf_33 : decode YChances_commonOf.2.1 33 = .ok (.lstore 4, 2) := by decide +kernel
theorem dChances_commonOf_35 : decode YChances_commonOf.2.1 35 = .ok (.lload 9, 2) := by decide +kernel
theorem dChances_commonOf_37 : decode YChances_commonOf.2.1 37 = .ok (.lstore 6, 2) := by decide +kernel
theorem dChances_commonOf_39 : decode YChances_commonOf.2.1 39 = .ok (.iinc 8 1, 3) := by decide +kernel
theorem dChances_commonOf_42 : decode YChances_commonOf.2.1 42 = .ok (.goto (-33), 3) := by decide +kernel
theorem dChances_commonOf_45 : decode YChances_commonOf.2.1 45 = .ok (.lload 4, 2) := by decide +kernel
theorem dChances_commonOf_47 : decode YChances_commonOf.2.1 47 = .ok (.lreturn, 1) := by decide +kernel
theorem dChances_findMean_0 : decode YChances_findMean.2.1 0 = .ok (.aload_n 1, 1) := by decide +kernel
theorem dChances_findMean_1 : decode YChances_findMean.2.1 1 = .ok (.iload_n 2, 1) := by decide +kernel
theorem dChances_findMean_2 : decode YChances_findMean.2.1 2 = .ok (.invokevirtual 35, 3) := by decide +kernel
theorem dChances_findMean_5 : decode YChances_findMean.2.1 5 = .ok (.istore_n 3, 1) := by decide +kernel
theorem dChances_findMean_6 : decode YChances_findMean.2.1 6 = .ok (.aload_n 0, 1) := by decide +kernel
theorem dChances_findMean_7 : decode YChances_findMean.2.1 7 = .ok (.iconst 1, 1) := by decide +kernel
theorem dChances_findMean_8 : decode YChances_findMean.2.1 8 = .ok (.iload_n 3, 1) := by decide +kernel
theorem dChances_findMean_9 : decode YChances_findMean.2.1 9 = .ok (.invokestatic 41, 3) := by decide +kernel
theorem dChances_findMean_12 : decode YChances_findMean.2.1 12 = .ok (.invokestatic 46, 3) := by decide +kernel
theorem dChances_findMean_15 : decode YChances_findMean.2.1 15 = .ok (.i2l, 1) := by decide +kernel
theorem dChances_findMean_16 : decode YChances_findMean.2.1 16 = .ok (.putfield 28, 3) := by decide +kernel
theorem dChances_findMean_19 : decode YChances_findMean.2.1 19 = .ok (.aload_n 0, 1) := by decide +kernel
theorem dChances_findMean_20 : decode YChances_findMean.2.1 20 = .ok (.aload_n 1, 1) := by decide +kernel
theorem dChances_findMean_21 : decode YChances_findMean.2.1 21 = .ok (.getfield 50, 3) := by decide +kernel
theorem dChances_findMean_24 : decode YChances_findMean.2.1 24 = .ok (.iload_n 2, 1) := by decide +kernel
theorem dChances_findMean_25 : decode YChances_findMean.2.1 25 = .ok (.iaload, 1) := by decide +kernel
theorem dChances_findMean_26 : decode YChances_findMean.2.1 26 = .ok (.i2l, 1) := by decide +kernel
theorem dChances_findMean_27 : decode YChances_findMean.2.1 27 = .ok (.aload_n 0, 1) := by decide +kernel
theorem dChances_findMean_28 : decode YChances_findMean.2.1 28 = .ok (.getfield 28, 3) := by decide +kernel
theorem dChances_findMean_31 : decode YChances_findMean.2.1 31 = .ok (.lmul, 1) := by decide +kernel
theorem dChances_findMean_32 : decode YChances_findMean.2.1 32 = .ok (.putfield 18, 3) := by decide +kernel
theorem dChances_findMean_35 : decode YChances_findMean.2.1 35 = .ok (.iconst 0, 1) := by decide +kernel
theorem dChances_findMean_36 : decode YChances_findMean.2.1 36 = .ok (.istore 4, 2) := by decide +kernel
theorem dChances_findMean_38 : decode YChances_findMean.2.1 38 = .ok (.iload 4, 2) := by decide +kernel
theorem dChances_findMean_40 : decode YChances_findMean.2.1 40 = .ok (.aload_n 1, 1) := by decide +kernel
theorem dChances_findMean_41 : decode YChances_findMean.2.1 41 = .ok (.getfield 53, 3) := by decide +kernel
theorem dChances_findMean_44 : decode YChances_findMean.2.1 44 = .ok (.if_icmp .ge 81, 3) := by decide +kernel
theorem dChances_findMean_47 : decode YChances_findMean.2.1 47 = .ok (.iconst 0, 1) := by decide +kernel
theorem dChances_findMean_48 : decode YChances_findMean.2.1 48 = .ok (.istore 5, 2) := by decide +kernel
theorem dChances_findMean_50 : decode YChances_findMean.2.1 50 = .ok (.iload 5, 2) := by decide +kernel
theorem dChances_findMean_52 : decode YChances_findMean.2.1 52 = .ok (.aload_n 1, 1) := by decide +kernel
theorem dChances_findMean_53 : decode YChances_findMean.2.1 53 = .ok (.getfield 53, 3) := by decide +kernel
theorem dChances_findMean_56 : decode YChances_findMean.2.1 56 = .ok (.if_icmp .ge 63, 3) := by decide +kernel
theorem dChances_findMean_59 : decode YChances_findMean.2.1 59 = .ok (.iload_n 3, 1) := by decide +kernel
theorem dChances_findMean_60 : decode YChances_findMean.2.1 60 = .ok (.iload 4, 2) := by decide +kernel
theorem dChances_findMean_62 : decode YChances_findMean.2.1 62 = .ok (.ishr, 1) := by decide +kernel
theorem dChances_findMean_63 : decode YChances_findMean.2.1 63 = .ok (.iconst 1, 1) := by decide +kernel
theorem dChances_findMean_64 : decode YChances_findMean.2.1 64 = .ok (.iand, 1) := by decide +kernel
theorem dChances_findMean_65 : decode YChances_findMean.2.1 65 = .ok (.iconst 1, 1) := by decide +kernel
theorem dChances_findMean_66 : decode YChances_findMean.2.1 66 = .ok (.if_icmp .ne 47, 3) := by decide +kernel
theorem dChances_findMean_69 : decode YChances_findMean.2.1 69 = .ok (.iload_n 3, 1) := by decide +kernel
theorem dChances_findMean_70 : decode YChances_findMean.2.1 70 = .ok (.iload 5, 2) := by decide +kernel
theorem dChances_findMean_72 : decode YChances_findMean.2.1 72 = .ok (.ishr, 1) := by decide +kernel
theorem dChances_findMean_73 : decode YChances_findMean.2.1 73 = .ok (.iconst 1, 1) := by decide +kernel
theorem dChances_findMean_74 : decode YChances_findMean.2.1 74 = .ok (.iand, 1) := by decide +kernel
theorem dChances_findMean_75 : decode YChances_findMean.2.1 75 = .ok (.iconst 1, 1) := by decide +kernel
theorem dChances_findMean_76 : decode YChances_findMean.2.1 76 = .ok (.if_icmp .ne 37, 3) := by decide +kernel
theorem dChances_findMean_79 : decode YChances_findMean.2.1 79 = .ok (.aload_n 0, 1) := by decide +kernel
theorem dChances_findMean_80 : decode YChances_findMean.2.1 80 = .ok (.dup, 1) := by decide +kernel
theorem dChances_findMean_81 : decode YChances_findMean.2.1 81 = .ok (.getfield 18, 3) := by decide +kernel
theorem dChances_findMean_84 : decode YChances_findMean.2.1 84 = .ok (.aload_n 1, 1) := by decide +kernel
theorem dChances_findMean_85 : decode YChances_findMean.2.1 85 = .ok (.iload 4, 2) := by decide +kernel
theorem dChances_findMean_87 : decode YChances_findMean.2.1 87 = .ok (.iload 4, 2) := by decide +kernel
theorem dChances_findMean_89 : decode YChances_findMean.2.1 89 = .ok (.iload 5, 2) := by decide +kernel
theorem dChances_findMean_91 : decode YChances_findMean.2.1 91 = .ok (.if_icmp .ne 7, 3) := by decide +kernel
theorem dChances_findMean_94 : decode YChances_findMean.2.1 94 = .ok (.iconst (-1), 1) := by decide +kernel
theorem dChances_findMean_95 : decode YChances_findMean.2.1 95 = .ok (.goto 10, 3) := by decide +kernel
theorem dChances_findMean_98 : decode YChances_findMean.2.1 98 = .ok (.aload_n 1, 1) := by decide +kernel
theorem dChances_findMean_99 : decode YChances_findMean.2.1 99 = .ok (.getfield 57, 3) := by decide +kernel
theorem dChances_findMean_102 : decode YChances_findMean.2.1 102 = .ok (.iload 5, 2) := by decide +kernel
theorem dChances_findMean_104 : decode YChances_findMean.2.1 104 = .ok (.iaload, 1) := by decide +kernel
theorem dChances_findMean_105 : decode YChances_findMean.2.1 105 = .ok (.invokevirtual 60, 3) := by decide +kernel
theorem dChances_findMean_108 : decode YChances_findMean.2.1 108 = .ok (.i2l, 1) := by decide +kernel
theorem dChances_findMean_109 : decode YChances_findMean.2.1 109 = .ok (.ladd, 1) := by decide +kernel
theorem dChances_findMean_110 : decode YChances_findMean.2.1 110 = .ok (.putfield 18, 3) := by decide +kernel
theorem dChances_findMean_113 : decode YChances_findMean.2.1 113 = .ok (.iinc 5 1, 3) := by decide +kernel
theorem dChances_findMean_116 : decode YChances_findMean.2.1 116 = .ok (.goto (-66), 3) := by decide +kernel
theorem dChances_findMean_119 : decode YChances_findMean.2.1 119 = .ok (.iinc 4 1, 3) := by decide +kernel
theorem dChances_findMean_122 : decode YChances_findMean.2.1 122 = .ok (.goto (-84), 3) := by decide +kernel
theorem dChances_findMean_125 : decode YChances_findMean.2.1 125 = .ok (.return_, 1) := by decide +kernel
theorem dChances_findSpared_0 : decode YChances_findSpared.2.1 0 = .ok (.aload_n 1, 1) := by decide +kernel
theorem dChances_findSpared_1 : decode YChances_findSpared.2.1 1 = .ok (.iload_n 2, 1) := by decide +kernel
theorem dChances_findSpared_2 : decode YChances_findSpared.2.1 2 = .ok (.invokevirtual 35, 3) := by decide +kernel
theorem dChances_findSpared_5 : decode YChances_findSpared.2.1 5 = .ok (.istore 5, 2) := by decide +kernel
theorem dChances_findSpared_7 : decode YChances_findSpared.2.1 7 = .ok (.iload 5, 2) := by decide +kernel
theorem dChances_findSpared_9 : decode YChances_findSpared.2.1 9 = .ok (.invokestatic 41, 3) := by decide +kernel
theorem dChances_findSpared_12 : decode YChances_findSpared.2.1 12 = .ok (.istore 6, 2) := by decide +kernel
theorem dChances_findSpared_14 : decode YChances_findSpared.2.1 14 = .ok (.aload_n 0, 1) := by decide +kernel
theorem dChances_findSpared_15 : decode YChances_findSpared.2.1 15 = .ok (.lconst 0, 1) := by decide +kernel
theorem dChances_findSpared_16 : decode YChances_findSpared.2.1 16 = .ok (.putfield 18, 3) := by decide +kernel
theorem dChances_findSpared_19 : decode YChances_findSpared.2.1 19 = .ok (.aload_n 0, 1) := by decide +kernel
theorem dChances_findSpared_20 : decode YChances_findSpared.2.1 20 = .ok (.bipush 10, 2) := by decide +kernel
theorem dChances_findSpared_22 : decode YChances_findSpared.2.1 22 = .ok (.iload 6, 2) := by decide +kernel
theorem dChances_findSpared_24 : decode YChances_findSpared.2.1 24 = .ok (.invokestatic 63, 3) := by decide +kernel
theorem dChances_findSpared_27 : decode YChances_findSpared.2.1 27 = .ok (.putfield 28, 3) := by decide +kernel
theorem dChances_findSpared_30 : decode YChances_findSpared.2.1 30 = .ok (.iconst 0, 1) := by decide +kernel
theorem dChances_findSpared_31 : decode YChances_findSpared.2.1 31 = .ok (.istore 7, 2) := by decide +kernel
theorem dChances_findSpared_33 : decode YChances_findSpared.2.1 33 = .ok (.iload 7, 2) := by decide +kernel
theorem dChances_findSpared_35 : decode YChances_findSpared.2.1 35 = .ok (.iconst 1, 1) := by decide +kernel
theorem dChances_findSpared_36 : decode YChances_findSpared.2.1 36 = .ok (.aload_n 1, 1) := by decide +kernel
theorem dChances_findSpared_37 : decode YChances_findSpared.2.1 37 = .ok (.getfield 53, 3) := by decide +kernel
theorem dChances_findSpared_40 : decode YChances_findSpared.2.1 40 = .ok (.ishl, 1) := by decide +kernel
theorem dChances_findSpared_41 : decode YChances_findSpared.2.1 41 = .ok (.if_icmp .ge 71, 3) := by decide +kernel
theorem dChances_findSpared_44 : decode YChances_findSpared.2.1 44 = .ok (.iload 7, 2) := by decide +kernel
theorem dChances_findSpared_46 : decode YChances_findSpared.2.1 46 = .ok (.iload 5, 2) := by decide +kernel
theorem dChances_findSpared_48 : decode YChances_findSpared.2.1 48 = .ok (.iconst (-1), 1) := by decide +kernel
theorem dChances_findSpared_49 : decode YChances_findSpared.2.1 49 = .ok (.ixor, 1) := by decide +kernel
theorem dChances_findSpared_50 : decode YChances_findSpared.2.1 50 = .ok (.iand, 1) := by decide +kernel
theorem dChances_findSpared_51 : decode YChances_findSpared.2.1 51 = .ok (.ifCond .ne 55, 3) := by decide +kernel
theorem dChances_findSpared_54 : decode YChances_findSpared.2.1 54 = .ok (.aload_n 1, 1) := by decide +kernel
theorem dChances_findSpared_55 : decode YChances_findSpared.2.1 55 = .ok (.iload_n 2, 1) := by decide +kernel
theorem dChances_findSpared_56 : decode YChances_findSpared.2.1 56 = .ok (.iload 5, 2) := by decide +kernel
theorem dChances_findSpared_58 : decode YChances_findSpared.2.1 58 = .ok (.iload 7, 2) := by decide +kernel
theorem dChances_findSpared_60 : decode YChances_findSpared.2.1 60 = .ok (.iconst (-1), 1) := by decide +kernel
theorem dChances_findSpared_61 : decode YChances_findSpared.2.1 61 = .ok (.ixor, 1) := by decide +kernel
theorem dChances_findSpared_62 : decode YChances_findSpared.2.1 62 = .ok (.iand, 1) := by decide +kernel
theorem dChances_findSpared_63 : decode YChances_findSpared.2.1 63 = .ok (.invokevirtual 67, 3) := by decide +kernel
theorem dChances_findSpared_66 : decode YChances_findSpared.2.1 66 = .ok (.iload 4, 2) := by decide +kernel
theorem dChances_findSpared_68 : decode YChances_findSpared.2.1 68 = .ok (.if_icmp .lt 38, 3) := by decide +kernel
theorem dChances_findSpared_71 : decode YChances_findSpared.2.1 71 = .ok (.iload 7, 2) := by decide +kernel
theorem dChances_findSpared_73 : decode YChances_findSpared.2.1 73 = .ok (.invokestatic 41, 3) := by decide +kernel
theorem dChances_findSpared_76 : decode YChances_findSpared.2.1 76 = .ok (.istore 8, 2) := by decide +kernel
theorem dChances_findSpared_78 : decode YChances_findSpared.2.1 78 = .ok (.aload_n 0, 1) := by decide +kernel
theorem dChances_findSpared_79 : decode YChances_findSpared.2.1 79 = .ok (.dup, 1) := by decide +kernel
theorem dChances_findSpared_80 : decode YChances_findSpared.2.1 80 = .ok (.getfield 18, 3) := by decide +kernel
theorem dChances_findSpared_83 : decode YChances_findSpared.2.1 83 = .ok (.iload_n 3, 1) := by decide +kernel
theorem dChances_findSpared_84 : decode YChances_findSpared.2.1 84 = .ok (.iload 8, 2) := by decide +kernel
theorem dChances_findSpared_86 : decode YChances_findSpared.2.1 86 = .ok (.invokestatic 63, 3) := by decide +kernel
theorem dChances_findSpared_89 : decode YChances_findSpared.2.1 89 = .ok (.bipush 10, 2) := by decide +kernel
theorem dChances_findSpared_91 : decode YChances_findSpared.2.1 91 = .ok (.iload_n 3, 1) := by decide +kernel
theorem dChances_findSpared_92 : decode YChances_findSpared.2.1 92 = .ok (.isub, 1) := by decide +kernel
theorem dChances_findSpared_93 : decode YChances_findSpared.2.1 93 = .ok (.iload 6, 2) := by decide +kernel
theorem dChances_findSpared_95 : decode YChances_findSpared.2.1 95 = .ok (.iload 8, 2) := by decide +kernel
theorem dChances_findSpared_97 : decode YChances_findSpared.2.1 97 = .ok (.isub, 1) := by decide +kernel
theorem dChances_findSpared_98 : decode YChances_findSpared.2.1 98 = .ok (.invokestatic 63, 3) := by decide +kernel
theorem dChances_findSpared_101 : decode YChances_findSpared.2.1 101 = .ok (.lmul, 1) := by decide +kernel
theorem dChances_findSpared_102 : decode YChances_findSpared.2.1 102 = .ok (.ladd, 1) := by decide +kernel
theorem dChances_findSpared_103 : decode YChances_findSpared.2.1 103 = .ok (.putfield 18, 3) := by decide +kernel
theorem dChances_findSpared_106 : decode YChances_findSpared.2.1 106 = .ok (.iinc 7 1, 3) := by decide +kernel
theorem dChances_findSpared_109 : decode YChances_findSpared.2.1 109 = .ok (.goto (-76), 3) := by decide +kernel
theorem dChances_findSpared_112 : decode YChances_findSpared.2.1 112 = .ok (.return_, 1) := by decide +kernel
theorem dChances_power_0 : decode YChances_power.2.1 0 = .ok (.lconst 1, 1) := by decide +kernel
theorem dChances_power_1 : decode YChances_power.2.1 1 = .ok (.lstore_n 2, 1) := by decide +kernel
theorem dChances_power_2 : decode YChances_power.2.1 2 = .ok (.iconst 0, 1) := by decide +kernel
theorem dChances_power_3 : decode YChances_power.2.1 3 = .ok (.istore 4, 2) := by decide +kernel
theorem dChances_power_5 : decode YChances_power.2.1 5 = .ok (.iload 4, 2) := by decide +kernel
theorem dChances_power_7 : decode YChances_power.2.1 7 = .ok (.iload_n 1, 1) := by decide +kernel
theorem dChances_power_8 : decode YChances_power.2.1 8 = .ok (.if_icmp .ge 14, 3) := by decide +kernel
theorem dChances_power_11 : decode YChances_power.2.1 11 = .ok (.lload_n 2, 1) := by decide +kernel
theorem dChances_power_12 : decode YChances_power.2.1 12 = .ok (.iload_n 0, 1) := by decide +kernel
theorem dChances_power_13 : decode YChances_power.2.1 13 = .ok (.i2l, 1) := by decide +kernel
theorem dChances_power_14 : decode YChances_power.2.1 14 = .ok (.lmul, 1) := by decide +kernel
theorem dChances_power_15 : decode YChances_power.2.1 15 = .ok (.lstore_n 2, 1) := by decide +kernel
theorem dChances_power_16 : decode YChances_power.2.1 16 = .ok (.iinc 4 1, 3) := by decide +kernel
theorem dChances_power_19 : decode YChances_power.2.1 19 = .ok (.goto (-14), 3) := by decide +kernel
theorem dChances_power_22 : decode YChances_power.2.1 22 = .ok (.lload_n 2, 1) := by decide +kernel
theorem dChances_power_23 : decode YChances_power.2.1 23 = .ok (.lreturn, 1) := by decide +kernel
theorem dChances_findHoped_0 : decode YChances_findHoped.2.1 0 = .ok (.aload_n 0, 1) := by decide +kernel
theorem dChances_findHoped_1 : decode YChances_findHoped.2.1 1 = .ok (.lconst 0, 1) := by decide +kernel
theorem dChances_findHoped_2 : decode YChances_findHoped.2.1 2 = .ok (.putfield 18, 3) := by decide +kernel
theorem dChances_findHoped_5 : decode YChances_findHoped.2.1 5 = .ok (.aload_n 0, 1) := by decide +kernel
theorem dChances_findHoped_6 : decode YChances_findHoped.2.1 6 = .ok (.lconst 0, 1) := by decide +kernel
theorem dChances_findHoped_7 : decode YChances_findHoped.2.1 7 = .ok (.putfield 28, 3) := by decide +kernel
theorem dChances_findHoped_10 : decode YChances_findHoped.2.1 10 = .ok (.iconst 0, 1) := by decide +kernel
theorem dChances_findHoped_11 : decode YChances_findHoped.2.1 11 = .ok (.istore_n 3, 1) := by decide +kernel
theorem dChances_findHoped_12 : decode YChances_findHoped.2.1 12 = .ok (.iload_n 3, 1) := by decide +kernel
theorem dChances_findHoped_13 : decode YChances_findHoped.2.1 13 = .ok (.iconst 1, 1) := by decide +kernel
theorem dChances_findHoped_14 : decode YChances_findHoped.2.1 14 = .ok (.aload_n 1, 1) := by decide +kernel
theorem dChances_findHoped_15 : decode YChances_findHoped.2.1 15 = .ok (.getfield 53, 3) := by decide +kernel
theorem dChances_findHoped_18 : decode YChances_findHoped.2.1 18 = .ok (.ishl, 1) := by decide +kernel
theorem dChances_findHoped_19 : decode YChances_findHoped.2.1 19 = .ok (.if_icmp .ge 43, 3) := by decide +kernel
theorem dChances_findHoped_22 : decode YChances_findHoped.2.1 22 = .ok (.iload_n 3, 1) := by decide +kernel
theorem dChances_findHoped_23 : decode YChances_findHoped.2.1 23 = .ok (.invokestatic 41, 3) := by decide +kernel
theorem dChances_findHoped_26 : decode YChances_findHoped.2.1 26 = .ok (.iload_n 2, 1) := by decide +kernel
theorem dChances_findHoped_27 : decode YChances_findHoped.2.1 27 = .ok (.if_icmp .ne 29, 3) := by decide +kernel
theorem dChances_findHoped_30 : decode YChances_findHoped.2.1 30 = .ok (.aload_n 0, 1) := by decide +kernel
theorem dChances_findHoped_31 : decode YChances_findHoped.2.1 31 = .ok (.dup, 1) := by decide +kernel
theorem dChances_findHoped_32 : decode YChances_findHoped.2.1 32 = .ok (.getfield 18, 3) := by decide +kernel
theorem dChances_findHoped_35 : decode YChances_findHoped.2.1 35 = .ok (.aload_n 0, 1) := by decide +kernel
theorem dChances_findHoped_36 : decode YChances_findHoped.2.1 36 = .ok (.aload_n 1, 1) := by decide +kernel
theorem dChances_findHoped_37 : decode YChances_findHoped.2.1 37 = .ok (.iload_n 3, 1) := by decide +kernel
theorem dChances_findHoped_38 : decode YChances_findHoped.2.1 38 = .ok (.invokevirtual 70, 3) := by decide +kernel
theorem dChances_findHoped_41 : decode YChances_findHoped.2.1 41 = .ok (.i2l, 1) := by decide +kernel
theorem dChances_findHoped_42 : decode YChances_findHoped.2.1 42 = .ok (.ladd, 1) := by decide +kernel
theorem dChances_findHoped_43 : decode YChances_findHoped.2.1 43 = .ok (.putfield 18, 3) := by decide +kernel
theorem dChances_findHoped_46 : decode YChances_findHoped.2.1 46 = .ok (.aload_n 0, 1) := by decide +kernel
theorem dChances_findHoped_47 : decode YChances_findHoped.2.1 47 = .ok (.dup, 1) := by decide +kernel
theorem dChances_findHoped_48 : decode YChances_findHoped.2.1 48 = .ok (.getfield 28, 3) := by decide +kernel
theorem dChances_findHoped_51 : decode YChances_findHoped.2.1 51 = .ok (.lconst 1, 1) := by decide +kernel
theorem dChances_findHoped_52 : decode YChances_findHoped.2.1 52 = .ok (.ladd, 1) := by decide +kernel
theorem dChances_findHoped_53 : decode YChances_findHoped.2.1 53 = .ok (.putfield 28, 3) := by decide +kernel
theorem dChances_findHoped_56 : decode YChances_findHoped.2.1 56 = .ok (.iinc 3 1, 3) := by decide +kernel
theorem dChances_findHoped_59 : decode YChances_findHoped.2.1 59 = .ok (.goto (-47), 3) := by decide +kernel
theorem dChances_findHoped_62 : decode YChances_findHoped.2.1 62 = .ok (.return_, 1) := by decide +kernel
theorem dChances_moodsBehind_0 : decode YChances_moodsBehind.2.1 0 = .ok (.aload_n 0, 1) := by decide +kernel
theorem dChances_moodsBehind_1 : decode YChances_moodsBehind.2.1 1 = .ok (.getfield 15, 3) := by decide +kernel
theorem dChances_moodsBehind_4 : decode YChances_moodsBehind.2.1 4 = .ok (.iconst (-1), 1) := by decide +kernel
theorem dChances_moodsBehind_5 : decode YChances_moodsBehind.2.1 5 = .ok (.invokestatic 74, 3) := by decide +kernel
theorem dChances_moodsBehind_8 : decode YChances_moodsBehind.2.1 8 = .ok (.iconst 0, 1) := by decide +kernel
theorem dChances_moodsBehind_9 : decode YChances_moodsBehind.2.1 9 = .ok (.istore_n 3, 1) := by decide +kernel
theorem dChances_moodsBehind_10 : decode YChances_moodsBehind.2.1 10 = .ok (.iconst 0, 1) := by decide +kernel
theorem dChances_moodsBehind_11 : decode YChances_moodsBehind.2.1 11 = .ok (.istore 4, 2) := by decide +kernel
theorem dChances_moodsBehind_13 : decode YChances_moodsBehind.2.1 13 = .ok (.iload 4, 2) := by decide +kernel
theorem dChances_moodsBehind_15 : decode YChances_moodsBehind.2.1 15 = .ok (.aload_n 1, 1) := by decide +kernel
theorem dChances_moodsBehind_16 : decode YChances_moodsBehind.2.1 16 = .ok (.getfield 80, 3) := by decide +kernel
theorem dChances_moodsBehind_19 : decode YChances_moodsBehind.2.1 19 = .ok (.if_icmp .ge 19, 3) := by decide +kernel
theorem dChances_moodsBehind_22 : decode YChances_moodsBehind.2.1 22 = .ok (.iload_n 3, 1) := by decide +kernel
theorem dChances_moodsBehind_23 : decode YChances_moodsBehind.2.1 23 = .ok (.aload_n 1, 1) := by decide +kernel
theorem dChances_moodsBehind_24 : decode YChances_moodsBehind.2.1 24 = .ok (.getfield 50, 3) := by decide +kernel
theorem dChances_moodsBehind_27 : decode YChances_moodsBehind.2.1 27 = .ok (.iload 4, 2) := by decide +kernel
theorem dChances_moodsBehind_29 : decode YChances_moodsBehind.2.1 29 = .ok (.iaload, 1) := by decide +kernel
theorem dChances_moodsBehind_30 : decode YChances_moodsBehind.2.1 30 = .ok (.iadd, 1) := by decide +kernel
theorem dChances_moodsBehind_31 : decode YChances_moodsBehind.2.1 31 = .ok (.istore_n 3, 1) := by decide +kernel
theorem dChances_moodsBehind_32 : decode YChances_moodsBehind.2.1 32 = .ok (.iinc 4 1, 3) := by decide +kernel
theorem dChances_moodsBehind_35 : decode YChances_moodsBehind.2.1 35 = .ok (.goto (-22), 3) := by decide +kernel
theorem dChances_moodsBehind_38 : decode YChances_moodsBehind.2.1 38 = .ok (.iconst 0, 1) := by decide +kernel
theorem dChances_moodsBehind_39 : decode YChances_moodsBehind.2.1 39 = .ok (.istore 4, 2) := by decide +kernel
theorem dChances_moodsBehind_41 : decode YChances_moodsBehind.2.1 41 = .ok (.iload 4, 2) := by decide +kernel
theorem dChances_moodsBehind_43 : decode YChances_moodsBehind.2.1 43 = .ok (.aload_n 1, 1) := by decide +kernel
theorem dChances_moodsBehind_44 : decode YChances_moodsBehind.2.1 44 = .ok (.getfield 53, 3) := by decide +kernel
theorem dChances_moodsBehind_47 : decode YChances_moodsBehind.2.1 47 = .ok (.if_icmp .ge 58, 3) := by decide +kernel
theorem dChances_moodsBehind_50 : decode YChances_moodsBehind.2.1 50 = .ok (.iload_n 2, 1) := by decide +kernel
theorem dChances_moodsBehind_51 : decode YChances_moodsBehind.2.1 51 = .ok (.iload 4, 2) := by decide +kernel
theorem dChances_moodsBehind_53 : decode YChances_moodsBehind.2.1 53 = .ok (.ishr, 1) := by decide +kernel
theorem dChances_moodsBehind_54 : decode YChances_moodsBehind.2.1 54 = .ok (.iconst 1, 1) := by decide +kernel
theorem dChances_moodsBehind_55 : decode YChances_moodsBehind.2.1 55 = .ok (.iand, 1) := by decide +kernel
theorem dChances_moodsBehind_56 : decode YChances_moodsBehind.2.1 56 = .ok (.iconst 1, 1) := by decide +kernel
theorem dChances_moodsBehind_57 : decode YChances_moodsBehind.2.1 57 = .ok (.if_icmp .ne 42, 3) := by decide +kernel
theorem dChances_moodsBehind_60 : decode YChances_moodsBehind.2.1 60 = .ok (.aload_n 1, 1) := by decide +kernel
theorem dChances_moodsBehind_61 : decode YChances_moodsBehind.2.1 61 = .ok (.getfield 83, 3) := by decide +kernel
theorem dChances_moodsBehind_64 : decode YChances_moodsBehind.2.1 64 = .ok (.iload 4, 2) := by decide +kernel
theorem dChances_moodsBehind_66 : decode YChances_moodsBehind.2.1 66 = .ok (.iaload, 1) := by decide +kernel
theorem dChances_moodsBehind_67 : decode YChances_moodsBehind.2.1 67 = .ok (.istore 5, 2) := by decide +kernel
theorem dChances_moodsBehind_69 : decode YChances_moodsBehind.2.1 69 = .ok (.iload_n 3, 1) := by decide +kernel
theorem dChances_moodsBehind_70 : decode YChances_moodsBehind.2.1 70 = .ok (.aload_n 1, 1) := by decide +kernel
theorem dChances_moodsBehind_71 : decode YChances_moodsBehind.2.1 71 = .ok (.iload 4, 2) := by decide +kernel
theorem dChances_moodsBehind_73 : decode YChances_moodsBehind.2.1 73 = .ok (.aload_n 0, 1) := by decide +kernel
theorem dChances_moodsBehind_74 : decode YChances_moodsBehind.2.1 74 = .ok (.getfield 15, 3) := by decide +kernel
theorem dChances_moodsBehind_77 : decode YChances_moodsBehind.2.1 77 = .ok (.iload 5, 2) := by decide +kernel
theorem dChances_moodsBehind_79 : decode YChances_moodsBehind.2.1 79 = .ok (.iaload, 1) := by decide +kernel
theorem dChances_moodsBehind_80 : decode YChances_moodsBehind.2.1 80 = .ok (.invokevirtual 60, 3) := by decide +kernel
theorem dChances_moodsBehind_83 : decode YChances_moodsBehind.2.1 83 = .ok (.iadd, 1) := by decide +kernel
theorem dChances_moodsBehind_84 : decode YChances_moodsBehind.2.1 84 = .ok (.istore_n 3, 1) := by decide +kernel
theorem dChances_moodsBehind_85 : decode YChances_moodsBehind.2.1 85 = .ok (.aload_n 0, 1) := by decide +kernel
theorem dChances_moodsBehind_86 : decode YChances_moodsBehind.2.1 86 = .ok (.getfield 15, 3) := by decide +kernel
theorem dChances_moodsBehind_89 : decode YChances_moodsBehind.2.1 89 = .ok (.iload 5, 2) := by decide +kernel
theorem dChances_moodsBehind_91 : decode YChances_moodsBehind.2.1 91 = .ok (.aload_n 1, 1) := by decide +kernel
theorem dChances_moodsBehind_92 : decode YChances_moodsBehind.2.1 92 = .ok (.getfield 57, 3) := by decide +kernel
theorem dChances_moodsBehind_95 : decode YChances_moodsBehind.2.1 95 = .ok (.iload 4, 2) := by decide +kernel
theorem dChances_moodsBehind_97 : decode YChances_moodsBehind.2.1 97 = .ok (.iaload, 1) := by decide +kernel
theorem dChances_moodsBehind_98 : decode YChances_moodsBehind.2.1 98 = .ok (.iastore, 1) := by decide +kernel
theorem dChances_moodsBehind_99 : decode YChances_moodsBehind.2.1 99 = .ok (.iinc 4 1, 3) := by decide +kernel
theorem dChances_moodsBehind_102 : decode YChances_moodsBehind.2.1 102 = .ok (.goto (-61), 3) := by decide +kernel
theorem dChances_moodsBehind_105 : decode YChances_moodsBehind.2.1 105 = .ok (.iload_n 3, 1) := by decide +kernel
theorem dChances_moodsBehind_106 : decode YChances_moodsBehind.2.1 106 = .ok (.ireturn, 1) := by decide +kernel
theorem dChances_findStrike_0 : decode YChances_findStrike.2.1 0 = .ok (.aload_n 0, 1) := by decide +kernel
theorem dChances_findStrike_1 : decode YChances_findStrike.2.1 1 = .ok (.aload_n 1, 1) := by decide +kernel
theorem dChances_findStrike_2 : decode YChances_findStrike.2.1 2 = .ok (.putfield 86, 3) := by decide +kernel
theorem dChances_findStrike_5 : decode YChances_findStrike.2.1 5 = .ok (.aload_n 0, 1) := by decide +kernel
theorem dChances_findStrike_6 : decode YChances_findStrike.2.1 6 = .ok (.lconst 0, 1) := by decide +kernel
theorem dChances_findStrike_7 : decode YChances_findStrike.2.1 7 = .ok (.putfield 18, 3) := by decide +kernel
theorem dChances_findStrike_10 : decode YChances_findStrike.2.1 10 = .ok (.aload_n 0, 1) := by decide +kernel
theorem dChances_findStrike_11 : decode YChances_findStrike.2.1 11 = .ok (.lconst 0, 1) := by decide +kernel
theorem dChances_findStrike_12 : decode YChances_findStrike.2.1 12 = .ok (.putfield 28, 3) := by decide +kernel
theorem dChances_findStrike_15 : decode YChances_findStrike.2.1 15 = .ok (.aload_n 0, 1) := by decide +kernel
theorem dChances_findStrike_16 : decode YChances_findStrike.2.1 16 = .ok (.getfield 9, 3) := by decide +kernel
theorem dChances_findStrike_19 : decode YChances_findStrike.2.1 19 = .ok (.iconst 0, 1) := by decide +kernel
theorem dChances_findStrike_20 : decode YChances_findStrike.2.1 20 = .ok (.invokestatic 74, 3) := by decide +kernel
theorem dChances_findStrike_23 : decode YChances_findStrike.2.1 23 = .ok (.aload_n 0, 1) := by decide +kernel
theorem dChances_findStrike_24 : decode YChances_findStrike.2.1 24 = .ok (.getfield 15, 3) := by decide +kernel
theorem dChances_findStrike_27 : decode YChances_findStrike.2.1 27 = .ok (.iconst (-1), 1) := by decide +kernel
theorem dChances_findStrike_28 : decode YChances_findStrike.2.1 28 = .ok (.invokestatic 74, 3) := by decide +kernel
theorem dChances_findStrike_31 : decode YChances_findStrike.2.1 31 = .ok (.aload_n 0, 1) := by decide +kernel
theorem dChances_findStrike_32 : decode YChances_findStrike.2.1 32 = .ok (.iconst 0, 1) := by decide +kernel
theorem dChances_findStrike_33 : decode YChances_findStrike.2.1 33 = .ok (.iload_n 2, 1) := by decide +kernel
theorem dChances_findStrike_34 : decode YChances_findStrike.2.1 34 = .ok (.invokevirtual 90, 3) := by decide +kernel
theorem dChances_findStrike_37 : decode YChances_findStrike.2.1 37 = .ok (.return_, 1) := by decide +kernel
theorem dChances_goOn_0 : decode YChances_goOn.2.1 0 = .ok (.aload_n 0, 1) := by decide +kernel
theorem dChances_goOn_1 : decode YChances_goOn.2.1 1 = .ok (.getfield 86, 3) := by decide +kernel
theorem dChances_goOn_4 : decode YChances_goOn.2.1 4 = .ok (.getfield 53, 3) := by decide +kernel
theorem dChances_goOn_7 : decode YChances_goOn.2.1 7 = .ok (.iload_n 1, 1) := by decide +kernel
theorem dChances_goOn_8 : decode YChances_goOn.2.1 8 = .ok (.isub, 1) := by decide +kernel
theorem dChances_goOn_9 : decode YChances_goOn.2.1 9 = .ok (.istore_n 3, 1) := by decide +kernel
theorem dChances_goOn_10 : decode YChances_goOn.2.1 10 = .ok (.iload_n 3, 1) := by decide +kernel
theorem dChances_goOn_11 : decode YChances_goOn.2.1 11 = .ok (.ifCond .gt 35, 3) := by decide +kernel
theorem dChances_goOn_14 : decode YChances_goOn.2.1 14 = .ok (.aload_n 0, 1) := by decide +kernel
theorem dChances_goOn_15 : decode YChances_goOn.2.1 15 = .ok (.dup, 1) := by decide +kernel
theorem dChances_goOn_16 : decode YChances_goOn.2.1 16 = .ok (.getfield 28, 3) := by decide +kernel
theorem dChances_goOn_19 : decode YChances_goOn.2.1 19 = .ok (.lconst 1, 1) := by decide +kernel
theorem dChances_goOn_20 : decode YChances_goOn.2.1 20 = .ok (.ladd, 1) := by decide +kernel
theorem dChances_goOn_21 : decode YChances_goOn.2.1 21 = .ok (.putfield 28, 3) := by decide +kernel
theorem dChances_goOn_24 : decode YChances_goOn.2.1 24 = .ok (.aload_n 0, 1) := by decide +kernel
theorem dChances_goOn_25 : decode YChances_goOn.2.1 25 = .ok (.dup, 1) := by decide +kernel
theorem dChances_goOn_26 : decode YChances_goOn.2.1 26 = .ok (.getfield 18, 3) := by decide +kernel
theorem dChances_goOn_29 : decode YChances_goOn.2.1 29 = .ok (.aload_n 0, 1) := by decide +kernel
theorem dChances_goOn_30 : decode YChances_goOn.2.1 30 = .ok (.invokevirtual 94, 3) := by decide +kernel
theorem dChances_goOn_33 : decode YChances_goOn.2.1 33 = .ok (.ifCond .eq 7, 3) := by decide +kernel
theorem dChances_goOn_36 : decode YChances_goOn.2.1 36 = .ok (.lconst 1, 1) := by decide +kernel
theorem dChances_goOn_37 : decode YChances_goOn.2.1 37 = .ok (.goto 4, 3) := by decide +kernel
theorem dChances_goOn_40 : decode YChances_goOn.2.1 40 = .ok (.lconst 0, 1) := by decide +kernel
theorem dChances_goOn_41 : decode YChances_goOn.2.1 41 = .ok (.ladd, 1) := by decide +kernel
theorem dChances_goOn_42 : decode YChances_goOn.2.1 42 = .ok (.putfield 18, 3) := by decide +kernel
theorem dChances_goOn_45 : decode YChances_goOn.2.1 45 = .ok (.return_, 1) := by decide +kernel
theorem dChances_goOn_46 : decode YChances_goOn.2.1 46 = .ok (.iload_n 2, 1) := by decide +kernel
theorem dChances_goOn_47 : decode YChances_goOn.2.1 47 = .ok (.iload_n 3, 1) := by decide +kernel
theorem dChances_goOn_48 : decode YChances_goOn.2.1 48 = .ok (.if_icmp .ge 18, 3) := by decide +kernel
theorem dChances_goOn_51 : decode YChances_goOn.2.1 51 = .ok (.aload_n 0, 1) := by decide +kernel
theorem dChances_goOn_52 : decode YChances_goOn.2.1 52 = .ok (.iload_n 1, 1) := by decide +kernel
theorem dChances_goOn_53 : decode YChances_goOn.2.1 53 = .ok (.aload_n 0, 1) := by decide +kernel
theorem dChances_goOn_54 : decode YChances_goOn.2.1 54 = .ok (.getfield 86, 3) := by decide +kernel
theorem dChances_goOn_57 : decode YChances_goOn.2.1 57 = .ok (.getfield 83, 3) := by decide +kernel
theorem dChances_goOn_60 : decode YChances_goOn.2.1 60 = .ok (.iload_n 1, 1) := by decide +kernel
theorem dChances_goOn_61 : decode YChances_goOn.2.1 61 = .ok (.iaload, 1) := by decide +kernel
theorem dChances_goOn_62 : decode YChances_goOn.2.1 62 = .ok (.iload_n 2, 1) := by decide +kernel
theorem dChances_goOn_63 : decode YChances_goOn.2.1 63 = .ok (.invokevirtual 98, 3) := by decide +kernel
theorem dChances_goOn_66 : decode YChances_goOn.2.1 66 = .ok (.iconst 0, 1) := by decide +kernel
theorem dChances_goOn_67 : decode YChances_goOn.2.1 67 = .ok (.istore 4, 2) := by decide +kernel
theorem dChances_goOn_69 : decode YChances_goOn.2.1 69 = .ok (.iload 4, 2) := by decide +kernel
theorem dChances_goOn_71 : decode YChances_goOn.2.1 71 = .ok (.aload_n 0, 1) := by decide +kernel
theorem dChances_goOn_72 : decode YChances_goOn.2.1 72 = .ok (.getfield 86, 3) := by decide +kernel
theorem dChances_goOn_75 : decode YChances_goOn.2.1 75 = .ok (.getfield 80, 3) := by decide +kernel
theorem dChances_goOn_78 : decode YChances_goOn.2.1 78 = .ok (.if_icmp .ge 23, 3) := by decide +kernel
theorem dChances_goOn_81 : decode YChances_goOn.2.1 81 = .ok (.iload_n 2, 1) := by decide +kernel
theorem dChances_goOn_82 : decode YChances_goOn.2.1 82 = .ok (.ifCond .le 19, 3) := by decide +kernel
theorem dChances_goOn_85 : decode YChances_goOn.2.1 85 = .ok (.aload_n 0, 1) := by decide +kernel
theorem dChances_goOn_86 : decode YChances_goOn.2.1 86 = .ok (.iload_n 1, 1) := by decide +kernel
theorem dChances_goOn_87 : decode YChances_goOn.2.1 87 = .ok (.iload 4, 2) := by decide +kernel
theorem dChances_goOn_89 : decode YChances_goOn.2.1 89 = .ok (.iload_n 2, 1) := by decide +kernel
theorem dChances_goOn_90 : decode YChances_goOn.2.1 90 = .ok (.iconst 1, 1) := by decide +kernel
theorem dChances_goOn_91 : decode YChances_goOn.2.1 91 = .ok (.isub, 1) := by decide +kernel
theorem dChances_goOn_92 : decode YChances_goOn.2.1 92 = .ok (.invokevirtual 98, 3) := by decide +kernel
theorem dChances_goOn_95 : decode YChances_goOn.2.1 95 = .ok (.iinc 4 1, 3) := by decide +kernel
theorem dChances_goOn_98 : decode YChances_goOn.2.1 98 = .ok (.goto (-29), 3) := by decide +kernel
theorem dChances_goOn_101 : decode YChances_goOn.2.1 101 = .ok (.return_, 1) := by decide +kernel
theorem dChances_bring_0 : decode YChances_bring.2.1 0 = .ok (.aload_n 0, 1) := by decide +kernel
theorem dChances_bring_1 : decode YChances_bring.2.1 1 = .ok (.getfield 15, 3) := by decide +kernel
theorem dChances_bring_4 : decode YChances_bring.2.1 4 = .ok (.iload_n 2, 1) := by decide +kernel
theorem dChances_bring_5 : decode YChances_bring.2.1 5 = .ok (.iaload, 1) := by decide +kernel
theorem dChances_bring_6 : decode YChances_bring.2.1 6 = .ok (.istore 4, 2) := by decide +kernel
theorem dChances_bring_8 : decode YChances_bring.2.1 8 = .ok (.aload_n 0, 1) := by decide +kernel
theorem dChances_bring_9 : decode YChances_bring.2.1 9 = .ok (.getfield 86, 3) := by decide +kernel
theorem dChances_bring_12 : decode YChances_bring.2.1 12 = .ok (.iload_n 1, 1) := by decide +kernel
theorem dChances_bring_13 : decode YChances_bring.2.1 13 = .ok (.iload 4, 2) := by decide +kernel
theorem dChances_bring_15 : decode YChances_bring.2.1 15 = .ok (.invokevirtual 60, 3) := by decide +kernel
theorem dChances_bring_18 : decode YChances_bring.2.1 18 = .ok (.istore 5, 2) := by decide +kernel
theorem dChances_bring_20 : decode YChances_bring.2.1 20 = .ok (.aload_n 0, 1) := by decide +kernel
theorem dChances_bring_21 : decode YChances_bring.2.1 21 = .ok (.getfield 9, 3) := by decide +kernel
theorem dChances_bring_24 : decode YChances_bring.2.1 24 = .ok (.iload_n 2, 1) := by decide +kernel
theorem dChances_bring_25 : decode YChances_bring.2.1 25 = .ok (.dup2, 1) := by decide +kernel
theorem dChances_bring_26 : decode YChances_bring.2.1 26 = .ok (.iaload, 1) := by decide +kernel
theorem dChances_bring_27 : decode YChances_bring.2.1 27 = .ok (.iload 5, 2) := by decide +kernel
theorem dChances_bring_29 : decode YChances_bring.2.1 29 = .ok (.iadd, 1) := by decide +kernel
theorem dChances_bring_30 : decode YChances_bring.2.1 30 = .ok (.iastore, 1) := by decide +kernel
theorem dChances_bring_31 : decode YChances_bring.2.1 31 = .ok (.aload_n 0, 1) := by decide +kernel
theorem dChances_bring_32 : decode YChances_bring.2.1 32 = .ok (.getfield 15, 3) := by decide +kernel
theorem dChances_bring_35 : decode YChances_bring.2.1 35 = .ok (.iload_n 2, 1) := by decide +kernel
theorem dChances_bring_36 : decode YChances_bring.2.1 36 = .ok (.aload_n 0, 1) := by decide +kernel
theorem dChances_bring_37 : decode YChances_bring.2.1 37 = .ok (.getfield 86, 3) := by decide +kernel
theorem dChances_bring_40 : decode YChances_bring.2.1 40 = .ok (.getfield 57, 3) := by decide +kernel
theorem dChances_bring_43 : decode YChances_bring.2.1 43 = .ok (.iload_n 1, 1) := by decide +kernel
theorem dChances_bring_44 : decode YChances_bring.2.1 44 = .ok (.iaload, 1) := by decide +kernel
theorem dChances_bring_45 : decode YChances_bring.2.1 45 = .ok (.iastore, 1) := by decide +kernel
theorem dChances_bring_46 : decode YChances_bring.2.1 46 = .ok (.aload_n 0, 1) := by decide +kernel
theorem dChances_bring_47 : decode YChances_bring.2.1 47 = .ok (.iload_n 1, 1) := by decide +kernel
theorem dChances_bring_48 : decode YChances_bring.2.1 48 = .ok (.iconst 1, 1) := by decide +kernel
theorem dChances_bring_49 : decode YChances_bring.2.1 49 = .ok (.iadd, 1) := by decide +kernel
theorem dChances_bring_50 : decode YChances_bring.2.1 50 = .ok (.iload_n 3, 1) := by decide +kernel
theorem dChances_bring_51 : decode YChances_bring.2.1 51 = .ok (.invokevirtual 90, 3) := by decide +kernel
theorem dChances_bring_54 : decode YChances_bring.2.1 54 = .ok (.aload_n 0, 1) := by decide +kernel
theorem dChances_bring_55 : decode YChances_bring.2.1 55 = .ok (.getfield 9, 3) := by decide +kernel
theorem dChances_bring_58 : decode YChances_bring.2.1 58 = .ok (.iload_n 2, 1) := by decide +kernel
theorem dChances_bring_59 : decode YChances_bring.2.1 59 = .ok (.dup2, 1) := by decide +kernel
theorem dChances_bring_60 : decode YChances_bring.2.1 60 = .ok (.iaload, 1) := by decide +kernel
theorem dChances_bring_61 : decode YChances_bring.2.1 61 = .ok (.iload 5, 2) := by decide +kernel
theorem dChances_bring_63 : decode YChances_bring.2.1 63 = .ok (.isub, 1) := by decide +kernel
theorem dChances_bring_64 : decode YChances_bring.2.1 64 = .ok (.iastore, 1) := by decide +kernel
theorem dChances_bring_65 : decode YChances_bring.2.1 65 = .ok (.aload_n 0, 1) := by decide +kernel
theorem dChances_bring_66 : decode YChances_bring.2.1 66 = .ok (.getfield 15, 3) := by decide +kernel
theorem dChances_bring_69 : decode YChances_bring.2.1 69 = .ok (.iload_n 2, 1) := by decide +kernel
theorem dChances_bring_70 : decode YChances_bring.2.1 70 = .ok (.iload 4, 2) := by decide +kernel
theorem dChances_bring_72 : decode YChances_bring.2.1 72 = .ok (.iastore, 1) := by decide +kernel
theorem dChances_bring_73 : decode YChances_bring.2.1 73 = .ok (.return_, 1) := by decide +kernel
theorem dChances_noneIsLower_0 : decode YChances_noneIsLower.2.1 0 = .ok (.iconst 0, 1) := by decide +kernel
theorem dChances_noneIsLower_1 : decode YChances_noneIsLower.2.1 1 = .ok (.istore_n 1, 1) := by decide +kernel
theorem dChances_noneIsLower_2 : decode YChances_noneIsLower.2.1 2 = .ok (.iload_n 1, 1) := by decide +kernel
theorem dChances_noneIsLower_3 : decode YChances_noneIsLower.2.1 3 = .ok (.aload_n 0, 1) := by decide +kernel
theorem dChances_noneIsLower_4 : decode YChances_noneIsLower.2.1 4 = .ok (.getfield 86, 3) := by decide +kernel
theorem dChances_noneIsLower_7 : decode YChances_noneIsLower.2.1 7 = .ok (.getfield 80, 3) := by decide +kernel
theorem dChances_noneIsLower_10 : decode YChances_noneIsLower.2.1 10 = .ok (.if_icmp .ge 20, 3) := by decide +kernel
theorem dChances_noneIsLower_13 : decode YChances_noneIsLower.2.1 13 = .ok (.aload_n 0, 1) := by decide +kernel
theorem dChances_noneIsLower_14 : decode YChances_noneIsLower.2.1 14 = .ok (.getfield 9, 3) := by decide +kernel
theorem dChances_noneIsLower_17 : decode YChances_noneIsLower.2.1 17 = .ok (.iload_n 1, 1) := by decide +kernel
theorem dChances_noneIsLower_18 : decode YChances_noneIsLower.2.1 18 = .ok (.iaload, 1) := by decide +kernel
theorem dChances_noneIsLower_19 : decode YChances_noneIsLower.2.1 19 = .ok (.ifCond .ge 5, 3) := by decide +kernel
theorem dChances_noneIsLower_22 : decode YChances_noneIsLower.2.1 22 = .ok (.iconst 0, 1) := by decide +kernel
theorem dChances_noneIsLower_23 : decode YChances_noneIsLower.2.1 23 = .ok (.ireturn, 1) := by decide +kernel
theorem dChances_noneIsLower_24 : decode YChances_noneIsLower.2.1 24 = .ok (.iinc 1 1, 3) := by decide +kernel
theorem dChances_noneIsLower_27 : decode YChances_noneIsLower.2.1 27 = .ok (.goto (-25), 3) := by decide +kernel
theorem dChances_noneIsLower_30 : decode YChances_noneIsLower.2.1 30 = .ok (.iconst 1, 1) := by decide +kernel
theorem dChances_noneIsLower_31 : decode YChances_noneIsLower.2.1 31 = .ok (.ireturn, 1) := by decide +kernel
theorem dCourse_init_0 : decode YCourse_init.2.1 0 = .ok (.aload_n 0, 1) := by decide +kernel
theorem dCourse_init_1 : decode YCourse_init.2.1 1 = .ok (.invokespecial 3, 3) := by decide +kernel
theorem dCourse_init_4 : decode YCourse_init.2.1 4 = .ok (.aload_n 0, 1) := by decide +kernel
theorem dCourse_init_5 : decode YCourse_init.2.1 5 = .ok (.bipush 6, 2) := by decide +kernel
theorem dCourse_init_7 : decode YCourse_init.2.1 7 = .ok (.newarray .int, 2) := by decide +kernel
theorem dCourse_init_9 : decode YCourse_init.2.1 9 = .ok (.putfield 9, 3) := by decide +kernel
theorem dCourse_init_12 : decode YCourse_init.2.1 12 = .ok (.aload_n 0, 1) := by decide +kernel
theorem dCourse_init_13 : decode YCourse_init.2.1 13 = .ok (.bipush 6, 2) := by decide +kernel
theorem dCourse_init_15 : decode YCourse_init.2.1 15 = .ok (.newarray .int, 2) := by decide +kernel
theorem dCourse_init_17 : decode YCourse_init.2.1 17 = .ok (.putfield 15, 3) := by decide +kernel
theorem dCourse_init_20 : decode YCourse_init.2.1 20 = .ok (.aload_n 0, 1) := by decide +kernel
theorem dCourse_init_21 : decode YCourse_init.2.1 21 = .ok (.bipush 6, 2) := by decide +kernel
theorem dCourse_init_23 : decode YCourse_init.2.1 23 = .ok (.newarray .int, 2) := by decide +kernel
theorem dCourse_init_25 : decode YCourse_init.2.1 25 = .ok (.putfield 18, 3) := by decide +kernel
theorem dCourse_init_28 : decode YCourse_init.2.1 28 = .ok (.return_, 1) := by decide +kernel
theorem dCourse_begin_0 : decode YCourse_begin.2.1 0 = .ok (.aload_n 0, 1) := by decide +kernel
theorem dCourse_begin_1 : decode YCourse_begin.2.1 1 = .ok (.aload_n 1, 1) := by decide +kernel
theorem dCourse_begin_2 : decode YCourse_begin.2.1 2 = .ok (.putfield 21, 3) := by decide +kernel
theorem dCourse_begin_5 : decode YCourse_begin.2.1 5 = .ok (.aload_n 0, 1) := by decide +kernel
theorem dCourse_begin_6 : decode YCourse_begin.2.1 6 = .ok (.iconst 1, 1) := by decide +kernel
theorem dCourse_begin_7 : decode YCourse_begin.2.1 7 = .ok (.aload_n 1, 1) := by decide +kernel
theorem dCourse_begin_8 : decode YCourse_begin.2.1 8 = .ok (.getfield 25, 3) := by decide +kernel
theorem dCourse_begin_11 : decode YCourse_begin.2.1 11 = .ok (.ishl, 1) := by decide +kernel
theorem dCourse_begin_12 : decode YCourse_begin.2.1 12 = .ok (.iconst 1, 1) := by decide +kernel
theorem dCourse_begin_13 : decode YCourse_begin.2.1 13 = .ok (.isub, 1) := by decide +kernel
theorem dCourse_begin_14 : decode YCourse_begin.2.1 14 = .ok (.putfield 31, 3) := by decide +kernel
theorem dCourse_begin_17 : decode YCourse_begin.2.1 17 = .ok (.aload_n 0, 1) := by decide +kernel
theorem dCourse_begin_18 : decode YCourse_begin.2.1 18 = .ok (.iconst 0, 1) := by decide +kernel
theorem dCourse_begin_19 : decode YCourse_begin.2.1 19 = .ok (.putfield 34, 3) := by decide +kernel
theorem dCourse_begin_22 : decode YCourse_begin.2.1 22 = .ok (.aload_n 0, 1) := by decide +kernel
theorem dCourse_begin_23 : decode YCourse_begin.2.1 23 = .ok (.iconst 0, 1) := by decide +kernel
theorem dCourse_begin_24 : decode YCourse_begin.2.1 24 = .ok (.putfield 37, 3) := by decide +kernel
theorem dCourse_begin_27 : decode YCourse_begin.2.1 27 = .ok (.aload_n 0, 1) := by decide +kernel
theorem dCourse_begin_28 : decode YCourse_begin.2.1 28 = .ok (.iconst 0, 1) := by decide +kernel
theorem dCourse_begin_29 : decode YCourse_begin.2.1 29 = .ok (.putfield 40, 3) := by decide +kernel
theorem dCourse_begin_32 : decode YCourse_begin.2.1 32 = .ok (.aload_n 1, 1) := by decide +kernel
theorem dCourse_begin_33 : decode YCourse_begin.2.1 33 = .ok (.getfield 43, 3) := by decide +kernel
theorem dCourse_begin_36 : decode YCourse_begin.2.1 36 = .ok (.iconst 0, 1) := by decide +kernel
theorem dCourse_begin_37 : decode YCourse_begin.2.1 37 = .ok (.aload_n 0, 1) := by decide +kernel
theorem dCourse_begin_38 : decode YCourse_begin.2.1 38 = .ok (.getfield 9, 3) := by decide +kernel
theorem dCourse_begin_41 : decode YCourse_begin.2.1 41 = .ok (.iconst 0, 1) := by decide +kernel
theorem dCourse_begin_42 : decode YCourse_begin.2.1 42 = .ok (.bipush 6, 2) := by decide +kernel
theorem dCourse_begin_44 : decode YCourse_begin.2.1 44 = .ok (.invokestatic 44, 3) := by decide +kernel
theorem dCourse_begin_47 : decode YCourse_begin.2.1 47 = .ok (.aload_n 0, 1) := by decide +kernel
theorem dCourse_begin_48 : decode YCourse_begin.2.1 48 = .ok (.getfield 15, 3) := by decide +kernel
theorem dCourse_begin_51 : decode YCourse_begin.2.1 51 = .ok (.iconst (-1), 1) := by decide +kernel
theorem dCourse_begin_52 : decode YCourse_begin.2.1 52 = .ok (.invokestatic 50, 3) := by decide +kernel
theorem dCourse_begin_55 : decode YCourse_begin.2.1 55 = .ok (.aload_n 0, 1) := by decide +kernel
theorem dCourse_begin_56 : decode YCourse_begin.2.1 56 = .ok (.getfield 18, 3) := by decide +kernel
theorem dCourse_begin_59 : decode YCourse_begin.2.1 59 = .ok (.iconst 0, 1) := by decide +kernel
theorem dCourse_begin_60 : decode YCourse_begin.2.1 60 = .ok (.invokestatic 50, 3) := by decide +kernel
theorem dCourse_begin_63 : decode YCourse_begin.2.1 63 = .ok (.aload_n 0, 1) := by decide +kernel
theorem dCourse_begin_64 : decode YCourse_begin.2.1 64 = .ok (.iconst 0, 1) := by decide +kernel
theorem dCourse_begin_65 : decode YCourse_begin.2.1 65 = .ok (.putfield 56, 3) := by decide +kernel
theorem dCourse_begin_68 : decode YCourse_begin.2.1 68 = .ok (.aload_n 0, 1) := by decide +kernel
theorem dCourse_begin_69 : decode YCourse_begin.2.1 69 = .ok (.aload_n 0, 1) := by decide +kernel
theorem dCourse_begin_70 : decode YCourse_begin.2.1 70 = .ok (.getfield 9, 3) := by decide +kernel
theorem dCourse_begin_73 : decode YCourse_begin.2.1 73 = .ok (.iconst 0, 1) := by decide +kernel
theorem dCourse_begin_74 : decode YCourse_begin.2.1 74 = .ok (.iaload, 1) := by decide +kernel
theorem dCourse_begin_75 : decode YCourse_begin.2.1 75 = .ok (.putfield 59, 3) := by decide +kernel
theorem dCourse_begin_78 : decode YCourse_begin.2.1 78 = .ok (.aload_n 0, 1) := by decide +kernel
theorem dCourse_begin_79 : decode YCourse_begin.2.1 79 = .ok (.iconst 0, 1) := by decide +kernel
theorem dCourse_begin_80 : decode YCourse_begin.2.1 80 = .ok (.putfield 62, 3) := by decide +kernel
theorem dCourse_begin_83 : decode YCourse_begin.2.1 83 = .ok (.aload_n 0, 1) := by decide +kernel
theorem dCourse_begin_84 : decode YCourse_begin.2.1 84 = .ok (.iconst 0, 1) := by decide +kernel
theorem dCourse_begin_85 : decode YCourse_begin.2.1 85 = .ok (.putfield 65, 3) := by decide +kernel
theorem dCourse_begin_88 : decode YCourse_begin.2.1 88 = .ok (.aload_n 0, 1) := by decide +kernel
theorem dCourse_begin_89 : decode YCourse_begin.2.1 89 = .ok (.invokevirtual 68, 3) := by decide +kernel
theorem dCourse_begin_92 : decode YCourse_begin.2.1 92 = .ok (.return_, 1) := by decide +kernel
theorem dCourse_run_0 : decode YCourse_run.2.1 0 = .ok (.aload_n 0, 1) := by decide +kernel
theorem dCourse_run_1 : decode YCourse_run.2.1 1 = .ok (.aload_n 1, 1) := by decide +kernel
theorem dCourse_run_2 : decode YCourse_run.2.1 2 = .ok (.invokevirtual 71, 3) := by decide +kernel
theorem dCourse_run_5 : decode YCourse_run.2.1 5 = .ok (.iload_n 3, 1) := by decide +kernel
theorem dCourse_run_6 : decode YCourse_run.2.1 6 = .ok (.aload_n 2, 1) := by decide +kernel
theorem dCourse_run_7 : decode YCourse_run.2.1 7 = .ok (.getfield 75, 3) := by decide +kernel
theorem dCourse_run_10 : decode YCourse_run.2.1 10 = .ok (.invokestatic 80, 3) := by decide +kernel
theorem dCourse_run_13 : decode YCourse_run.2.1 13 = .ok (.istore 4, 2) := by decide +kernel
theorem dCourse_run_15 : decode YCourse_run.2.1 15 = .ok (.iconst 0, 1) := by decide +kernel
theorem dCourse_run_16 : decode YCourse_run.2.1 16 = .ok (.istore 5, 2) := by decide +kernel
theorem dCourse_run_18 : decode YCourse_run.2.1 18 = .ok (.iload 5, 2) := by decide +kernel
theorem dCourse_run_20 : decode YCourse_run.2.1 20 = .ok (.iload 4, 2) := by decide +kernel
theorem dCourse_run_22 : decode YCourse_run.2.1 22 = .ok (.if_icmp .ge 40, 3) := by decide +kernel
theorem dCourse_run_25 : decode YCourse_run.2.1 25 = .ok (.aload_n 0, 1) := by decide +kernel
theorem dCourse_run_26 : decode YCourse_run.2.1 26 = .ok (.aload_n 2, 1) := by decide +kernel
theorem dCourse_run_27 : decode YCourse_run.2.1 27 = .ok (.getfield 86, 3) := by decide +kernel
theorem dCourse_run_30 : decode YCourse_run.2.1 30 = .ok (.iload 5, 2) := by decide +kernel
theorem dCourse_run_32 : decode YCourse_run.2.1 32 = .ok (.iaload, 1) := by decide +kernel
theorem dCourse_run_33 : decode YCourse_run.2.1 33 = .ok (.aload_n 2, 1) := by decide +kernel
theorem dCourse_run_34 : decode YCourse_run.2.1 34 = .ok (.getfield 89, 3) := by decide +kernel
theorem dCourse_run_37 : decode YCourse_run.2.1 37 = .ok (.iload 5, 2) := by decide +kernel
theorem dCourse_run_39 : decode YCourse_run.2.1 39 = .ok (.iaload, 1) := by decide +kernel
theorem dCourse_run_40 : decode YCourse_run.2.1 40 = .ok (.aload_n 2, 1) := by decide +kernel
theorem dCourse_run_41 : decode YCourse_run.2.1 41 = .ok (.getfield 91, 3) := by decide +kernel
theorem dCourse_run_44 : decode YCourse_run.2.1 44 = .ok (.iload 5, 2) := by decide +kernel
theorem dCourse_run_46 : decode YCourse_run.2.1 46 = .ok (.iaload, 1) := by decide +kernel
theorem dCourse_run_47 : decode YCourse_run.2.1 47 = .ok (.invokevirtual 94, 3) := by decide +kernel
theorem dCourse_run_50 : decode YCourse_run.2.1 50 = .ok (.ifCond .ne 6, 3) := by decide +kernel
theorem dCourse_run_53 : decode YCourse_run.2.1 53 = .ok (.iload 5, 2) := by decide +kernel
theorem dCourse_run_55 : decode YCourse_run.2.1 55 = .ok (.ireturn, 1) := by decide +kernel
theorem dCourse_run_56 : decode YCourse_run.2.1 56 = .ok (.iinc 5 1, 3) := by decide +kernel
theorem dCourse_run_59 : decode YCourse_run.2.1 59 = .ok (.goto (-41), 3) := by decide +kernel
theorem dCourse_run_62 : decode YCourse_run.2.1 62 = .ok (.iload 4, 2) := by decide +kernel
theorem dCourse_run_64 : decode YCourse_run.2.1 64 = .ok (.ireturn, 1) := by decide +kernel
theorem dCourse_draw_0 : decode YCourse_draw.2.1 0 = .ok (.aload_n 0, 1) := by decide +kernel
theorem dCourse_draw_1 : decode YCourse_draw.2.1 1 = .ok (.aload_n 1, 1) := by decide +kernel
theorem dCourse_draw_2 : decode YCourse_draw.2.1 2 = .ok (.invokevirtual 71, 3) := by decide +kernel
theorem dCourse_draw_5 : decode YCourse_draw.2.1 5 = .ok (.aload_n 0, 1) := by decide +kernel
theorem dCourse_draw_6 : decode YCourse_draw.2.1 6 = .ok (.iload_n 2, 1) := by decide +kernel
theorem dCourse_draw_7 : decode YCourse_draw.2.1 7 = .ok (.putfield 98, 3) := by decide +kernel
theorem dCourse_draw_10 : decode YCourse_draw.2.1 10 = .ok (.iconst 0, 1) := by decide +kernel
theorem dCourse_draw_11 : decode YCourse_draw.2.1 11 = .ok (.istore 4, 2) := by decide +kernel
theorem dCourse_draw_13 : decode YCourse_draw.2.1 13 = .ok (.iload 4, 2) := by decide +kernel
theorem dCourse_draw_15 : decode YCourse_draw.2.1 15 = .ok (.iload_n 3, 1) := by decide +kernel
theorem dCourse_draw_16 : decode YCourse_draw.2.1 16 = .ok (.if_icmp .ge 13, 3) := by decide +kernel
theorem dCourse_draw_19 : decode YCourse_draw.2.1 19 = .ok (.aload_n 0, 1) := by decide +kernel
theorem dCourse_draw_20 : decode YCourse_draw.2.1 20 = .ok (.invokevirtual 101, 3) := by decide +kernel
theorem dCourse_draw_23 : decode YCourse_draw.2.1 23 = .ok (.iinc 4 1, 3) := by decide +kernel
theorem dCourse_draw_26 : decode YCourse_draw.2.1 26 = .ok (.goto (-13), 3) := by decide +kernel
theorem dCourse_draw_29 : decode YCourse_draw.2.1 29 = .ok (.return_, 1) := by decide +kernel
theorem dCourse_drawDeed_0 : decode YCourse_drawDeed.2.1 0 = .ok (.aload_n 0, 1) := by decide +kernel
theorem dCourse_drawDeed_1 : decode YCourse_drawDeed.2.1 1 = .ok (.bipush 8, 2) := by decide +kernel
theorem dCourse_drawDeed_3 : decode YCourse_drawDeed.2.1 3 = .ok (.invokevirtual 104, 3) := by decide +kernel
theorem dCourse_drawDeed_6 : decode YCourse_drawDeed.2.1 6 = .ok (.istore_n 1, 1) := by decide +kernel
theorem dCourse_drawDeed_7 : decode YCourse_drawDeed.2.1 7 = .ok (.iload_n 1, 1) := by decide +kernel
theorem dCourse_drawDeed_8 : decode YCourse_drawDeed.2.1 8 = .ok (.bipush 7, 2) := by decide +kernel
theorem dCourse_drawDeed_10 : decode YCourse_drawDeed.2.1 10 = .ok (.if_icmp .ne 14, 3) := by decide +kernel
theorem dCourse_drawDeed_13 : decode YCourse_drawDeed.2.1 13 = .ok (.aload_n 0, 1) := by decide +kernel
theorem dCourse_drawDeed_14 : decode YCourse_drawDeed.2.1 14 = .ok (.iconst 3, 1) := by decide +kernel
theorem dCourse_drawDeed_15 : decode YCourse_drawDeed.2.1 15 = .ok (.iconst (-1), 1) := by decide +kernel
theorem dCourse_drawDeed_16 : decode YCourse_drawDeed.2.1 16 = .ok (.iconst (-1), 1) := by decide +kernel
theorem dCourse_drawDeed_17 : decode YCourse_drawDeed.2.1 17 = .ok (.invokevirtual 94, 3) := by decide +kernel
theorem dCourse_drawDeed_20 : decode YCourse_drawDeed.2.1 20 = .ok (.pop, 1) := by decide +kernel
theorem dCourse_drawDeed_21 : decode YCourse_drawDeed.2.1 21 = .ok (.goto 76, 3) := by decide +kernel
theorem dCourse_drawDeed_24 : decode YCourse_drawDeed.2.1 24 = .ok (.aload_n 0, 1) := by decide +kernel
theorem dCourse_drawDeed_25 : decode YCourse_drawDeed.2.1 25 = .ok (.getfield 21, 3) := by decide +kernel
theorem dCourse_drawDeed_28 : decode YCourse_drawDeed.2.1 28 = .ok (.getfield 25, 3) := by decide +kernel
theorem dCourse_drawDeed_31 : decode YCourse_drawDeed.2.1 31 = .ok (.ifCond .le 66, 3) := by decide +kernel
theorem dCourse_drawDeed_34 : decode YCourse_drawDeed.2.1 34 = .ok (.aload_n 0, 1) := by decide +kernel
theorem dCourse_drawDeed_35 : decode YCourse_drawDeed.2.1 35 = .ok (.aload_n 0, 1) := by decide +kernel
theorem dCourse_drawDeed_36 : decode YCourse_drawDeed.2.1 36 = .ok (.getfield 21, 3) := by decide +kernel
theorem dCourse_drawDeed_39 : decode YCourse_drawDeed.2.1 39 = .ok (.getfield 25, 3) := by decide +kernel
theorem dCourse_drawDeed_42 : decode YCourse_drawDeed.2.1 42 = .ok (.invokevirtual 104, 3) := by decide +kernel
theorem dCourse_drawDeed_45 : decode YCourse_drawDeed.2.1 45 = .ok (.istore_n 2, 1) := by decide +kernel
theorem dCourse_drawDeed_46 : decode YCourse_drawDeed.2.1 46 = .ok (.iload_n 1, 1) := by decide +kernel
theorem dCourse_drawDeed_47 : decode YCourse_drawDeed.2.1 47 = .ok (.iconst 4, 1) := by decide +kernel
theorem dCourse_drawDeed_48 : decode YCourse_drawDeed.2.1 48 = .ok (.if_icmp .ge 14, 3) := by decide +kernel
theorem dCourse_drawDeed_51 : decode YCourse_drawDeed.2.1 51 = .ok (.aload_n 0, 1) := by decide +kernel
theorem dCourse_drawDeed_52 : decode YCourse_drawDeed.2.1 52 = .ok (.iconst 0, 1) := by decide +kernel
theorem dCourse_drawDeed_53 : decode YCourse_drawDeed.2.1 53 = .ok (.iload_n 2, 1) := by decide +kernel
theorem dCourse_drawDeed_54 : decode YCourse_drawDeed.2.1 54 = .ok (.iconst (-1), 1) := by decide +kernel
theorem dCourse_drawDeed_55 : decode YCourse_drawDeed.2.1 55 = .ok (.invokevirtual 94, 3) := by decide +kernel
theorem dCourse_drawDeed_58 : decode YCourse_drawDeed.2.1 58 = .ok (.pop, 1) := by decide +kernel
theorem dCourse_drawDeed_59 : decode YCourse_drawDeed.2.1 59 = .ok (.goto 38, 3) := by decide +kernel
theorem dCourse_drawDeed_62 : decode YCourse_drawDeed.2.1 62 = .ok (.iload_n 1, 1) := by decide +kernel
theorem dCourse_drawDeed_63 : decode YCourse_drawDeed.2.1 63 = .ok (.bipush 6, 2) := by decide +kernel
theorem dCourse_drawDeed_65 : decode YCourse_drawDeed.2.1 65 = .ok (.if_icmp .ge 24, 3) := by decide +kernel
theorem dCourse_drawDeed_68 : decode YCourse_drawDeed.2.1 68 = .ok (.aload_n 0, 1) := by decide +kernel
theorem dCourse_drawDeed_69 : decode YCourse_drawDeed.2.1 69 = .ok (.iconst 1, 1) := by decide +kernel
theorem dCourse_drawDeed_70 : decode YCourse_drawDeed.2.1 70 = .ok (.iload_n 2, 1) := by decide +kernel
theorem dCourse_drawDeed_71 : decode YCourse_drawDeed.2.1 71 = .ok (.aload_n 0, 1) := by decide +kernel
theorem dCourse_drawDeed_72 : decode YCourse_drawDeed.2.1 72 = .ok (.aload_n 0, 1) := by decide +kernel
theorem dCourse_drawDeed_73 : decode YCourse_drawDeed.2.1 73 = .ok (.getfield 21, 3) := by decide +kernel
theorem dCourse_drawDeed_76 : decode YCourse_drawDeed.2.1 76 = .ok (.getfield 108, 3) := by decide +kernel
theorem dCourse_drawDeed_79 : decode YCourse_drawDeed.2.1 79 = .ok (.invokevirtual 104, 3) := by decide +kernel
theorem dCourse_drawDeed_82 : decode YCourse_drawDeed.2.1 82 = .ok (.invokevirtual 94, 3) := by decide +kernel
theorem dCourse_drawDeed_85 : decode YCourse_drawDeed.2.1 85 = .ok (.pop, 1) := by decide +kernel
theorem dCourse_drawDeed_86 : decode YCourse_drawDeed.2.1 86 = .ok (.goto 11, 3) := by decide +kernel
theorem dCourse_drawDeed_89 : decode YCourse_drawDeed.2.1 89 = .ok (.aload_n 0, 1) := by decide +kernel
theorem dCourse_drawDeed_90 : decode YCourse_drawDeed.2.1 90 = .ok (.iconst 2, 1) := by decide +kernel
theorem dCourse_drawDeed_91 : decode YCourse_drawDeed.2.1 91 = .ok (.iload_n 2, 1) := by decide +kernel
theorem dCourse_drawDeed_92 : decode YCourse_drawDeed.2.1 92 = .ok (.iconst (-1), 1) := by decide +kernel
theorem dCourse_drawDeed_93 : decode YCourse_drawDeed.2.1 93 = .ok (.invokevirtual 94, 3) := by decide +kernel
theorem dCourse_drawDeed_96 : decode YCourse_drawDeed.2.1 96 = .ok (.pop, 1) := by decide +kernel
theorem dCourse_drawDeed_97 : decode YCourse_drawDeed.2.1 97 = .ok (.return_, 1) := by decide +kernel
theorem dCourse_drawBelow_0 : decode YCourse_drawBelow.2.1 0 = .ok (.aload_n 0, 1) := by decide +kernel
theorem dCourse_drawBelow_1 : decode YCourse_drawBelow.2.1 1 = .ok (.aload_n 0, 1) := by decide +kernel
theorem dCourse_drawBelow_2 : decode YCourse_drawBelow.2.1 2 = .ok (.getfield 98, 3) := by decide +kernel
theorem dCourse_drawBelow_5 : decode YCourse_drawBelow.2.1 5 = .ok (.ldc 110, 2) := by decide +kernel
theorem dCourse_drawBelow_7 : decode YCourse_drawBelow.2.1 7 = .ok (.imul, 1) := by decide +kernel
theorem dCourse_drawBelow_8 : decode YCourse_drawBelow.2.1 8 = .ok (.sipush 12345, 3) := by decide +kernel
theorem dCourse_drawBelow_11 : decode YCourse_drawBelow.2.1 11 = .ok (.iadd, 1) := by decide +kernel
theorem dCourse_drawBelow_12 : decode YCourse_drawBelow.2.1 12 = .ok (.putfield 98, 3) := by decide +kernel
theorem dCourse_drawBelow_15 : decode YCourse_drawBelow.2.1 15 = .ok (.iload_n 1, 1) := by decide +kernel
theorem dCourse_drawBelow_16 : decode YCourse_drawBelow.2.1 16 = .ok (.ifCond .le 15, 3) := by decide +kernel
theorem dCourse_drawBelow_19 : decode YCourse_drawBelow.2.1 19 = .ok (.aload_n 0, 1) := by decide +kernel
theorem dCourse_drawBelow_20 : decode YCourse_drawBelow.2.1 20 = .ok (.getfield 98, 3) := by decide +kernel
theorem dCourse_drawBelow_23 : decode YCourse_drawBelow.2.1 23 = .ok (.bipush 16, 2) := by decide +kernel
theorem dCourse_drawBelow_25 : decode YCourse_drawBelow.2.1 25 = .ok (.iushr, 1) := by decide +kernel
theorem dCourse_drawBelow_26 : decode YCourse_drawBelow.2.1 26 = .ok (.iload_n 1, 1) := by decide +kernel
theorem dCourse_drawBelow_27 : decode YCourse_drawBelow.2.1 27 = .ok (.irem, 1) := by decide +kernel
theorem dCourse_drawBelow_28 : decode YCourse_drawBelow.2.1 28 = .ok (.goto 4, 3) := by decide +kernel
theorem dCourse_drawBelow_31 : decode YCourse_drawBelow.2.1 31 = .ok (.iconst 0, 1) := by decide +kernel
theorem dCourse_drawBelow_32 : decode YCourse_drawBelow.2.1 32 = .ok (.ireturn, 1) := by decide +kernel
theorem dCourse_mayDo_0 : decode YCourse_mayDo.2.1 0 = .ok (.iload_n 1, 1) := by decide +kernel
theorem dCourse_mayDo_1 : decode YCourse_mayDo.2.1 1 = .ok (.iconst 3, 1) := by decide +kernel
theorem dCourse_mayDo_2 : decode YCourse_mayDo.2.1 2 = .ok (.if_icmp .ne 13, 3) := by decide +kernel
theorem dCourse_mayDo_5 : decode YCourse_mayDo.2.1 5 = .ok (.aload_n 0, 1) := by decide +kernel
theorem dCourse_mayDo_6 : decode YCourse_mayDo.2.1 6 = .ok (.invokevirtual 111, 3) := by decide +kernel
theorem dCourse_mayDo_9 : decode YCourse_mayDo.2.1 9 = .ok (.aload_n 0, 1) := by decide +kernel
theorem dCourse_mayDo_10 : decode YCourse_mayDo.2.1 10 = .ok (.invokevirtual 68, 3) := by decide +kernel
theorem dCourse_mayDo_13 : decode YCourse_mayDo.2.1 13 = .ok (.iconst 1, 1) := by decide +kernel
theorem dCourse_mayDo_14 : decode YCourse_mayDo.2.1 14 = .ok (.ireturn, 1) := by decide +kernel
theorem dCourse_mayDo_15 : decode YCourse_mayDo.2.1 15 = .ok (.aload_n 0, 1) := by decide +kernel
theorem dCourse_mayDo_16 : decode YCourse_mayDo.2.1 16 = .ok (.getfield 21, 3) := by decide +kernel
theorem dCourse_mayDo_19 : decode YCourse_mayDo.2.1 19 = .ok (.iload_n 2, 1) := by decide +kernel
theorem dCourse_mayDo_20 : decode YCourse_mayDo.2.1 20 = .ok (.invokevirtual 114, 3) := by decide +kernel
theorem dCourse_mayDo_23 : decode YCourse_mayDo.2.1 23 = .ok (.ifCond .eq 14, 3) := by decide +kernel
theorem dCourse_mayDo_26 : decode YCourse_mayDo.2.1 26 = .ok (.aload_n 0, 1) := by decide +kernel
theorem dCourse_mayDo_27 : decode YCourse_mayDo.2.1 27 = .ok (.getfield 31, 3) := by decide +kernel
theorem dCourse_mayDo_30 : decode YCourse_mayDo.2.1 30 = .ok (.iload_n 2, 1) := by decide +kernel
theorem dCourse_mayDo_31 : decode YCourse_mayDo.2.1 31 = .ok (.ishr, 1) := by decide +kernel
theorem dCourse_mayDo_32 : decode YCourse_mayDo.2.1 32 = .ok (.iconst 1, 1) := by decide +kernel
theorem dCourse_mayDo_33 : decode YCourse_mayDo.2.1 33 = .ok (.iand, 1) := by decide +kernel
theorem dCourse_mayDo_34 : decode YCourse_mayDo.2.1 34 = .ok (.ifCond .ne 5, 3) := by decide +kernel
theorem dCourse_mayDo_37 : decode YCourse_mayDo.2.1 37 = .ok (.iconst 0, 1) := by decide +kernel
theorem dCourse_mayDo_38 : decode YCourse_mayDo.2.1 38 = .ok (.ireturn, 1) := by decide +kernel
theorem dCourse_mayDo_39 : decode YCourse_mayDo.2.1 39 = .ok (.iload_n 1, 1) := by decide +kernel
theorem dCourse_mayDo_40 : decode YCourse_mayDo.2.1 40 = .ok (.iconst 1, 1) := by decide +kernel
theorem dCourse_mayDo_41 : decode YCourse_mayDo.2.1 41 = .ok (.if_icmp .ne 29, 3) := by decide +kernel
theorem dCourse_mayDo_44 : decode YCourse_mayDo.2.1 44 = .ok (.aload_n 0, 1) := by decide +kernel
theorem dCourse_mayDo_45 : decode YCourse_mayDo.2.1 45 = .ok (.getfield 21, 3) := by decide +kernel
theorem dCourse_mayDo_48 : decode YCourse_mayDo.2.1 48 = .ok (.iload_n 3, 1) := by decide +kernel
theorem dCourse_mayDo_49 : decode YCourse_mayDo.2.1 49 = .ok (.invokevirtual 118, 3) := by decide +kernel
theorem dCourse_mayDo_52 : decode YCourse_mayDo.2.1 52 = .ok (.ifCond .eq 16, 3) := by decide +kernel
theorem dCourse_mayDo_55 : decode YCourse_mayDo.2.1 55 = .ok (.iload_n 3, 1) := by decide +kernel
theorem dCourse_mayDo_56 : decode YCourse_mayDo.2.1 56 = .ok (.aload_n 0, 1) := by decide +kernel
theorem dCourse_mayDo_57 : decode YCourse_mayDo.2.1 57 = .ok (.getfield 21, 3) := by decide +kernel
theorem dCourse_mayDo_60 : decode YCourse_mayDo.2.1 60 = .ok (.getfield 121, 3) := by decide +kernel
theorem dCourse_mayDo_63 : decode YCourse_mayDo.2.1 63 = .ok (.iload_n 2, 1) := by decide +kernel
theorem dCourse_mayDo_64 : decode YCourse_mayDo.2.1 64 = .ok (.iaload, 1) := by decide +kernel
theorem dCourse_mayDo_65 : decode YCourse_mayDo.2.1 65 = .ok (.if_icmp .ne 5, 3) := by decide +kernel
theorem dCourse_mayDo_68 : decode YCourse_mayDo.2.1 68 = .ok (.iconst 0, 1) := by decide +kernel
theorem dCourse_mayDo_69 : decode YCourse_mayDo.2.1 69 = .ok (.ireturn, 1) := by decide +kernel
theorem dCourse_mayDo_70 : decode YCourse_mayDo.2.1 70 = .ok (.iload_n 1, 1) := by decide +kernel
theorem dCourse_mayDo_71 : decode YCourse_mayDo.2.1 71 = .ok (.iconst 2, 1) := by decide +kernel
theorem dCourse_mayDo_72 : decode YCourse_mayDo.2.1 72 = .ok (.if_icmp .ne 19, 3) := by decide +kernel
theorem dCourse_mayDo_75 : decode YCourse_mayDo.2.1 75 = .ok (.aload_n 0, 1) := by decide +kernel
theorem dCourse_mayDo_76 : decode YCourse_mayDo.2.1 76 = .ok (.dup, 1) := by decide +kernel
theorem dCourse_mayDo_77 : decode YCourse_mayDo.2.1 77 = .ok (.getfield 31, 3) := by decide +kernel
theorem dCourse_mayDo_80 : decode YCourse_mayDo.2.1 80 = .ok (.iconst 1, 1) := by decide +kernel
theorem dCourse_mayDo_81 : decode YCourse_mayDo.2.1 81 = .ok (.iload_n 2, 1) := by decide +kernel
theorem dCourse_mayDo_82 : decode YCourse_mayDo.2.1 82 = .ok (.ishl, 1) := by decide +kernel
theorem dCourse_mayDo_83 : decode YCourse_mayDo.2.1 83 = .ok (.iconst (-1), 1) := by decide +kernel
theorem dCourse_mayDo_84 : decode YCourse_mayDo.2.1 84 = .ok (.ixor, 1) := by decide +kernel
theorem dCourse_mayDo_85 : decode YCourse_mayDo.2.1 85 = .ok (.iand, 1) := by decide +kernel
theorem dCourse_mayDo_86 : decode YCourse_mayDo.2.1 86 = .ok (.putfield 31, 3) := by decide +kernel
theorem dCourse_mayDo_89 : decode YCourse_mayDo.2.1 89 = .ok (.iconst 1, 1) := by decide +kernel
theorem dCourse_mayDo_90 : decode YCourse_mayDo.2.1 90 = .ok (.ireturn, 1) := by decide +kernel
theorem dCourse_mayDo_91 : decode YCourse_mayDo.2.1 91 = .ok (.iload_n 1, 1) := by decide +kernel
theorem dCourse_mayDo_92 : decode YCourse_mayDo.2.1 92 = .ok (.iconst 1, 1) := by decide +kernel
theorem dCourse_mayDo_93 : decode YCourse_mayDo.2.1 93 = .ok (.if_icmp .ne 13, 3) := by decide +kernel
theorem dCourse_mayDo_96 : decode YCourse_mayDo.2.1 96 = .ok (.aload_n 0, 1) := by decide +kernel
theorem dCourse_mayDo_97 : decode YCourse_mayDo.2.1 97 = .ok (.dup, 1) := by decide +kernel
theorem dCourse_mayDo_98 : decode YCourse_mayDo.2.1 98 = .ok (.getfield 37, 3) := by decide +kernel
theorem dCourse_mayDo_101 : decode YCourse_mayDo.2.1 101 = .ok (.iconst 1, 1) := by decide +kernel
theorem dCourse_mayDo_102 : decode YCourse_mayDo.2.1 102 = .ok (.iadd, 1) := by decide +kernel
theorem dCourse_mayDo_103 : decode YCourse_mayDo.2.1 103 = .ok (.putfield 37, 3) := by decide +kernel
theorem dCourse_mayDo_106 : decode YCourse_mayDo.2.1 106 = .ok (.aload_n 0, 1) := by decide +kernel
theorem dCourse_mayDo_107 : decode YCourse_mayDo.2.1 107 = .ok (.iload_n 2, 1) := by decide +kernel
theorem dCourse_mayDo_108 : decode YCourse_mayDo.2.1 108 = .ok (.iload_n 1, 1) := by decide +kernel
theorem dCourse_mayDo_109 : decode YCourse_mayDo.2.1 109 = .ok (.iconst 1, 1) := by decide +kernel
theorem dCourse_mayDo_110 : decode YCourse_mayDo.2.1 110 = .ok (.if_icmp .ne 7, 3) := by decide +kernel
theorem dCourse_mayDo_113 : decode YCourse_mayDo.2.1 113 = .ok (.iload_n 3, 1) := by decide +kernel
theorem dCourse_mayDo_114 : decode YCourse_mayDo.2.1 114 = .ok (.goto 12, 3) := by decide +kernel
theorem dCourse_mayDo_117 : decode YCourse_mayDo.2.1 117 = .ok (.aload_n 0, 1) := by decide +kernel
theorem dCourse_mayDo_118 : decode YCourse_mayDo.2.1 118 = .ok (.getfield 21, 3) := by decide +kernel
theorem dCourse_mayDo_121 : decode YCourse_mayDo.2.1 121 = .ok (.getfield 121, 3) := by decide +kernel
theorem dCourse_mayDo_124 : decode YCourse_mayDo.2.1 124 = .ok (.iload_n 2, 1) := by decide +kernel
theorem dCourse_mayDo_125 : decode YCourse_mayDo.2.1 125 = .ok (.iaload, 1) := by decide +kernel
theorem dCourse_mayDo_126 : decode YCourse_mayDo.2.1 126 = .ok (.invokevirtual 124, 3) := by decide +kernel
theorem dCourse_mayDo_129 : decode YCourse_mayDo.2.1 129 = .ok (.aload_n 0, 1) := by decide +kernel
theorem dCourse_mayDo_130 : decode YCourse_mayDo.2.1 130 = .ok (.invokevirtual 68, 3) := by decide +kernel
theorem dCourse_mayDo_133 : decode YCourse_mayDo.2.1 133 = .ok (.iconst 1, 1) := by decide +kernel
theorem dCourse_mayDo_134 : decode YCourse_mayDo.2.1 134 = .ok (.ireturn, 1) := by decide +kernel
theorem dCourse_passNight_0 : decode YCourse_passNight.2.1 0 = .ok (.aload_n 0, 1) := by decide +kernel
theorem dCourse_passNight_1 : decode YCourse_passNight.2.1 1 = .ok (.dup, 1) := by decide +kernel
theorem dCourse_passNight_2 : decode YCourse_passNight.2.1 2 = .ok (.getfield 34, 3) := by decide +kernel
theorem dCourse_passNight_5 : decode YCourse_passNight.2.1 5 = .ok (.iconst 1, 1) := by decide +kernel
theorem dCourse_passNight_6 : decode YCourse_passNight.2.1 6 = .ok (.iadd, 1) := by decide +kernel
theorem dCourse_passNight_7 : decode YCourse_passNight.2.1 7 = .ok (.putfield 34, 3) := by decide +kernel
theorem dCourse_passNight_10 : decode YCourse_passNight.2.1 10 = .ok (.iconst 0, 1) := by decide +kernel
theorem dCourse_passNight_11 : decode YCourse_passNight.2.1 11 = .ok (.istore_n 1, 1) := by decide +kernel
theorem dCourse_passNight_12 : decode YCourse_passNight.2.1 12 = .ok (.iload_n 1, 1) := by decide +kernel
theorem dCourse_passNight_13 : decode YCourse_passNight.2.1 13 = .ok (.aload_n 0, 1) := by decide +kernel
theorem dCourse_passNight_14 : decode YCourse_passNight.2.1 14 = .ok (.getfield 21, 3) := by decide +kernel
theorem dCourse_passNight_17 : decode YCourse_passNight.2.1 17 = .ok (.getfield 108, 3) := by decide +kernel
theorem dCourse_passNight_20 : decode YCourse_passNight.2.1 20 = .ok (.if_icmp .ge 36, 3) := by decide +kernel
theorem dCourse_passNight_23 : decode YCourse_passNight.2.1 23 = .ok (.aload_n 0, 1) := by decide +kernel
theorem dCourse_passNight_24 : decode YCourse_passNight.2.1 24 = .ok (.getfield 9, 3) := by decide +kernel
theorem dCourse_passNight_27 : decode YCourse_passNight.2.1 27 = .ok (.iload_n 1, 1) := by decide +kernel
theorem dCourse_passNight_28 : decode YCourse_passNight.2.1 28 = .ok (.dup2, 1) := by decide +kernel
theorem dCourse_passNight_29 : decode YCourse_passNight.2.1 29 = .ok (.iaload, 1) := by decide +kernel
theorem dCourse_passNight_30 : decode YCourse_passNight.2.1 30 = .ok (.aload_n 0, 1) := by decide +kernel
theorem dCourse_passNight_31 : decode YCourse_passNight.2.1 31 = .ok (.getfield 9, 3) := by decide +kernel
theorem dCourse_passNight_34 : decode YCourse_passNight.2.1 34 = .ok (.iload_n 1, 1) := by decide +kernel
theorem dCourse_passNight_35 : decode YCourse_passNight.2.1 35 = .ok (.iaload, 1) := by decide +kernel
theorem dCourse_passNight_36 : decode YCourse_passNight.2.1 36 = .ok (.bipush 10, 2) := by decide +kernel
theorem dCourse_passNight_38 : decode YCourse_passNight.2.1 38 = .ok (.invokestatic 128, 3) := by decide +kernel
theorem dCourse_passNight_41 : decode YCourse_passNight.2.1 41 = .ok (.isub, 1) := by decide +kernel
theorem dCourse_passNight_42 : decode YCourse_passNight.2.1 42 = .ok (.iastore, 1) := by decide +kernel
theorem dCourse_passNight_43 : decode YCourse_passNight.2.1 43 = .ok (.aload_n 0, 1) := by decide +kernel
theorem dCourse_passNight_44 : decode YCourse_passNight.2.1 44 = .ok (.getfield 15, 3) := by decide +kernel
theorem dCourse_passNight_47 : decode YCourse_passNight.2.1 47 = .ok (.iload_n 1, 1) := by decide +kernel
theorem dCourse_passNight_48 : decode YCourse_passNight.2.1 48 = .ok (.iconst (-1), 1) := by decide +kernel
theorem dCourse_passNight_49 : decode YCourse_passNight.2.1 49 = .ok (.iastore, 1) := by decide +kernel
theorem dCourse_passNight_50 : decode YCourse_passNight.2.1 50 = .ok (.iinc 1 1, 3) := by decide +kernel
theorem dCourse_passNight_53 : decode YCourse_passNight.2.1 53 = .ok (.goto (-41), 3) := by decide +kernel
theorem dCourse_passNight_56 : decode YCourse_passNight.2.1 56 = .ok (.return_, 1) := by decide +kernel
theorem dCourse_bring_0 : decode YCourse_bring.2.1 0 = .ok (.aload_n 0, 1) := by decide +kernel
theorem dCourse_bring_1 : decode YCourse_bring.2.1 1 = .ok (.getfield 21, 3) := by decide +kernel
theorem dCourse_bring_4 : decode YCourse_bring.2.1 4 = .ok (.iload_n 1, 1) := by decide +kernel
theorem dCourse_bring_5 : decode YCourse_bring.2.1 5 = .ok (.aload_n 0, 1) := by decide +kernel
theorem dCourse_bring_6 : decode YCourse_bring.2.1 6 = .ok (.getfield 15, 3) := by decide +kernel
theorem dCourse_bring_9 : decode YCourse_bring.2.1 9 = .ok (.iload_n 2, 1) := by decide +kernel
theorem dCourse_bring_10 : decode YCourse_bring.2.1 10 = .ok (.iaload, 1) := by decide +kernel
theorem dCourse_bring_11 : decode YCourse_bring.2.1 11 = .ok (.invokevirtual 133, 3) := by decide +kernel
theorem dCourse_bring_14 : decode YCourse_bring.2.1 14 = .ok (.istore_n 3, 1) := by decide +kernel
theorem dCourse_bring_15 : decode YCourse_bring.2.1 15 = .ok (.aload_n 0, 1) := by decide +kernel
theorem dCourse_bring_16 : decode YCourse_bring.2.1 16 = .ok (.dup, 1) := by decide +kernel
theorem dCourse_bring_17 : decode YCourse_bring.2.1 17 = .ok (.getfield 31, 3) := by decide +kernel
theorem dCourse_bring_20 : decode YCourse_bring.2.1 20 = .ok (.iconst 1, 1) := by decide +kernel
theorem dCourse_bring_21 : decode YCourse_bring.2.1 21 = .ok (.iload_n 1, 1) := by decide +kernel
theorem dCourse_bring_22 : decode YCourse_bring.2.1 22 = .ok (.ishl, 1) := by decide +kernel
theorem dCourse_bring_23 : decode YCourse_bring.2.1 23 = .ok (.iconst (-1), 1) := by decide +kernel
theorem dCourse_bring_24 : decode YCourse_bring.2.1 24 = .ok (.ixor, 1) := by decide +kernel
theorem dCourse_bring_25 : decode YCourse_bring.2.1 25 = .ok (.iand, 1) := by decide +kernel
theorem dCourse_bring_26 : decode YCourse_bring.2.1 26 = .ok (.putfield 31, 3) := by decide +kernel
theorem dCourse_bring_29 : decode YCourse_bring.2.1 29 = .ok (.aload_n 0, 1) := by decide +kernel
theorem dCourse_bring_30 : decode YCourse_bring.2.1 30 = .ok (.getfield 9, 3) := by decide +kernel
theorem dCourse_bring_33 : decode YCourse_bring.2.1 33 = .ok (.iload_n 2, 1) := by decide +kernel
theorem dCourse_bring_34 : decode YCourse_bring.2.1 34 = .ok (.dup2, 1) := by decide +kernel
theorem dCourse_bring_35 : decode YCourse_bring.2.1 35 = .ok (.iaload, 1) := by decide +kernel
theorem dCourse_bring_36 : decode YCourse_bring.2.1 36 = .ok (.iload_n 3, 1) := by decide +kernel
theorem dCourse_bring_37 : decode YCourse_bring.2.1 37 = .ok (.iadd, 1) := by decide +kernel
theorem dCourse_bring_38 : decode YCourse_bring.2.1 38 = .ok (.iastore, 1) := by decide +kernel
theorem dCourse_bring_39 : decode YCourse_bring.2.1 39 = .ok (.aload_n 0, 1) := by decide +kernel
theorem dCourse_bring_40 : decode YCourse_bring.2.1 40 = .ok (.getfield 15, 3) := by decide +kernel
theorem dCourse_bring_43 : decode YCourse_bring.2.1 43 = .ok (.iload_n 2, 1) := by decide +kernel
theorem dCourse_bring_44 : decode YCourse_bring.2.1 44 = .ok (.aload_n 0, 1) := by decide +kernel
theorem dCourse_bring_45 : decode YCourse_bring.2.1 45 = .ok (.getfield 21, 3) := by decide +kernel
theorem dCourse_bring_48 : decode YCourse_bring.2.1 48 = .ok (.getfield 136, 3) := by decide +kernel
theorem dCourse_bring_51 : decode YCourse_bring.2.1 51 = .ok (.iload_n 1, 1) := by decide +kernel
theorem dCourse_bring_52 : decode YCourse_bring.2.1 52 = .ok (.iaload, 1) := by decide +kernel
theorem dCourse_bring_53 : decode YCourse_bring.2.1 53 = .ok (.iastore, 1) := by decide +kernel
theorem dCourse_bring_54 : decode YCourse_bring.2.1 54 = .ok (.aload_n 0, 1) := by decide +kernel
theorem dCourse_bring_55 : decode YCourse_bring.2.1 55 = .ok (.getfield 18, 3) := by decide +kernel
theorem dCourse_bring_58 : decode YCourse_bring.2.1 58 = .ok (.iload_n 2, 1) := by decide +kernel
theorem dCourse_bring_59 : decode YCourse_bring.2.1 59 = .ok (.dup2, 1) := by decide +kernel
theorem dCourse_bring_60 : decode YCourse_bring.2.1 60 = .ok (.iaload, 1) := by decide +kernel
theorem dCourse_bring_61 : decode YCourse_bring.2.1 61 = .ok (.iconst 1, 1) := by decide +kernel
theorem dCourse_bring_62 : decode YCourse_bring.2.1 62 = .ok (.iadd, 1) := by decide +kernel
theorem dCourse_bring_63 : decode YCourse_bring.2.1 63 = .ok (.iastore, 1) := by decide +kernel
theorem dCourse_bring_64 : decode YCourse_bring.2.1 64 = .ok (.aload_n 0, 1) := by decide +kernel
theorem dCourse_bring_65 : decode YCourse_bring.2.1 65 = .ok (.dup, 1) := by decide +kernel
theorem dCourse_bring_66 : decode YCourse_bring.2.1 66 = .ok (.getfield 40, 3) := by decide +kernel
theorem dCourse_bring_69 : decode YCourse_bring.2.1 69 = .ok (.iload_n 3, 1) := by decide +kernel
theorem dCourse_bring_70 : decode YCourse_bring.2.1 70 = .ok (.iadd, 1) := by decide +kernel
theorem dCourse_bring_71 : decode YCourse_bring.2.1 71 = .ok (.putfield 40, 3) := by decide +kernel
theorem dCourse_bring_74 : decode YCourse_bring.2.1 74 = .ok (.iload_n 3, 1) := by decide +kernel
theorem dCourse_bring_75 : decode YCourse_bring.2.1 75 = .ok (.aload_n 0, 1) := by decide +kernel
theorem dCourse_bring_76 : decode YCourse_bring.2.1 76 = .ok (.getfield 21, 3) := by decide +kernel
theorem dCourse_bring_79 : decode YCourse_bring.2.1 79 = .ok (.getfield 137, 3) := by decide +kernel
theorem dCourse_bring_82 : decode YCourse_bring.2.1 82 = .ok (.iload_n 1, 1) := by decide +kernel
theorem dCourse_bring_83 : decode YCourse_bring.2.1 83 = .ok (.iaload, 1) := by decide +kernel
theorem dCourse_bring_84 : decode YCourse_bring.2.1 84 = .ok (.if_icmp .eq 15, 3) := by decide +kernel
theorem dCourse_bring_87 : decode YCourse_bring.2.1 87 = .ok (.aload_n 0, 1) := by decide +kernel
theorem dCourse_bring_88 : decode YCourse_bring.2.1 88 = .ok (.dup, 1) := by decide +kernel
theorem dCourse_bring_89 : decode YCourse_bring.2.1 89 = .ok (.getfield 62, 3) := by decide +kernel
theorem dCourse_bring_92 : decode YCourse_bring.2.1 92 = .ok (.iconst 1, 1) := by decide +kernel
theorem dCourse_bring_93 : decode YCourse_bring.2.1 93 = .ok (.iload_n 1, 1) := by decide +kernel
theorem dCourse_bring_94 : decode YCourse_bring.2.1 94 = .ok (.ishl, 1) := by decide +kernel
theorem dCourse_bring_95 : decode YCourse_bring.2.1 95 = .ok (.ior, 1) := by decide +kernel
theorem dCourse_bring_96 : decode YCourse_bring.2.1 96 = .ok (.putfield 62, 3) := by decide +kernel
theorem dCourse_bring_99 : decode YCourse_bring.2.1 99 = .ok (.iload_n 3, 1) := by decide +kernel
theorem dCourse_bring_100 : decode YCourse_bring.2.1 100 = .ok (.ifCond .ne 13, 3) := by decide +kernel
theorem dCourse_bring_103 : decode YCourse_bring.2.1 103 = .ok (.aload_n 0, 1) := by decide +kernel
theorem dCourse_bring_104 : decode YCourse_bring.2.1 104 = .ok (.dup, 1) := by decide +kernel
theorem dCourse_bring_105 : decode YCourse_bring.2.1 105 = .ok (.getfield 65, 3) := by decide +kernel
theorem dCourse_bring_108 : decode YCourse_bring.2.1 108 = .ok (.iconst 1, 1) := by decide +kernel
theorem dCourse_bring_109 : decode YCourse_bring.2.1 109 = .ok (.iadd, 1) := by decide +kernel
theorem dCourse_bring_110 : decode YCourse_bring.2.1 110 = .ok (.putfield 65, 3) := by decide +kernel
theorem dCourse_bring_113 : decode YCourse_bring.2.1 113 = .ok (.return_, 1) := by decide +kernel
theorem dCourse_noteLow_0 : decode YCourse_noteLow.2.1 0 = .ok (.iconst 0, 1) := by decide +kernel
theorem dCourse_noteLow_1 : decode YCourse_noteLow.2.1 1 = .ok (.istore_n 1, 1) := by decide +kernel
theorem dCourse_noteLow_2 : decode YCourse_noteLow.2.1 2 = .ok (.iload_n 1, 1) := by decide +kernel
theorem dCourse_noteLow_3 : decode YCourse_noteLow.2.1 3 = .ok (.aload_n 0, 1) := by decide +kernel
theorem dCourse_noteLow_4 : decode YCourse_noteLow.2.1 4 = .ok (.getfield 21, 3) := by decide +kernel
theorem dCourse_noteLow_7 : decode YCourse_noteLow.2.1 7 = .ok (.getfield 108, 3) := by decide +kernel
theorem dCourse_noteLow_10 : decode YCourse_noteLow.2.1 10 = .ok (.if_icmp .ge 58, 3) := by decide +kernel
theorem dCourse_noteLow_13 : decode YCourse_noteLow.2.1 13 = .ok (.aload_n 0, 1) := by decide +kernel
theorem dCourse_noteLow_14 : decode YCourse_noteLow.2.1 14 = .ok (.getfield 9, 3) := by decide +kernel
theorem dCourse_noteLow_17 : decode YCourse_noteLow.2.1 17 = .ok (.iload_n 1, 1) := by decide +kernel
theorem dCourse_noteLow_18 : decode YCourse_noteLow.2.1 18 = .ok (.iaload, 1) := by decide +kernel
theorem dCourse_noteLow_19 : decode YCourse_noteLow.2.1 19 = .ok (.aload_n 0, 1) := by decide +kernel
theorem dCourse_noteLow_20 : decode YCourse_noteLow.2.1 20 = .ok (.getfield 59, 3) := by decide +kernel
theorem dCourse_noteLow_23 : decode YCourse_noteLow.2.1 23 = .ok (.if_icmp .lt 24, 3) := by decide +kernel
theorem dCourse_noteLow_26 : decode YCourse_noteLow.2.1 26 = .ok (.aload_n 0, 1) := by decide +kernel
theorem dCourse_noteLow_27 : decode YCourse_noteLow.2.1 27 = .ok (.getfield 9, 3) := by decide +kernel
theorem dCourse_noteLow_30 : decode YCourse_noteLow.2.1 30 = .ok (.iload_n 1, 1) := by decide +kernel
theorem dCourse_noteLow_31 : decode YCourse_noteLow.2.1 31 = .ok (.iaload, 1) := by decide +kernel
theorem dCourse_noteLow_32 : decode YCourse_noteLow.2.1 32 = .ok (.aload_n 0, 1) := by decide +kernel
theorem dCourse_noteLow_33 : decode YCourse_noteLow.2.1 33 = .ok (.getfield 59, 3) := by decide +kernel
theorem dCourse_noteLow_36 : decode YCourse_noteLow.2.1 36 = .ok (.if_icmp .ne 26, 3) := by decide +kernel
theorem dCourse_noteLow_39 : decode YCourse_noteLow.2.1 39 = .ok (.iload_n 1, 1) := by decide +kernel
theorem dCourse_noteLow_40 : decode YCourse_noteLow.2.1 40 = .ok (.aload_n 0, 1) := by decide +kernel
theorem dCourse_noteLow_41 : decode YCourse_noteLow.2.1 41 = .ok (.getfield 56, 3) := by decide +kernel
theorem dCourse_noteLow_44 : decode YCourse_noteLow.2.1 44 = .ok (.if_icmp .ge 18, 3) := by decide +kernel
theorem dCourse_noteLow_47 : decode YCourse_noteLow.2.1 47 = .ok (.aload_n 0, 1) := by decide +kernel
theorem dCourse_noteLow_48 : decode YCourse_noteLow.2.1 48 = .ok (.aload_n 0, 1) := by decide +kernel
theorem dCourse_noteLow_49 : decode YCourse_noteLow.2.1 49 = .ok (.getfield 9, 3) := by decide +kernel
theorem dCourse_noteLow_52 : decode YCourse_noteLow.2.1 52 = .ok (.iload_n 1, 1) := by decide +kernel
theorem dCourse_noteLow_53 : decode YCourse_noteLow.2.1 53 = .ok (.iaload, 1) := by decide +kernel
theorem dCourse_noteLow_54 : decode YCourse_noteLow.2.1 54 = .ok (.putfield 59, 3) := by decide +kernel
theorem dCourse_noteLow_57 : decode YCourse_noteLow.2.1 57 = .ok (.aload_n 0, 1) := by decide +kernel
theorem dCourse_noteLow_58 : decode YCourse_noteLow.2.1 58 = .ok (.iload_n 1, 1) := by decide +kernel
theorem dCourse_noteLow_59 : decode YCourse_noteLow.2.1 59 = .ok (.putfield 56, 3) := by decide +kernel
theorem dCourse_noteLow_62 : decode YCourse_noteLow.2.1 62 = .ok (.iinc 1 1, 3) := by decide +kernel
theorem dCourse_noteLow_65 : decode YCourse_noteLow.2.1 65 = .ok (.goto (-63), 3) := by decide +kernel
theorem dCourse_noteLow_68 : decode YCourse_noteLow.2.1 68 = .ok (.return_, 1) := by decide +kernel
theorem dCourse_answer_0 : decode YCourse_answer.2.1 0 = .ok (.iload_n 1, 1) := by decide +kernel
theorem dCourse_answer_1 : decode YCourse_answer.2.1 1 = .ok (.tableswitch 60 0 4 #[35, 40, 45, 50, 55], 35) := by decide +kernel
theorem dCourse_answer_36 : decode YCourse_answer.2.1 36 = .ok (.aload_n 0, 1) := by decide +kernel
theorem dCourse_answer_37 : decode YCourse_answer.2.1 37 = .ok (.getfield 34, 3) := by decide +kernel
theorem dCourse_answer_40 : decode YCourse_answer.2.1 40 = .ok (.ireturn, 1) := by decide +kernel
theorem dCourse_answer_41 : decode YCourse_answer.2.1 41 = .ok (.aload_n 0, 1) := by decide +kernel
theorem dCourse_answer_42 : decode YCourse_answer.2.1 42 = .ok (.getfield 31, 3) := by decide +kernel
theorem dCourse_answer_45 : decode YCourse_answer.2.1 45 = .ok (.ireturn, 1) := by decide +kernel
theorem dCourse_answer_46 : decode YCourse_answer.2.1 46 = .ok (.aload_n 0, 1) := by decide +kernel
theorem dCourse_answer_47 : decode YCourse_answer.2.1 47 = .ok (.getfield 37, 3) := by decide +kernel
theorem dCourse_answer_50 : decode YCourse_answer.2.1 50 = .ok (.ireturn, 1) := by decide +kernel
theorem dCourse_answer_51 : decode YCourse_answer.2.1 51 = .ok (.aload_n 0, 1) := by decide +kernel
theorem dCourse_answer_52 : decode YCourse_answer.2.1 52 = .ok (.getfield 40, 3) := by decide +kernel
theorem dCourse_answer_55 : decode YCourse_answer.2.1 55 = .ok (.ireturn, 1) := by decide +kernel
theorem dCourse_answer_56 : decode YCourse_answer.2.1 56 = .ok (.aload_n 0, 1) := by decide +kernel
theorem dCourse_answer_57 : decode YCourse_answer.2.1 57 = .ok (.invokevirtual 140, 3) := by decide +kernel
theorem dCourse_answer_60 : decode YCourse_answer.2.1 60 = .ok (.ireturn, 1) := by decide +kernel
theorem dCourse_answer_61 : decode YCourse_answer.2.1 61 = .ok (.iload_n 1, 1) := by decide +kernel
theorem dCourse_answer_62 : decode YCourse_answer.2.1 62 = .ok (.bipush 10, 2) := by decide +kernel
theorem dCourse_answer_64 : decode YCourse_answer.2.1 64 = .ok (.if_icmp .ge 9, 3) := by decide +kernel
theorem dCourse_answer_67 : decode YCourse_answer.2.1 67 = .ok (.sipush (-1000), 3) := by decide +kernel
theorem dCourse_answer_70 : decode YCourse_answer.2.1 70 = .ok (.goto 15, 3) := by decide +kernel
theorem dCourse_answer_73 : decode YCourse_answer.2.1 73 = .ok (.aload_n 0, 1) := by decide +kernel
theorem dCourse_answer_74 : decode YCourse_answer.2.1 74 = .ok (.iload_n 1, 1) := by decide +kernel
theorem dCourse_answer_75 : decode YCourse_answer.2.1 75 = .ok (.bipush 10, 2) := by decide +kernel
theorem dCourse_answer_77 : decode YCourse_answer.2.1 77 = .ok (.idiv, 1) := by decide +kernel
theorem dCourse_answer_78 : decode YCourse_answer.2.1 78 = .ok (.iload_n 1, 1) := by decide +kernel
theorem dCourse_answer_79 : decode YCourse_answer.2.1 79 = .ok (.bipush 10, 2) := by decide +kernel
theorem dCourse_answer_81 : decode YCourse_answer.2.1 81 = .ok (.irem, 1) := by decide +kernel
theorem dCourse_answer_82 : decode YCourse_answer.2.1 82 = .ok (.invokevirtual 144, 3) := by decide +kernel
theorem dCourse_answer_85 : decode YCourse_answer.2.1 85 = .ok (.ireturn, 1) := by decide +kernel
theorem dCourse_moodsTogether_0 : decode YCourse_moodsTogether.2.1 0 = .ok (.iconst 0, 1) := by decide +kernel
theorem dCourse_moodsTogether_1 : decode YCourse_moodsTogether.2.1 1 = .ok (.istore_n 1, 1) := by decide +kernel
theorem dCourse_moodsTogether_2 : decode YCourse_moodsTogether.2.1 2 = .ok (.iconst 0, 1) := by decide +kernel
theorem dCourse_moodsTogether_3 : decode YCourse_moodsTogether.2.1 3 = .ok (.istore_n 2, 1) := by decide +kernel
theorem dCourse_moodsTogether_4 : decode YCourse_moodsTogether.2.1 4 = .ok (.iload_n 2, 1) := by decide +kernel
theorem dCourse_moodsTogether_5 : decode YCourse_moodsTogether.2.1 5 = .ok (.aload_n 0, 1) := by decide +kernel
theorem dCourse_moodsTogether_6 : decode YCourse_moodsTogether.2.1 6 = .ok (.getfield 21, 3) := by decide +kernel
theorem dCourse_moodsTogether_9 : decode YCourse_moodsTogether.2.1 9 = .ok (.getfield 108, 3) := by decide +kernel
theorem dCourse_moodsTogether_12 : decode YCourse_moodsTogether.2.1 12 = .ok (.if_icmp .ge 18, 3) := by decide +kernel
theorem dCourse_moodsTogether_15 : decode YCourse_moodsTogether.2.1 15 = .ok (.iload_n 1, 1) := by decide +kernel
theorem dCourse_moodsTogether_16 : decode YCourse_moodsTogether.2.1 16 = .ok (.aload_n 0, 1) := by decide +kernel
theorem dCourse_moodsTogether_17 : decode YCourse_moodsTogether.2.1 17 = .ok (.getfield 9, 3) := by decide +kernel
theorem dCourse_moodsTogether_20 : decode YCourse_moodsTogether.2.1 20 = .ok (.iload_n 2, 1) := by decide +kernel
theorem dCourse_moodsTogether_21 : decode YCourse_moodsTogether.2.1 21 = .ok (.iaload, 1) := by decide +kernel
theorem dCourse_moodsTogether_22 : decode YCourse_moodsTogether.2.1 22 = .ok (.iadd, 1) := by decide +kernel
theorem dCourse_moodsTogether_23 : decode YCourse_moodsTogether.2.1 23 = .ok (.istore_n 1, 1) := by decide +kernel
theorem dCourse_moodsTogether_24 : decode YCourse_moodsTogether.2.1 24 = .ok (.iinc 2 1, 3) := by decide +kernel
theorem dCourse_moodsTogether_27 : decode YCourse_moodsTogether.2.1 27 = .ok (.goto (-23), 3) := by decide +kernel
theorem dCourse_moodsTogether_30 : decode YCourse_moodsTogether.2.1 30 = .ok (.iload_n 1, 1) := by decide +kernel
theorem dCourse_moodsTogether_31 : decode YCourse_moodsTogether.2.1 31 = .ok (.ireturn, 1) := by decide +kernel
theorem dCourse_ofHouse_0 : decode YCourse_ofHouse.2.1 0 = .ok (.aload_n 0, 1) := by decide +kernel
theorem dCourse_ofHouse_1 : decode YCourse_ofHouse.2.1 1 = .ok (.getfield 21, 3) := by decide +kernel
theorem dCourse_ofHouse_4 : decode YCourse_ofHouse.2.1 4 = .ok (.iload_n 2, 1) := by decide +kernel
theorem dCourse_ofHouse_5 : decode YCourse_ofHouse.2.1 5 = .ok (.invokevirtual 118, 3) := by decide +kernel
theorem dCourse_ofHouse_8 : decode YCourse_ofHouse.2.1 8 = .ok (.ifCond .ne 7, 3) := by decide +kernel
theorem dCourse_ofHouse_11 : decode YCourse_ofHouse.2.1 11 = .ok (.sipush (-1000), 3) := by decide +kernel
theorem dCourse_ofHouse_14 : decode YCourse_ofHouse.2.1 14 = .ok (.ireturn, 1) := by decide +kernel
theorem dCourse_ofHouse_15 : decode YCourse_ofHouse.2.1 15 = .ok (.iload_n 1, 1) := by decide +kernel
theorem dCourse_ofHouse_16 : decode YCourse_ofHouse.2.1 16 = .ok (.tableswitch 49 1 3 #[28, 35, 42], 28) := by decide +kernel
theorem dCourse_ofHouse_44 : decode YCourse_ofHouse.2.1 44 = .ok (.aload_n 0, 1) := by decide +kernel
theorem dCourse_ofHouse_45 : decode YCourse_ofHouse.2.1 45 = .ok (.getfield 9, 3) := by decide +kernel
theorem dCourse_ofHouse_48 : decode YCourse_ofHouse.2.1 48 = .ok (.iload_n 2, 1) := by decide +kernel
theorem dCourse_ofHouse_49 : decode YCourse_ofHouse.2.1 49 = .ok (.iaload, 1) := by decide +kernel
theorem dCourse_ofHouse_50 : decode YCourse_ofHouse.2.1 50 = .ok (.ireturn, 1) := by decide +kernel
theorem dCourse_ofHouse_51 : decode YCourse_ofHouse.2.1 51 = .ok (.aload_n 0, 1) := by decide +kernel
theorem dCourse_ofHouse_52 : decode YCourse_ofHouse.2.1 52 = .ok (.getfield 15, 3) := by decide +kernel
theorem dCourse_ofHouse_55 : decode YCourse_ofHouse.2.1 55 = .ok (.iload_n 2, 1) := by decide +kernel
theorem dCourse_ofHouse_56 : decode YCourse_ofHouse.2.1 56 = .ok (.iaload, 1) := by decide +kernel
theorem dCourse_ofHouse_57 : decode YCourse_ofHouse.2.1 57 = .ok (.ireturn, 1) := by decide +kernel
theorem dCourse_ofHouse_58 : decode YCourse_ofHouse.2.1 58 = .ok (.aload_n 0, 1) := by decide +kernel
theorem dCourse_ofHouse_59 : decode YCourse_ofHouse.2.1 59 = .ok (.getfield 18, 3) := by decide +kernel
theorem dCourse_ofHouse_62 : decode YCourse_ofHouse.2.1 62 = .ok (.iload_n 2, 1) := by decide +kernel
theorem dCourse_ofHouse_63 : decode YCourse_ofHouse.2.1 63 = .ok (.iaload, 1) := by decide +kernel
theorem dCourse_ofHouse_64 : decode YCourse_ofHouse.2.1 64 = .ok (.ireturn, 1) := by decide +kernel
theorem dCourse_ofHouse_65 : decode YCourse_ofHouse.2.1 65 = .ok (.sipush (-1000), 3) := by decide +kernel
theorem dCourse_ofHouse_68 : decode YCourse_ofHouse.2.1 68 = .ok (.ireturn, 1) := by decide +kernel
theorem dLog_init_0 : decode YLog_init.2.1 0 = .ok (.aload_n 0, 1) := by decide +kernel
theorem dLog_init_1 : decode YLog_init.2.1 1 = .ok (.invokespecial 3, 3) := by decide +kernel
theorem dLog_init_4 : decode YLog_init.2.1 4 = .ok (.aload_n 0, 1) := by decide +kernel
theorem dLog_init_5 : decode YLog_init.2.1 5 = .ok (.bipush 8, 2) := by decide +kernel
theorem dLog_init_7 : decode YLog_init.2.1 7 = .ok (.newarray .int, 2) := by decide +kernel
theorem dLog_init_9 : decode YLog_init.2.1 9 = .ok (.putfield 9, 3) := by decide +kernel
theorem dLog_init_12 : decode YLog_init.2.1 12 = .ok (.aload_n 0, 1) := by decide +kernel
theorem dLog_init_13 : decode YLog_init.2.1 13 = .ok (.bipush 8, 2) := by decide +kernel
theorem dLog_init_15 : decode YLog_init.2.1 15 = .ok (.newarray .int, 2) := by decide +kernel
theorem dLog_init_17 : decode YLog_init.2.1 17 = .ok (.putfield 15, 3) := by decide +kernel
theorem dLog_init_20 : decode YLog_init.2.1 20 = .ok (.return_, 1) := by decide +kernel
theorem dLog_copyFrom_0 : decode YLog_copyFrom.2.1 0 = .ok (.aload_n 0, 1) := by decide +kernel
theorem dLog_copyFrom_1 : decode YLog_copyFrom.2.1 1 = .ok (.aload_n 1, 1) := by decide +kernel
theorem dLog_copyFrom_2 : decode YLog_copyFrom.2.1 2 = .ok (.getfield 18, 3) := by decide +kernel
theorem dLog_copyFrom_5 : decode YLog_copyFrom.2.1 5 = .ok (.putfield 18, 3) := by decide +kernel
theorem dLog_copyFrom_8 : decode YLog_copyFrom.2.1 8 = .ok (.aload_n 1, 1) := by decide +kernel
theorem dLog_copyFrom_9 : decode YLog_copyFrom.2.1 9 = .ok (.getfield 9, 3) := by decide +kernel
theorem dLog_copyFrom_12 : decode YLog_copyFrom.2.1 12 = .ok (.iconst 0, 1) := by decide +kernel
theorem dLog_copyFrom_13 : decode YLog_copyFrom.2.1 13 = .ok (.aload_n 0, 1) := by decide +kernel
theorem dLog_copyFrom_14 : decode YLog_copyFrom.2.1 14 = .ok (.getfield 9, 3) := by decide +kernel
theorem dLog_copyFrom_17 : decode YLog_copyFrom.2.1 17 = .ok (.iconst 0, 1) := by decide +kernel
theorem dLog_copyFrom_18 : decode YLog_copyFrom.2.1 18 = .ok (.bipush 8, 2) := by decide +kernel
theorem dLog_copyFrom_20 : decode YLog_copyFrom.2.1 20 = .ok (.invokestatic 22, 3) := by decide +kernel
theorem dLog_copyFrom_23 : decode YLog_copyFrom.2.1 23 = .ok (.aload_n 1, 1) := by decide +kernel
theorem dLog_copyFrom_24 : decode YLog_copyFrom.2.1 24 = .ok (.getfield 15, 3) := by decide +kernel
theorem dLog_copyFrom_27 : decode YLog_copyFrom.2.1 27 = .ok (.iconst 0, 1) := by decide +kernel
theorem dLog_copyFrom_28 : decode YLog_copyFrom.2.1 28 = .ok (.aload_n 0, 1) := by decide +kernel
theorem dLog_copyFrom_29 : decode YLog_copyFrom.2.1 29 = .ok (.getfield 15, 3) := by decide +kernel
theorem dLog_copyFrom_32 : decode YLog_copyFrom.2.1 32 = .ok (.iconst 0, 1) := by decide +kernel
theorem dLog_copyFrom_33 : decode YLog_copyFrom.2.1 33 = .ok (.bipush 8, 2) := by decide +kernel
theorem dLog_copyFrom_35 : decode YLog_copyFrom.2.1 35 = .ok (.invokestatic 22, 3) := by decide +kernel
theorem dLog_copyFrom_38 : decode YLog_copyFrom.2.1 38 = .ok (.return_, 1) := by decide +kernel
theorem dLog_add_0 : decode YLog_add.2.1 0 = .ok (.aload_n 0, 1) := by decide +kernel
theorem dLog_add_1 : decode YLog_add.2.1 1 = .ok (.getfield 18, 3) := by decide +kernel
theorem dLog_add_4 : decode YLog_add.2.1 4 = .ok (.bipush 8, 2) := by decide +kernel
theorem dLog_add_6 : decode YLog_add.2.1 6 = .ok (.if_icmp .ge 33, 3) := by decide +kernel
theorem dLog_add_9 : decode YLog_add.2.1 9 = .ok (.aload_n 0, 1) := by decide +kernel
theorem dLog_add_10 : decode YLog_add.2.1 10 = .ok (.getfield 9, 3) := by decide +kernel
theorem dLog_add_13 : decode YLog_add.2.1 13 = .ok (.aload_n 0, 1) := by decide +kernel
theorem dLog_add_14 : decode YLog_add.2.1 14 = .ok (.getfield 18, 3) := by decide +kernel
theorem dLog_add_17 : decode YLog_add.2.1 17 = .ok (.iload_n 1, 1) := by decide +kernel
theorem dLog_add_18 : decode YLog_add.2.1 18 = .ok (.iastore, 1) := by decide +kernel
theorem dLog_add_19 : decode YLog_add.2.1 19 = .ok (.aload_n 0, 1) := by decide +kernel
theorem dLog_add_20 : decode YLog_add.2.1 20 = .ok (.getfield 15, 3) := by decide +kernel
theorem dLog_add_23 : decode YLog_add.2.1 23 = .ok (.aload_n 0, 1) := by decide +kernel
theorem dLog_add_24 : decode YLog_add.2.1 24 = .ok (.getfield 18, 3) := by decide +kernel
theorem dLog_add_27 : decode YLog_add.2.1 27 = .ok (.iload_n 2, 1) := by decide +kernel
theorem dLog_add_28 : decode YLog_add.2.1 28 = .ok (.iastore, 1) := by decide +kernel
theorem dLog_add_29 : decode YLog_add.2.1 29 = .ok (.aload_n 0, 1) := by decide +kernel
theorem dLog_add_30 : decode YLog_add.2.1 30 = .ok (.dup, 1) := by decide +kernel
theorem dLog_add_31 : decode YLog_add.2.1 31 = .ok (.getfield 18, 3) := by decide +kernel
theorem dLog_add_34 : decode YLog_add.2.1 34 = .ok (.iconst 1, 1) := by decide +kernel
theorem dLog_add_35 : decode YLog_add.2.1 35 = .ok (.iadd, 1) := by decide +kernel
theorem dLog_add_36 : decode YLog_add.2.1 36 = .ok (.putfield 18, 3) := by decide +kernel
theorem dLog_add_39 : decode YLog_add.2.1 39 = .ok (.return_, 1) := by decide +kernel
theorem dLog_answer_0 : decode YLog_answer.2.1 0 = .ok (.iload_n 1, 1) := by decide +kernel
theorem dLog_answer_1 : decode YLog_answer.2.1 1 = .ok (.iconst (-1), 1) := by decide +kernel
theorem dLog_answer_2 : decode YLog_answer.2.1 2 = .ok (.if_icmp .ne 12, 3) := by decide +kernel
theorem dLog_answer_5 : decode YLog_answer.2.1 5 = .ok (.iload_n 2, 1) := by decide +kernel
theorem dLog_answer_6 : decode YLog_answer.2.1 6 = .ok (.ifCond .ne 8, 3) := by decide +kernel
theorem dLog_answer_9 : decode YLog_answer.2.1 9 = .ok (.aload_n 0, 1) := by decide +kernel
theorem dLog_answer_10 : decode YLog_answer.2.1 10 = .ok (.getfield 18, 3) := by decide +kernel
theorem dLog_answer_13 : decode YLog_answer.2.1 13 = .ok (.ireturn, 1) := by decide +kernel
theorem dLog_answer_14 : decode YLog_answer.2.1 14 = .ok (.iload_n 1, 1) := by decide +kernel
theorem dLog_answer_15 : decode YLog_answer.2.1 15 = .ok (.ifCond .lt 11, 3) := by decide +kernel
theorem dLog_answer_18 : decode YLog_answer.2.1 18 = .ok (.iload_n 1, 1) := by decide +kernel
theorem dLog_answer_19 : decode YLog_answer.2.1 19 = .ok (.aload_n 0, 1) := by decide +kernel
theorem dLog_answer_20 : decode YLog_answer.2.1 20 = .ok (.getfield 18, 3) := by decide +kernel
theorem dLog_answer_23 : decode YLog_answer.2.1 23 = .ok (.if_icmp .lt 6, 3) := by decide +kernel
theorem dLog_answer_26 : decode YLog_answer.2.1 26 = .ok (.bipush (-2), 2) := by decide +kernel
theorem dLog_answer_28 : decode YLog_answer.2.1 28 = .ok (.ireturn, 1) := by decide +kernel
theorem dLog_answer_29 : decode YLog_answer.2.1 29 = .ok (.iload_n 2, 1) := by decide +kernel
theorem dLog_answer_30 : decode YLog_answer.2.1 30 = .ok (.ifCond .ne 10, 3) := by decide +kernel
theorem dLog_answer_33 : decode YLog_answer.2.1 33 = .ok (.aload_n 0, 1) := by decide +kernel
theorem dLog_answer_34 : decode YLog_answer.2.1 34 = .ok (.getfield 9, 3) := by decide +kernel
theorem dLog_answer_37 : decode YLog_answer.2.1 37 = .ok (.iload_n 1, 1) := by decide +kernel
theorem dLog_answer_38 : decode YLog_answer.2.1 38 = .ok (.iaload, 1) := by decide +kernel
theorem dLog_answer_39 : decode YLog_answer.2.1 39 = .ok (.ireturn, 1) := by decide +kernel
theorem dLog_answer_40 : decode YLog_answer.2.1 40 = .ok (.iload_n 2, 1) := by decide +kernel
theorem dLog_answer_41 : decode YLog_answer.2.1 41 = .ok (.iconst 1, 1) := by decide +kernel
theorem dLog_answer_42 : decode YLog_answer.2.1 42 = .ok (.if_icmp .ne 12, 3) := by decide +kernel
theorem dLog_answer_45 : decode YLog_answer.2.1 45 = .ok (.aload_n 0, 1) := by decide +kernel
theorem dLog_answer_46 : decode YLog_answer.2.1 46 = .ok (.getfield 15, 3) := by decide +kernel
theorem dLog_answer_49 : decode YLog_answer.2.1 49 = .ok (.iload_n 1, 1) := by decide +kernel
theorem dLog_answer_50 : decode YLog_answer.2.1 50 = .ok (.iaload, 1) := by decide +kernel
theorem dLog_answer_51 : decode YLog_answer.2.1 51 = .ok (.goto 5, 3) := by decide +kernel
theorem dLog_answer_54 : decode YLog_answer.2.1 54 = .ok (.bipush (-2), 2) := by decide +kernel
theorem dLog_answer_56 : decode YLog_answer.2.1 56 = .ok (.ireturn, 1) := by decide +kernel
theorem dLog_allIn_0 : decode YLog_allIn.2.1 0 = .ok (.iconst 0, 1) := by decide +kernel
theorem dLog_allIn_1 : decode YLog_allIn.2.1 1 = .ok (.istore_n 2, 1) := by decide +kernel
theorem dLog_allIn_2 : decode YLog_allIn.2.1 2 = .ok (.iload_n 2, 1) := by decide +kernel
theorem dLog_allIn_3 : decode YLog_allIn.2.1 3 = .ok (.aload_n 0, 1) := by decide +kernel
theorem dLog_allIn_4 : decode YLog_allIn.2.1 4 = .ok (.getfield 18, 3) := by decide +kernel
theorem dLog_allIn_7 : decode YLog_allIn.2.1 7 = .ok (.if_icmp .ge 24, 3) := by decide +kernel
theorem dLog_allIn_10 : decode YLog_allIn.2.1 10 = .ok (.aload_n 1, 1) := by decide +kernel
theorem dLog_allIn_11 : decode YLog_allIn.2.1 11 = .ok (.aload_n 0, 1) := by decide +kernel
theorem dLog_allIn_12 : decode YLog_allIn.2.1 12 = .ok (.getfield 9, 3) := by decide +kernel
theorem dLog_allIn_15 : decode YLog_allIn.2.1 15 = .ok (.iload_n 2, 1) := by decide +kernel
theorem dLog_allIn_16 : decode YLog_allIn.2.1 16 = .ok (.iaload, 1) := by decide +kernel
theorem dLog_allIn_17 : decode YLog_allIn.2.1 17 = .ok (.invokevirtual 28, 3) := by decide +kernel
theorem dLog_allIn_20 : decode YLog_allIn.2.1 20 = .ok (.ifCond .ne 5, 3) := by decide +kernel
theorem dLog_allIn_23 : decode YLog_allIn.2.1 23 = .ok (.iconst 0, 1) := by decide +kernel
theorem dLog_allIn_24 : decode YLog_allIn.2.1 24 = .ok (.ireturn, 1) := by decide +kernel
theorem dLog_allIn_25 : decode YLog_allIn.2.1 25 = .ok (.iinc 2 1, 3) := by decide +kernel
theorem dLog_allIn_28 : decode YLog_allIn.2.1 28 = .ok (.goto (-26), 3) := by decide +kernel
theorem dLog_allIn_31 : decode YLog_allIn.2.1 31 = .ok (.iconst 1, 1) := by decide +kernel
theorem dLog_allIn_32 : decode YLog_allIn.2.1 32 = .ok (.ireturn, 1) := by decide +kernel
theorem dOffice_init_0 : decode YOffice_init.2.1 0 = .ok (.aload_n 0, 1) := by decide +kernel
theorem dOffice_init_1 : decode YOffice_init.2.1 1 = .ok (.invokespecial 3, 3) := by decide +kernel
theorem dOffice_init_4 : decode YOffice_init.2.1 4 = .ok (.aload_n 0, 1) := by decide +kernel
theorem dOffice_init_5 : decode YOffice_init.2.1 5 = .ok (.bipush 6, 2) := by decide +kernel
theorem dOffice_init_7 : decode YOffice_init.2.1 7 = .ok (.newarray .int, 2) := by decide +kernel
theorem dOffice_init_9 : decode YOffice_init.2.1 9 = .ok (.putfield 9, 3) := by decide +kernel
theorem dOffice_init_12 : decode YOffice_init.2.1 12 = .ok (.aload_n 0, 1) := by decide +kernel
theorem dOffice_init_13 : decode YOffice_init.2.1 13 = .ok (.bipush 10, 2) := by decide +kernel
theorem dOffice_init_15 : decode YOffice_init.2.1 15 = .ok (.newarray .int, 2) := by decide +kernel
theorem dOffice_init_17 : decode YOffice_init.2.1 17 = .ok (.putfield 15, 3) := by decide +kernel
theorem dOffice_init_20 : decode YOffice_init.2.1 20 = .ok (.aload_n 0, 1) := by decide +kernel
theorem dOffice_init_21 : decode YOffice_init.2.1 21 = .ok (.bipush 10, 2) := by decide +kernel
theorem dOffice_init_23 : decode YOffice_init.2.1 23 = .ok (.newarray .int, 2) := by decide +kernel
theorem dOffice_init_25 : decode YOffice_init.2.1 25 = .ok (.putfield 18, 3) := by decide +kernel
theorem dOffice_init_28 : decode YOffice_init.2.1 28 = .ok (.aload_n 0, 1) := by decide +kernel
theorem dOffice_init_29 : decode YOffice_init.2.1 29 = .ok (.bipush 10, 2) := by decide +kernel
theorem dOffice_init_31 : decode YOffice_init.2.1 31 = .ok (.newarray .int, 2) := by decide +kernel
theorem dOffice_init_33 : decode YOffice_init.2.1 33 = .ok (.putfield 21, 3) := by decide +kernel
theorem dOffice_init_36 : decode YOffice_init.2.1 36 = .ok (.aload_n 0, 1) := by decide +kernel
theorem dOffice_init_37 : decode YOffice_init.2.1 37 = .ok (.bipush 10, 2) := by decide +kernel
theorem dOffice_init_39 : decode YOffice_init.2.1 39 = .ok (.newarray .int, 2) := by decide +kernel
theorem dOffice_init_41 : decode YOffice_init.2.1 41 = .ok (.putfield 24, 3) := by decide +kernel
theorem dOffice_init_44 : decode YOffice_init.2.1 44 = .ok (.aload_n 0, 1) := by decide +kernel
theorem dOffice_init_45 : decode YOffice_init.2.1 45 = .ok (.bipush 10, 2) := by decide +kernel
theorem dOffice_init_47 : decode YOffice_init.2.1 47 = .ok (.newarray .int, 2) := by decide +kernel
theorem dOffice_init_49 : decode YOffice_init.2.1 49 = .ok (.putfield 27, 3) := by decide +kernel
theorem dOffice_init_52 : decode YOffice_init.2.1 52 = .ok (.aload_n 0, 1) := by decide +kernel
theorem dOffice_init_53 : decode YOffice_init.2.1 53 = .ok (.bipush 10, 2) := by decide +kernel
theorem dOffice_init_55 : decode YOffice_init.2.1 55 = .ok (.newarray .int, 2) := by decide +kernel
theorem dOffice_init_57 : decode YOffice_init.2.1 57 = .ok (.putfield 30, 3) := by decide +kernel
theorem dOffice_init_60 : decode YOffice_init.2.1 60 = .ok (.aload_n 0, 1) := by decide +kernel
theorem dOffice_init_61 : decode YOffice_init.2.1 61 = .ok (.bipush 16, 2) := by decide +kernel
theorem dOffice_init_63 : decode YOffice_init.2.1 63 = .ok (.newarray .int, 2) := by decide +kernel
theorem dOffice_init_65 : decode YOffice_init.2.1 65 = .ok (.putfield 33, 3) := by decide +kernel
theorem dOffice_init_68 : decode YOffice_init.2.1 68 = .ok (.return_, 1) := by decide +kernel
theorem dOffice_clear_0 : decode YOffice_clear.2.1 0 = .ok (.aload_n 0, 1) := by decide +kernel
theorem dOffice_clear_1 : decode YOffice_clear.2.1 1 = .ok (.iconst 3, 1) := by decide +kernel
theorem dOffice_clear_2 : decode YOffice_clear.2.1 2 = .ok (.putfield 36, 3) := by decide +kernel
theorem dOffice_clear_5 : decode YOffice_clear.2.1 5 = .ok (.aload_n 0, 1) := by decide +kernel
theorem dOffice_clear_6 : decode YOffice_clear.2.1 6 = .ok (.iconst 0, 1) := by decide +kernel
theorem dOffice_clear_7 : decode YOffice_clear.2.1 7 = .ok (.putfield 40, 3) := by decide +kernel
theorem dOffice_clear_10 : decode YOffice_clear.2.1 10 = .ok (.aload_n 0, 1) := by decide +kernel
theorem dOffice_clear_11 : decode YOffice_clear.2.1 11 = .ok (.iconst 0, 1) := by decide +kernel
theorem dOffice_clear_12 : decode YOffice_clear.2.1 12 = .ok (.putfield 43, 3) := by decide +kernel
theorem dOffice_clear_15 : decode YOffice_clear.2.1 15 = .ok (.aload_n 0, 1) := by decide +kernel
theorem dOffice_clear_16 : decode YOffice_clear.2.1 16 = .ok (.getfield 9, 3) := by decide +kernel
theorem dOffice_clear_19 : decode YOffice_clear.2.1 19 = .ok (.bipush 10, 2) := by decide +kernel
theorem dOffice_clear_21 : decode YOffice_clear.2.1 21 = .ok (.invokestatic 46, 3) := by decide +kernel
theorem dOffice_clear_24 : decode YOffice_clear.2.1 24 = .ok (.aload_n 0, 1) := by decide +kernel
theorem dOffice_clear_25 : decode YOffice_clear.2.1 25 = .ok (.getfield 27, 3) := by decide +kernel
theorem dOffice_clear_28 : decode YOffice_clear.2.1 28 = .ok (.iconst (-1), 1) := by decide +kernel
theorem dOffice_clear_29 : decode YOffice_clear.2.1 29 = .ok (.invokestatic 46, 3) := by decide +kernel
theorem dOffice_clear_32 : decode YOffice_clear.2.1 32 = .ok (.aload_n 0, 1) := by decide +kernel
theorem dOffice_clear_33 : decode YOffice_clear.2.1 33 = .ok (.getfield 30, 3) := by decide +kernel
theorem dOffice_clear_36 : decode YOffice_clear.2.1 36 = .ok (.iconst (-1), 1) := by decide +kernel
theorem dOffice_clear_37 : decode YOffice_clear.2.1 37 = .ok (.invokestatic 46, 3) := by decide +kernel
theorem dOffice_clear_40 : decode YOffice_clear.2.1 40 = .ok (.aload_n 0, 1) := by decide +kernel
theorem dOffice_clear_41 : decode YOffice_clear.2.1 41 = .ok (.getfield 33, 3) := by decide +kernel
theorem dOffice_clear_44 : decode YOffice_clear.2.1 44 = .ok (.iconst (-1), 1) := by decide +kernel
theorem dOffice_clear_45 : decode YOffice_clear.2.1 45 = .ok (.invokestatic 46, 3) := by decide +kernel
theorem dOffice_clear_48 : decode YOffice_clear.2.1 48 = .ok (.return_, 1) := by decide +kernel
theorem dOffice_copyFrom_0 : decode YOffice_copyFrom.2.1 0 = .ok (.aload_n 0, 1) := by decide +kernel
theorem dOffice_copyFrom_1 : decode YOffice_copyFrom.2.1 1 = .ok (.aload_n 1, 1) := by decide +kernel
theorem dOffice_copyFrom_2 : decode YOffice_copyFrom.2.1 2 = .ok (.getfield 36, 3) := by decide +kernel
theorem dOffice_copyFrom_5 : decode YOffice_copyFrom.2.1 5 = .ok (.putfield 36, 3) := by decide +kernel
theorem dOffice_copyFrom_8 : decode YOffice_copyFrom.2.1 8 = .ok (.aload_n 0, 1) := by decide +kernel
theorem dOffice_copyFrom_9 : decode YOffice_copyFrom.2.1 9 = .ok (.aload_n 1, 1) := by decide +kernel
theorem dOffice_copyFrom_10 : decode YOffice_copyFrom.2.1 10 = .ok (.getfield 40, 3) := by decide +kernel
theorem dOffice_copyFrom_13 : decode YOffice_copyFrom.2.1 13 = .ok (.putfield 40, 3) := by decide +kernel
theorem dOffice_copyFrom_16 : decode YOffice_copyFrom.2.1 16 = .ok (.aload_n 0, 1) := by decide +kernel
theorem dOffice_copyFrom_17 : decode YOffice_copyFrom.2.1 17 = .ok (.aload_n 1, 1) := by decide +kernel
theorem dOffice_copyFrom_18 : decode YOffice_copyFrom.2.1 18 = .ok (.getfield 43, 3) := by decide +kernel
theorem dOffice_copyFrom_21 : decode YOffice_copyFrom.2.1 21 = .ok (.putfield 43, 3) := by decide +kernel
theorem dOffice_copyFrom_24 : decode YOffice_copyFrom.2.1 24 = .ok (.aload_n 1, 1) := by decide +kernel
theorem dOffice_copyFrom_25 : decode YOffice_copyFrom.2.1 25 = .ok (.getfield 9, 3) := by decide +kernel
theorem dOffice_copyFrom_28 : decode YOffice_copyFrom.2.1 28 = .ok (.iconst 0, 1) := by decide +kernel
theorem dOffice_copyFrom_29 : decode YOffice_copyFrom.2.1 29 = .ok (.aload_n 0, 1) := by decide +kernel
theorem dOffice_copyFrom_30 : decode YOffice_copyFrom.2.1 30 = .ok (.getfield 9, 3) := by decide +kernel
theorem dOffice_copyFrom_33 : decode YOffice_copyFrom.2.1 33 = .ok (.iconst 0, 1) := by decide +kernel
theorem dOffice_copyFrom_34 : decode YOffice_copyFrom.2.1 34 = .ok (.bipush 6, 2) := by decide +kernel
theorem dOffice_copyFrom_36 : decode YOffice_copyFrom.2.1 36 = .ok (.invokestatic 52, 3) := by decide +kernel
theorem dOffice_copyFrom_39 : decode YOffice_copyFrom.2.1 39 = .ok (.aload_n 1, 1) := by decide +kernel
theorem dOffice_copyFrom_40 : decode YOffice_copyFrom.2.1 40 = .ok (.getfield 15, 3) := by decide +kernel
theorem dOffice_copyFrom_43 : decode YOffice_copyFrom.2.1 43 = .ok (.iconst 0, 1) := by decide +kernel
theorem dOffice_copyFrom_44 : decode YOffice_copyFrom.2.1 44 = .ok (.aload_n 0, 1) := by decide +kernel
theorem dOffice_copyFrom_45 : decode YOffice_copyFrom.2.1 45 = .ok (.getfield 15, 3) := by decide +kernel
theorem dOffice_copyFrom_48 : decode YOffice_copyFrom.2.1 48 = .ok (.iconst 0, 1) := by decide +kernel
theorem dOffice_copyFrom_49 : decode YOffice_copyFrom.2.1 49 = .ok (.bipush 10, 2) := by decide +kernel
theorem dOffice_copyFrom_51 : decode YOffice_copyFrom.2.1 51 = .ok (.invokestatic 52, 3) := by decide +kernel
theorem dOffice_copyFrom_54 : decode YOffice_copyFrom.2.1 54 = .ok (.aload_n 1, 1) := by decide +kernel
theorem dOffice_copyFrom_55 : decode YOffice_copyFrom.2.1 55 = .ok (.getfield 18, 3) := by decide +kernel
theorem dOffice_copyFrom_58 : decode YOffice_copyFrom.2.1 58 = .ok (.iconst 0, 1) := by decide +kernel
theorem dOffice_copyFrom_59 : decode YOffice_copyFrom.2.1 59 = .ok (.aload_n 0, 1) := by decide +kernel
theorem dOffice_copyFrom_60 : decode YOffice_copyFrom.2.1 60 = .ok (.getfield 18, 3) := by decide +kernel
theorem dOffice_copyFrom_63 : decode YOffice_copyFrom.2.1 63 = .ok (.iconst 0, 1) := by decide +kernel
theorem dOffice_copyFrom_64 : decode YOffice_copyFrom.2.1 64 = .ok (.bipush 10, 2) := by decide +kernel
theorem dOffice_copyFrom_66 : decode YOffice_copyFrom.2.1 66 = .ok (.invokestatic 52, 3) := by decide +kernel
theorem dOffice_copyFrom_69 : decode YOffice_copyFrom.2.1 69 = .ok (.aload_n 1, 1) := by decide +kernel
theorem dOffice_copyFrom_70 : decode YOffice_copyFrom.2.1 70 = .ok (.getfield 21, 3) := by decide +kernel
theorem dOffice_copyFrom_73 : decode YOffice_copyFrom.2.1 73 = .ok (.iconst 0, 1) := by decide +kernel
theorem dOffice_copyFrom_74 : decode YOffice_copyFrom.2.1 74 = .ok (.aload_n 0, 1) := by decide +kernel
theorem dOffice_copyFrom_75 : decode YOffice_copyFrom.2.1 75 = .ok (.getfield 21, 3) := by decide +kernel
theorem dOffice_copyFrom_78 : decode YOffice_copyFrom.2.1 78 = .ok (.iconst 0, 1) := by decide +kernel
theorem dOffice_copyFrom_79 : decode YOffice_copyFrom.2.1 79 = .ok (.bipush 10, 2) := by decide +kernel
theorem dOffice_copyFrom_81 : decode YOffice_copyFrom.2.1 81 = .ok (.invokestatic 52, 3) := by decide +kernel
theorem dOffice_copyFrom_84 : decode YOffice_copyFrom.2.1 84 = .ok (.aload_n 1, 1) := by decide +kernel
theorem dOffice_copyFrom_85 : decode YOffice_copyFrom.2.1 85 = .ok (.getfield 24, 3) := by decide +kernel
theorem dOffice_copyFrom_88 : decode YOffice_copyFrom.2.1 88 = .ok (.iconst 0, 1) := by decide +kernel
theorem dOffice_copyFrom_89 : decode YOffice_copyFrom.2.1 89 = .ok (.aload_n 0, 1) := by decide +kernel
theorem dOffice_copyFrom_90 : decode YOffice_copyFrom.2.1 90 = .ok (.getfield 24, 3) := by decide +kernel
theorem dOffice_copyFrom_93 : decode YOffice_copyFrom.2.1 93 = .ok (.iconst 0, 1) := by decide +kernel
theorem dOffice_copyFrom_94 : decode YOffice_copyFrom.2.1 94 = .ok (.bipush 10, 2) := by decide +kernel
theorem dOffice_copyFrom_96 : decode YOffice_copyFrom.2.1 96 = .ok (.invokestatic 52, 3) := by decide +kernel
theorem dOffice_copyFrom_99 : decode YOffice_copyFrom.2.1 99 = .ok (.aload_n 1, 1) := by decide +kernel
theorem dOffice_copyFrom_100 : decode YOffice_copyFrom.2.1 100 = .ok (.getfield 27, 3) := by decide +kernel
theorem dOffice_copyFrom_103 : decode YOffice_copyFrom.2.1 103 = .ok (.iconst 0, 1) := by decide +kernel
theorem dOffice_copyFrom_104 : decode YOffice_copyFrom.2.1 104 = .ok (.aload_n 0, 1) := by decide +kernel
theorem dOffice_copyFrom_105 : decode YOffice_copyFrom.2.1 105 = .ok (.getfield 27, 3) := by decide +kernel
theorem dOffice_copyFrom_108 : decode YOffice_copyFrom.2.1 108 = .ok (.iconst 0, 1) := by decide +kernel
theorem dOffice_copyFrom_109 : decode YOffice_copyFrom.2.1 109 = .ok (.bipush 10, 2) := by decide +kernel
theorem dOffice_copyFrom_111 : decode YOffice_copyFrom.2.1 111 = .ok (.invokestatic 52, 3) := by decide +kernel
theorem dOffice_copyFrom_114 : decode YOffice_copyFrom.2.1 114 = .ok (.aload_n 1, 1) := by decide +kernel
theorem dOffice_copyFrom_115 : decode YOffice_copyFrom.2.1 115 = .ok (.getfield 30, 3) := by decide +kernel
theorem dOffice_copyFrom_118 : decode YOffice_copyFrom.2.1 118 = .ok (.iconst 0, 1) := by decide +kernel
theorem dOffice_copyFrom_119 : decode YOffice_copyFrom.2.1 119 = .ok (.aload_n 0, 1) := by decide +kernel
theorem dOffice_copyFrom_120 : decode YOffice_copyFrom.2.1 120 = .ok (.getfield 30, 3) := by decide +kernel
theorem dOffice_copyFrom_123 : decode YOffice_copyFrom.2.1 123 = .ok (.iconst 0, 1) := by decide +kernel
theorem dOffice_copyFrom_124 : decode YOffice_copyFrom.2.1 124 = .ok (.bipush 10, 2) := by decide +kernel
theorem dOffice_copyFrom_126 : decode YOffice_copyFrom.2.1 126 = .ok (.invokestatic 52, 3) := by decide +kernel
theorem dOffice_copyFrom_129 : decode YOffice_copyFrom.2.1 129 = .ok (.aload_n 1, 1) := by decide +kernel
theorem dOffice_copyFrom_130 : decode YOffice_copyFrom.2.1 130 = .ok (.getfield 33, 3) := by decide +kernel
theorem dOffice_copyFrom_133 : decode YOffice_copyFrom.2.1 133 = .ok (.iconst 0, 1) := by decide +kernel
theorem dOffice_copyFrom_134 : decode YOffice_copyFrom.2.1 134 = .ok (.aload_n 0, 1) := by decide +kernel
theorem dOffice_copyFrom_135 : decode YOffice_copyFrom.2.1 135 = .ok (.getfield 33, 3) := by decide +kernel
theorem dOffice_copyFrom_138 : decode YOffice_copyFrom.2.1 138 = .ok (.iconst 0, 1) := by decide +kernel
theorem dOffice_copyFrom_139 : decode YOffice_copyFrom.2.1 139 = .ok (.bipush 16, 2) := by decide +kernel
theorem dOffice_copyFrom_141 : decode YOffice_copyFrom.2.1 141 = .ok (.invokestatic 52, 3) := by decide +kernel
theorem dOffice_copyFrom_144 : decode YOffice_copyFrom.2.1 144 = .ok (.return_, 1) := by decide +kernel
theorem dOffice_hasHouse_0 : decode YOffice_hasHouse.2.1 0 = .ok (.iload_n 1, 1) := by decide +kernel
theorem dOffice_hasHouse_1 : decode YOffice_hasHouse.2.1 1 = .ok (.ifCond .lt 15, 3) := by decide +kernel
theorem dOffice_hasHouse_4 : decode YOffice_hasHouse.2.1 4 = .ok (.iload_n 1, 1) := by decide +kernel
theorem dOffice_hasHouse_5 : decode YOffice_hasHouse.2.1 5 = .ok (.aload_n 0, 1) := by decide +kernel
theorem dOffice_hasHouse_6 : decode YOffice_hasHouse.2.1 6 = .ok (.getfield 36, 3) := by decide +kernel
theorem dOffice_hasHouse_9 : decode YOffice_hasHouse.2.1 9 = .ok (.if_icmp .ge 7, 3) := by decide +kernel
theorem dOffice_hasHouse_12 : decode YOffice_hasHouse.2.1 12 = .ok (.iconst 1, 1) := by decide +kernel
theorem dOffice_hasHouse_13 : decode YOffice_hasHouse.2.1 13 = .ok (.goto 4, 3) := by decide +kernel
theorem dOffice_hasHouse_16 : decode YOffice_hasHouse.2.1 16 = .ok (.iconst 0, 1) := by decide +kernel
theorem dOffice_hasHouse_17 : decode YOffice_hasHouse.2.1 17 = .ok (.ireturn, 1) := by decide +kernel
theorem dOffice_hasLetter_0 : decode YOffice_hasLetter.2.1 0 = .ok (.iload_n 1, 1) := by decide +kernel
theorem dOffice_hasLetter_1 : decode YOffice_hasLetter.2.1 1 = .ok (.ifCond .lt 15, 3) := by decide +kernel
theorem dOffice_hasLetter_4 : decode YOffice_hasLetter.2.1 4 = .ok (.iload_n 1, 1) := by decide +kernel
theorem dOffice_hasLetter_5 : decode YOffice_hasLetter.2.1 5 = .ok (.aload_n 0, 1) := by decide +kernel
theorem dOffice_hasLetter_6 : decode YOffice_hasLetter.2.1 6 = .ok (.getfield 40, 3) := by decide +kernel
theorem dOffice_hasLetter_9 : decode YOffice_hasLetter.2.1 9 = .ok (.if_icmp .ge 7, 3) := by decide +kernel
theorem dOffice_hasLetter_12 : decode YOffice_hasLetter.2.1 12 = .ok (.iconst 1, 1) := by decide +kernel
theorem dOffice_hasLetter_13 : decode YOffice_hasLetter.2.1 13 = .ok (.goto 4, 3) := by decide +kernel
theorem dOffice_hasLetter_16 : decode YOffice_hasLetter.2.1 16 = .ok (.iconst 0, 1) := by decide +kernel
theorem dOffice_hasLetter_17 : decode YOffice_hasLetter.2.1 17 = .ok (.ireturn, 1) := by decide +kernel
theorem dOffice_answer_0 : decode YOffice_answer.2.1 0 = .ok (.iload_n 1, 1) := by decide +kernel
theorem dOffice_answer_1 : decode YOffice_answer.2.1 1 = .ok (.bipush 100, 2) := by decide +kernel
theorem dOffice_answer_3 : decode YOffice_answer.2.1 3 = .ok (.if_icmp .lt 24, 3) := by decide +kernel
theorem dOffice_answer_6 : decode YOffice_answer.2.1 6 = .ok (.iload_n 1, 1) := by decide +kernel
theorem dOffice_answer_7 : decode YOffice_answer.2.1 7 = .ok (.bipush 116, 2) := by decide +kernel
theorem dOffice_answer_9 : decode YOffice_answer.2.1 9 = .ok (.if_icmp .ge 15, 3) := by decide +kernel
theorem dOffice_answer_12 : decode YOffice_answer.2.1 12 = .ok (.aload_n 0, 1) := by decide +kernel
theorem dOffice_answer_13 : decode YOffice_answer.2.1 13 = .ok (.getfield 33, 3) := by decide +kernel
theorem dOffice_answer_16 : decode YOffice_answer.2.1 16 = .ok (.iload_n 1, 1) := by decide +kernel
theorem dOffice_answer_17 : decode YOffice_answer.2.1 17 = .ok (.bipush 100, 2) := by decide +kernel
theorem dOffice_answer_19 : decode YOffice_answer.2.1 19 = .ok (.isub, 1) := by decide +kernel
theorem dOffice_answer_20 : decode YOffice_answer.2.1 20 = .ok (.iaload, 1) := by decide +kernel
theorem dOffice_answer_21 : decode YOffice_answer.2.1 21 = .ok (.goto 5, 3) := by decide +kernel
theorem dOffice_answer_24 : decode YOffice_answer.2.1 24 = .ok (.bipush (-2), 2) := by decide +kernel
theorem dOffice_answer_26 : decode YOffice_answer.2.1 26 = .ok (.ireturn, 1) := by decide +kernel
theorem dOffice_answer_27 : decode YOffice_answer.2.1 27 = .ok (.iload_n 1, 1) := by decide +kernel
theorem dOffice_answer_28 : decode YOffice_answer.2.1 28 = .ok (.ifCond .ge 6, 3) := by decide +kernel
theorem dOffice_answer_31 : decode YOffice_answer.2.1 31 = .ok (.bipush (-2), 2) := by decide +kernel
theorem dOffice_answer_33 : decode YOffice_answer.2.1 33 = .ok (.ireturn, 1) := by decide +kernel
theorem dOffice_answer_34 : decode YOffice_answer.2.1 34 = .ok (.iload_n 1, 1) := by decide +kernel
theorem dOffice_answer_35 : decode YOffice_answer.2.1 35 = .ok (.bipush 10, 2) := by decide +kernel
theorem dOffice_answer_37 : decode YOffice_answer.2.1 37 = .ok (.if_icmp .ge 9, 3) := by decide +kernel
theorem dOffice_answer_40 : decode YOffice_answer.2.1 40 = .ok (.aload_n 0, 1) := by decide +kernel
theorem dOffice_answer_41 : decode YOffice_answer.2.1 41 = .ok (.iload_n 1, 1) := by decide +kernel
theorem dOffice_answer_42 : decode YOffice_answer.2.1 42 = .ok (.invokevirtual 58, 3) := by decide +kernel
theorem dOffice_answer_45 : decode YOffice_answer.2.1 45 = .ok (.ireturn, 1) := by decide +kernel
theorem dOffice_answer_46 : decode YOffice_answer.2.1 46 = .ok (.iload_n 1, 1) := by decide +kernel
theorem dOffice_answer_47 : decode YOffice_answer.2.1 47 = .ok (.bipush 10, 2) := by decide +kernel
theorem dOffice_answer_49 : decode YOffice_answer.2.1 49 = .ok (.irem, 1) := by decide +kernel
theorem dOffice_answer_50 : decode YOffice_answer.2.1 50 = .ok (.istore_n 2, 1) := by decide +kernel
theorem dOffice_answer_51 : decode YOffice_answer.2.1 51 = .ok (.iload_n 1, 1) := by decide +kernel
theorem dOffice_answer_52 : decode YOffice_answer.2.1 52 = .ok (.bipush 20, 2) := by decide +kernel
theorem dOffice_answer_54 : decode YOffice_answer.2.1 54 = .ok (.if_icmp .ge 23, 3) := by decide +kernel
theorem dOffice_answer_57 : decode YOffice_answer.2.1 57 = .ok (.aload_n 0, 1) := by decide +kernel
theorem dOffice_answer_58 : decode YOffice_answer.2.1 58 = .ok (.iload_n 2, 1) := by decide +kernel
theorem dOffice_answer_59 : decode YOffice_answer.2.1 59 = .ok (.invokevirtual 62, 3) := by decide +kernel
theorem dOffice_answer_62 : decode YOffice_answer.2.1 62 = .ok (.ifCond .eq 12, 3) := by decide +kernel
theorem dOffice_answer_65 : decode YOffice_answer.2.1 65 = .ok (.aload_n 0, 1) := by decide +kernel
theorem dOffice_answer_66 : decode YOffice_answer.2.1 66 = .ok (.getfield 9, 3) := by decide +kernel
theorem dOffice_answer_69 : decode YOffice_answer.2.1 69 = .ok (.iload_n 2, 1) := by decide +kernel
theorem dOffice_answer_70 : decode YOffice_answer.2.1 70 = .ok (.iaload, 1) := by decide +kernel
theorem dOffice_answer_71 : decode YOffice_answer.2.1 71 = .ok (.goto 5, 3) := by decide +kernel
theorem dOffice_answer_74 : decode YOffice_answer.2.1 74 = .ok (.bipush (-2), 2) := by decide +kernel
theorem dOffice_answer_76 : decode YOffice_answer.2.1 76 = .ok (.ireturn, 1) := by decide +kernel
theorem dOffice_answer_77 : decode YOffice_answer.2.1 77 = .ok (.aload_n 0, 1) := by decide +kernel
theorem dOffice_answer_78 : decode YOffice_answer.2.1 78 = .ok (.iload_n 2, 1) := by decide +kernel
theorem dOffice_answer_79 : decode YOffice_answer.2.1 79 = .ok (.invokevirtual 66, 3) := by decide +kernel
theorem dOffice_answer_82 : decode YOffice_answer.2.1 82 = .ok (.ifCond .eq 15, 3) := by decide +kernel
theorem dOffice_answer_85 : decode YOffice_answer.2.1 85 = .ok (.aload_n 0, 1) := by decide +kernel
theorem dOffice_answer_86 : decode YOffice_answer.2.1 86 = .ok (.iload_n 1, 1) := by decide +kernel
theorem dOffice_answer_87 : decode YOffice_answer.2.1 87 = .ok (.bipush 10, 2) := by decide +kernel
theorem dOffice_answer_89 : decode YOffice_answer.2.1 89 = .ok (.idiv, 1) := by decide +kernel
theorem dOffice_answer_90 : decode YOffice_answer.2.1 90 = .ok (.iload_n 2, 1) := by decide +kernel
theorem dOffice_answer_91 : decode YOffice_answer.2.1 91 = .ok (.invokevirtual 69, 3) := by decide +kernel
theorem dOffice_answer_94 : decode YOffice_answer.2.1 94 = .ok (.goto 5, 3) := by decide +kernel
theorem dOffice_answer_97 : decode YOffice_answer.2.1 97 = .ok (.bipush (-2), 2) := by decide +kernel
theorem dOffice_answer_99 : decode YOffice_answer.2.1 99 = .ok (.ireturn, 1) := by decide +kernel
theorem dOffice_sizeOf_0 : decode YOffice_sizeOf.2.1 0 = .ok (.iload_n 1, 1) := by decide +kernel
theorem dOffice_sizeOf_1 : decode YOffice_sizeOf.2.1 1 = .ok (.tableswitch 42 0 2 #[27, 32, 37], 27) := by decide +kernel
theorem dOffice_sizeOf_28 : decode YOffice_sizeOf.2.1 28 = .ok (.aload_n 0, 1) := by decide +kernel
theorem dOffice_sizeOf_29 : decode YOffice_sizeOf.2.1 29 = .ok (.getfield 36, 3) := by decide +kernel
theorem dOffice_sizeOf_32 : decode YOffice_sizeOf.2.1 32 = .ok (.ireturn, 1) := by decide +kernel
theorem dOffice_sizeOf_33 : decode YOffice_sizeOf.2.1 33 = .ok (.aload_n 0, 1) := by decide +kernel
theorem dOffice_sizeOf_34 : decode YOffice_sizeOf.2.1 34 = .ok (.getfield 40, 3) := by decide +kernel
theorem dOffice_sizeOf_37 : decode YOffice_sizeOf.2.1 37 = .ok (.ireturn, 1) := by decide +kernel
theorem dOffice_sizeOf_38 : decode YOffice_sizeOf.2.1 38 = .ok (.aload_n 0, 1) := by decide +kernel
theorem dOffice_sizeOf_39 : decode YOffice_sizeOf.2.1 39 = .ok (.getfield 43, 3) := by decide +kernel
theorem dOffice_sizeOf_42 : decode YOffice_sizeOf.2.1 42 = .ok (.ireturn, 1) := by decide +kernel
theorem dOffice_sizeOf_43 : decode YOffice_sizeOf.2.1 43 = .ok (.bipush (-2), 2) := by decide +kernel
theorem dOffice_sizeOf_45 : decode YOffice_sizeOf.2.1 45 = .ok (.ireturn, 1) := by decide +kernel
theorem dOffice_ofLetter_0 : decode YOffice_ofLetter.2.1 0 = .ok (.iload_n 1, 1) := by decide +kernel
theorem dOffice_ofLetter_1 : decode YOffice_ofLetter.2.1 1 = .ok (.tableswitch 70 2 6 #[35, 42, 49, 56, 63], 35) := by decide +kernel
theorem dOffice_ofLetter_36 : decode YOffice_ofLetter.2.1 36 = .ok (.aload_n 0, 1) := by decide +kernel
theorem dOffice_ofLetter_37 : decode YOffice_ofLetter.2.1 37 = .ok (.getfield 15, 3) := by decide +kernel
theorem dOffice_ofLetter_40 : decode YOffice_ofLetter.2.1 40 = .ok (.iload_n 2, 1) := by decide +kernel
theorem dOffice_ofLetter_41 : decode YOffice_ofLetter.2.1 41 = .ok (.iaload, 1) := by decide +kernel
theorem dOffice_ofLetter_42 : decode YOffice_ofLetter.2.1 42 = .ok (.ireturn, 1) := by decide +kernel
theorem dOffice_ofLetter_43 : decode YOffice_ofLetter.2.1 43 = .ok (.aload_n 0, 1) := by decide +kernel
theorem dOffice_ofLetter_44 : decode YOffice_ofLetter.2.1 44 = .ok (.getfield 18, 3) := by decide +kernel
theorem dOffice_ofLetter_47 : decode YOffice_ofLetter.2.1 47 = .ok (.iload_n 2, 1) := by decide +kernel
theorem dOffice_ofLetter_48 : decode YOffice_ofLetter.2.1 48 = .ok (.iaload, 1) := by decide +kernel
theorem dOffice_ofLetter_49 : decode YOffice_ofLetter.2.1 49 = .ok (.ireturn, 1) := by decide +kernel
theorem dOffice_ofLetter_50 : decode YOffice_ofLetter.2.1 50 = .ok (.aload_n 0, 1) := by decide +kernel
theorem dOffice_ofLetter_51 : decode YOffice_ofLetter.2.1 51 = .ok (.getfield 21, 3) := by decide +kernel
theorem dOffice_ofLetter_54 : decode YOffice_ofLetter.2.1 54 = .ok (.iload_n 2, 1) := by decide +kernel
theorem dOffice_ofLetter_55 : decode YOffice_ofLetter.2.1 55 = .ok (.iaload, 1) := by decide +kernel
theorem dOffice_ofLetter_56 : decode YOffice_ofLetter.2.1 56 = .ok (.ireturn, 1) := by decide +kernel
theorem dOffice_ofLetter_57 : decode YOffice_ofLetter.2.1 57 = .ok (.aload_n 0, 1) := by decide +kernel
theorem dOffice_ofLetter_58 : decode YOffice_ofLetter.2.1 58 = .ok (.getfield 27, 3) := by decide +kernel
theorem dOffice_ofLetter_61 : decode YOffice_ofLetter.2.1 61 = .ok (.iload_n 2, 1) := by decide +kernel
theorem dOffice_ofLetter_62 : decode YOffice_ofLetter.2.1 62 = .ok (.iaload, 1) := by decide +kernel
theorem dOffice_ofLetter_63 : decode YOffice_ofLetter.2.1 63 = .ok (.ireturn, 1) := by decide +kernel
theorem dOffice_ofLetter_64 : decode YOffice_ofLetter.2.1 64 = .ok (.aload_n 0, 1) := by decide +kernel
theorem dOffice_ofLetter_65 : decode YOffice_ofLetter.2.1 65 = .ok (.getfield 30, 3) := by decide +kernel
theorem dOffice_ofLetter_68 : decode YOffice_ofLetter.2.1 68 = .ok (.iload_n 2, 1) := by decide +kernel
theorem dOffice_ofLetter_69 : decode YOffice_ofLetter.2.1 69 = .ok (.iaload, 1) := by decide +kernel
theorem dOffice_ofLetter_70 : decode YOffice_ofLetter.2.1 70 = .ok (.ireturn, 1) := by decide +kernel
theorem dOffice_ofLetter_71 : decode YOffice_ofLetter.2.1 71 = .ok (.bipush (-2), 2) := by decide +kernel
theorem dOffice_ofLetter_73 : decode YOffice_ofLetter.2.1 73 = .ok (.ireturn, 1) := by decide +kernel
theorem dOffice_addLetter_0 : decode YOffice_addLetter.2.1 0 = .ok (.aload_n 0, 1) := by decide +kernel
theorem dOffice_addLetter_1 : decode YOffice_addLetter.2.1 1 = .ok (.getfield 40, 3) := by decide +kernel
theorem dOffice_addLetter_4 : decode YOffice_addLetter.2.1 4 = .ok (.bipush 10, 2) := by decide +kernel
theorem dOffice_addLetter_6 : decode YOffice_addLetter.2.1 6 = .ok (.if_icmp .ge 57, 3) := by decide +kernel
theorem dOffice_addLetter_9 : decode YOffice_addLetter.2.1 9 = .ok (.aload_n 0, 1) := by decide +kernel
theorem dOffice_addLetter_10 : decode YOffice_addLetter.2.1 10 = .ok (.getfield 15, 3) := by decide +kernel
theorem dOffice_addLetter_13 : decode YOffice_addLetter.2.1 13 = .ok (.aload_n 0, 1) := by decide +kernel
theorem dOffice_addLetter_14 : decode YOffice_addLetter.2.1 14 = .ok (.getfield 40, 3) := by decide +kernel
theorem dOffice_addLetter_17 : decode YOffice_addLetter.2.1 17 = .ok (.iload_n 1, 1) := by decide +kernel
theorem dOffice_addLetter_18 : decode YOffice_addLetter.2.1 18 = .ok (.iastore, 1) := by decide +kernel
theorem dOffice_addLetter_19 : decode YOffice_addLetter.2.1 19 = .ok (.aload_n 0, 1) := by decide +kernel
theorem dOffice_addLetter_20 : decode YOffice_addLetter.2.1 20 = .ok (.getfield 18, 3) := by decide +kernel
theorem dOffice_addLetter_23 : decode YOffice_addLetter.2.1 23 = .ok (.aload_n 0, 1) := by decide +kernel
theorem dOffice_addLetter_24 : decode YOffice_addLetter.2.1 24 = .ok (.getfield 40, 3) := by decide +kernel
theorem dOffice_addLetter_27 : decode YOffice_addLetter.2.1 27 = .ok (.iload_n 2, 1) := by decide +kernel
theorem dOffice_addLetter_28 : decode YOffice_addLetter.2.1 28 = .ok (.iastore, 1) := by decide +kernel
theorem dOffice_addLetter_29 : decode YOffice_addLetter.2.1 29 = .ok (.aload_n 0, 1) := by decide +kernel
theorem dOffice_addLetter_30 : decode YOffice_addLetter.2.1 30 = .ok (.getfield 21, 3) := by decide +kernel
theorem dOffice_addLetter_33 : decode YOffice_addLetter.2.1 33 = .ok (.aload_n 0, 1) := by decide +kernel
theorem dOffice_addLetter_34 : decode YOffice_addLetter.2.1 34 = .ok (.getfield 40, 3) := by decide +kernel
theorem dOffice_addLetter_37 : decode YOffice_addLetter.2.1 37 = .ok (.iload_n 3, 1) := by decide +kernel
theorem dOffice_addLetter_38 : decode YOffice_addLetter.2.1 38 = .ok (.iastore, 1) := by decide +kernel
theorem dOffice_addLetter_39 : decode YOffice_addLetter.2.1 39 = .ok (.aload_n 0, 1) := by decide +kernel
theorem dOffice_addLetter_40 : decode YOffice_addLetter.2.1 40 = .ok (.getfield 24, 3) := by decide +kernel
theorem dOffice_addLetter_43 : decode YOffice_addLetter.2.1 43 = .ok (.aload_n 0, 1) := by decide +kernel
theorem dOffice_addLetter_44 : decode YOffice_addLetter.2.1 44 = .ok (.getfield 40, 3) := by decide +kernel
theorem dOffice_addLetter_47 : decode YOffice_addLetter.2.1 47 = .ok (.iload_n 2, 1) := by decide +kernel
theorem dOffice_addLetter_48 : decode YOffice_addLetter.2.1 48 = .ok (.iload_n 3, 1) := by decide +kernel
theorem dOffice_addLetter_49 : decode YOffice_addLetter.2.1 49 = .ok (.invokestatic 73, 3) := by decide +kernel
theorem dOffice_addLetter_52 : decode YOffice_addLetter.2.1 52 = .ok (.iastore, 1) := by decide +kernel
theorem dOffice_addLetter_53 : decode YOffice_addLetter.2.1 53 = .ok (.aload_n 0, 1) := by decide +kernel
theorem dOffice_addLetter_54 : decode YOffice_addLetter.2.1 54 = .ok (.dup, 1) := by decide +kernel
theorem dOffice_addLetter_55 : decode YOffice_addLetter.2.1 55 = .ok (.getfield 40, 3) := by decide +kernel
theorem dOffice_addLetter_58 : decode YOffice_addLetter.2.1 58 = .ok (.iconst 1, 1) := by decide +kernel
theorem dOffice_addLetter_59 : decode YOffice_addLetter.2.1 59 = .ok (.iadd, 1) := by decide +kernel
theorem dOffice_addLetter_60 : decode YOffice_addLetter.2.1 60 = .ok (.putfield 40, 3) := by decide +kernel
theorem dOffice_addLetter_63 : decode YOffice_addLetter.2.1 63 = .ok (.return_, 1) := by decide +kernel
theorem dOffice_plainOf_0 : decode YOffice_plainOf.2.1 0 = .ok (.iload_n 0, 1) := by decide +kernel
theorem dOffice_plainOf_1 : decode YOffice_plainOf.2.1 1 = .ok (.tableswitch 36 0 2 #[27, 29, 32], 27) := by decide +kernel
theorem dOffice_plainOf_28 : decode YOffice_plainOf.2.1 28 = .ok (.iload_n 1, 1) := by decide +kernel
theorem dOffice_plainOf_29 : decode YOffice_plainOf.2.1 29 = .ok (.ireturn, 1) := by decide +kernel
theorem dOffice_plainOf_30 : decode YOffice_plainOf.2.1 30 = .ok (.iload_n 1, 1) := by decide +kernel
theorem dOffice_plainOf_31 : decode YOffice_plainOf.2.1 31 = .ok (.ineg, 1) := by decide +kernel
theorem dOffice_plainOf_32 : decode YOffice_plainOf.2.1 32 = .ok (.ireturn, 1) := by decide +kernel
theorem dOffice_plainOf_33 : decode YOffice_plainOf.2.1 33 = .ok (.iload_n 1, 1) := by decide +kernel
theorem dOffice_plainOf_34 : decode YOffice_plainOf.2.1 34 = .ok (.iconst 2, 1) := by decide +kernel
theorem dOffice_plainOf_35 : decode YOffice_plainOf.2.1 35 = .ok (.idiv, 1) := by decide +kernel
theorem dOffice_plainOf_36 : decode YOffice_plainOf.2.1 36 = .ok (.ireturn, 1) := by decide +kernel
theorem dOffice_plainOf_37 : decode YOffice_plainOf.2.1 37 = .ok (.iconst 0, 1) := by decide +kernel
theorem dOffice_plainOf_38 : decode YOffice_plainOf.2.1 38 = .ok (.ireturn, 1) := by decide +kernel
theorem dOffice_does_0 : decode YOffice_does.2.1 0 = .ok (.iload_n 2, 1) := by decide +kernel
theorem dOffice_does_1 : decode YOffice_does.2.1 1 = .ok (.iconst (-1), 1) := by decide +kernel
theorem dOffice_does_2 : decode YOffice_does.2.1 2 = .ok (.if_icmp .ne 7, 3) := by decide +kernel
theorem dOffice_does_5 : decode YOffice_does.2.1 5 = .ok (.iconst (-1), 1) := by decide +kernel
theorem dOffice_does_6 : decode YOffice_does.2.1 6 = .ok (.goto 18, 3) := by decide +kernel
theorem dOffice_does_9 : decode YOffice_does.2.1 9 = .ok (.aload_n 0, 1) := by decide +kernel
theorem dOffice_does_10 : decode YOffice_does.2.1 10 = .ok (.getfield 33, 3) := by decide +kernel
theorem dOffice_does_13 : decode YOffice_does.2.1 13 = .ok (.iconst 4, 1) := by decide +kernel
theorem dOffice_does_14 : decode YOffice_does.2.1 14 = .ok (.iload_n 2, 1) := by decide +kernel
theorem dOffice_does_15 : decode YOffice_does.2.1 15 = .ok (.imul, 1) := by decide +kernel
theorem dOffice_does_16 : decode YOffice_does.2.1 16 = .ok (.aload_n 0, 1) := by decide +kernel
theorem dOffice_does_17 : decode YOffice_does.2.1 17 = .ok (.getfield 18, 3) := by decide +kernel
theorem dOffice_does_20 : decode YOffice_does.2.1 20 = .ok (.iload_n 1, 1) := by decide +kernel
theorem dOffice_does_21 : decode YOffice_does.2.1 21 = .ok (.iaload, 1) := by decide +kernel
theorem dOffice_does_22 : decode YOffice_does.2.1 22 = .ok (.iadd, 1) := by decide +kernel
theorem dOffice_does_23 : decode YOffice_does.2.1 23 = .ok (.iaload, 1) := by decide +kernel
theorem dOffice_does_24 : decode YOffice_does.2.1 24 = .ok (.istore_n 3, 1) := by decide +kernel
theorem dOffice_does_25 : decode YOffice_does.2.1 25 = .ok (.iload_n 3, 1) := by decide +kernel
theorem dOffice_does_26 : decode YOffice_does.2.1 26 = .ok (.iconst (-1), 1) := by decide +kernel
theorem dOffice_does_27 : decode YOffice_does.2.1 27 = .ok (.if_icmp .ne 12, 3) := by decide +kernel
theorem dOffice_does_30 : decode YOffice_does.2.1 30 = .ok (.aload_n 0, 1) := by decide +kernel
theorem dOffice_does_31 : decode YOffice_does.2.1 31 = .ok (.getfield 24, 3) := by decide +kernel
theorem dOffice_does_34 : decode YOffice_does.2.1 34 = .ok (.iload_n 1, 1) := by decide +kernel
theorem dOffice_does_35 : decode YOffice_does.2.1 35 = .ok (.iaload, 1) := by decide +kernel
theorem dOffice_does_36 : decode YOffice_does.2.1 36 = .ok (.goto 11, 3) := by decide +kernel
theorem dOffice_does_39 : decode YOffice_does.2.1 39 = .ok (.iload_n 3, 1) := by decide +kernel
theorem dOffice_does_40 : decode YOffice_does.2.1 40 = .ok (.aload_n 0, 1) := by decide +kernel
theorem dOffice_does_41 : decode YOffice_does.2.1 41 = .ok (.getfield 24, 3) := by decide +kernel
theorem dOffice_does_44 : decode YOffice_does.2.1 44 = .ok (.iload_n 1, 1) := by decide +kernel
theorem dOffice_does_45 : decode YOffice_does.2.1 45 = .ok (.iaload, 1) := by decide +kernel
theorem dOffice_does_46 : decode YOffice_does.2.1 46 = .ok (.imul, 1) := by decide +kernel
theorem dOffice_does_47 : decode YOffice_does.2.1 47 = .ok (.ireturn, 1) := by decide +kernel
theorem dOffice_lettersOf_0 : decode YOffice_lettersOf.2.1 0 = .ok (.iconst 0, 1) := by decide +kernel
theorem dOffice_lettersOf_1 : decode YOffice_lettersOf.2.1 1 = .ok (.istore_n 2, 1) := by decide +kernel
theorem dOffice_lettersOf_2 : decode YOffice_lettersOf.2.1 2 = .ok (.iconst 0, 1) := by decide +kernel
theorem dOffice_lettersOf_3 : decode YOffice_lettersOf.2.1 3 = .ok (.istore_n 3, 1) := by decide +kernel
theorem dOffice_lettersOf_4 : decode YOffice_lettersOf.2.1 4 = .ok (.iload_n 3, 1) := by decide +kernel
theorem dOffice_lettersOf_5 : decode YOffice_lettersOf.2.1 5 = .ok (.aload_n 0, 1) := by decide +kernel
theorem dOffice_lettersOf_6 : decode YOffice_lettersOf.2.1 6 = .ok (.getfield 40, 3) := by decide +kernel
theorem dOffice_lettersOf_9 : decode YOffice_lettersOf.2.1 9 = .ok (.if_icmp .ge 25, 3) := by decide +kernel
theorem dOffice_lettersOf_12 : decode YOffice_lettersOf.2.1 12 = .ok (.aload_n 0, 1) := by decide +kernel
theorem dOffice_lettersOf_13 : decode YOffice_lettersOf.2.1 13 = .ok (.getfield 15, 3) := by decide +kernel
theorem dOffice_lettersOf_16 : decode YOffice_lettersOf.2.1 16 = .ok (.iload_n 3, 1) := by decide +kernel
theorem dOffice_lettersOf_17 : decode YOffice_lettersOf.2.1 17 = .ok (.iaload, 1) := by decide +kernel
theorem dOffice_lettersOf_18 : decode YOffice_lettersOf.2.1 18 = .ok (.iload_n 1, 1) := by decide +kernel
theorem dOffice_lettersOf_19 : decode YOffice_lettersOf.2.1 19 = .ok (.if_icmp .ne 9, 3) := by decide +kernel
theorem dOffice_lettersOf_22 : decode YOffice_lettersOf.2.1 22 = .ok (.iload_n 2, 1) := by decide +kernel
theorem dOffice_lettersOf_23 : decode YOffice_lettersOf.2.1 23 = .ok (.iconst 1, 1) := by decide +kernel
theorem dOffice_lettersOf_24 : decode YOffice_lettersOf.2.1 24 = .ok (.iload_n 3, 1) := by decide +kernel
theorem dOffice_lettersOf_25 : decode YOffice_lettersOf.2.1 25 = .ok (.ishl, 1) := by decide +kernel
theorem dOffice_lettersOf_26 : decode YOffice_lettersOf.2.1 26 = .ok (.ior, 1) := by decide +kernel
theorem dOffice_lettersOf_27 : decode YOffice_lettersOf.2.1 27 = .ok (.istore_n 2, 1) := by decide +kernel
theorem dOffice_lettersOf_28 : decode YOffice_lettersOf.2.1 28 = .ok (.iinc 3 1, 3) := by decide +kernel
theorem dOffice_lettersOf_31 : decode YOffice_lettersOf.2.1 31 = .ok (.goto (-27), 3) := by decide +kernel
theorem dOffice_lettersOf_34 : decode YOffice_lettersOf.2.1 34 = .ok (.iload_n 2, 1) := by decide +kernel
theorem dOffice_lettersOf_35 : decode YOffice_lettersOf.2.1 35 = .ok (.ireturn, 1) := by decide +kernel
theorem dOffice_moodBehind_0 : decode YOffice_moodBehind.2.1 0 = .ok (.aload_n 0, 1) := by decide +kernel
theorem dOffice_moodBehind_1 : decode YOffice_moodBehind.2.1 1 = .ok (.getfield 9, 3) := by decide +kernel
theorem dOffice_moodBehind_4 : decode YOffice_moodBehind.2.1 4 = .ok (.iload_n 1, 1) := by decide +kernel
theorem dOffice_moodBehind_5 : decode YOffice_moodBehind.2.1 5 = .ok (.iaload, 1) := by decide +kernel
theorem dOffice_moodBehind_6 : decode YOffice_moodBehind.2.1 6 = .ok (.istore_n 3, 1) := by decide +kernel
theorem dOffice_moodBehind_7 : decode YOffice_moodBehind.2.1 7 = .ok (.iconst (-1), 1) := by decide +kernel
theorem dOffice_moodBehind_8 : decode YOffice_moodBehind.2.1 8 = .ok (.istore 4, 2) := by decide +kernel
theorem dOffice_moodBehind_10 : decode YOffice_moodBehind.2.1 10 = .ok (.iconst 0, 1) := by decide +kernel
theorem dOffice_moodBehind_11 : decode YOffice_moodBehind.2.1 11 = .ok (.istore 5, 2) := by decide +kernel
theorem dOffice_moodBehind_13 : decode YOffice_moodBehind.2.1 13 = .ok (.iload 5, 2) := by decide +kernel
theorem dOffice_moodBehind_15 : decode YOffice_moodBehind.2.1 15 = .ok (.aload_n 0, 1) := by decide +kernel
theorem dOffice_moodBehind_16 : decode YOffice_moodBehind.2.1 16 = .ok (.getfield 40, 3) := by decide +kernel
theorem dOffice_moodBehind_19 : decode YOffice_moodBehind.2.1 19 = .ok (.if_icmp .ge 39, 3) := by decide +kernel
theorem dOffice_moodBehind_22 : decode YOffice_moodBehind.2.1 22 = .ok (.iload_n 2, 1) := by decide +kernel
theorem dOffice_moodBehind_23 : decode YOffice_moodBehind.2.1 23 = .ok (.iload 5, 2) := by decide +kernel
theorem dOffice_moodBehind_25 : decode YOffice_moodBehind.2.1 25 = .ok (.ishr, 1) := by decide +kernel
theorem dOffice_moodBehind_26 : decode YOffice_moodBehind.2.1 26 = .ok (.iconst 1, 1) := by decide +kernel
theorem dOffice_moodBehind_27 : decode YOffice_moodBehind.2.1 27 = .ok (.iand, 1) := by decide +kernel
theorem dOffice_moodBehind_28 : decode YOffice_moodBehind.2.1 28 = .ok (.iconst 1, 1) := by decide +kernel
theorem dOffice_moodBehind_29 : decode YOffice_moodBehind.2.1 29 = .ok (.if_icmp .ne 23, 3) := by decide +kernel
theorem dOffice_moodBehind_32 : decode YOffice_moodBehind.2.1 32 = .ok (.iload_n 3, 1) := by decide +kernel
theorem dOffice_moodBehind_33 : decode YOffice_moodBehind.2.1 33 = .ok (.aload_n 0, 1) := by decide +kernel
theorem dOffice_moodBehind_34 : decode YOffice_moodBehind.2.1 34 = .ok (.iload 5, 2) := by decide +kernel
theorem dOffice_moodBehind_36 : decode YOffice_moodBehind.2.1 36 = .ok (.iload 4, 2) := by decide +kernel
theorem dOffice_moodBehind_38 : decode YOffice_moodBehind.2.1 38 = .ok (.invokevirtual 76, 3) := by decide +kernel
theorem dOffice_moodBehind_41 : decode YOffice_moodBehind.2.1 41 = .ok (.iadd, 1) := by decide +kernel
theorem dOffice_moodBehind_42 : decode YOffice_moodBehind.2.1 42 = .ok (.istore_n 3, 1) := by decide +kernel
theorem dOffice_moodBehind_43 : decode YOffice_moodBehind.2.1 43 = .ok (.aload_n 0, 1) := by decide +kernel
theorem dOffice_moodBehind_44 : decode YOffice_moodBehind.2.1 44 = .ok (.getfield 18, 3) := by decide +kernel
theorem dOffice_moodBehind_47 : decode YOffice_moodBehind.2.1 47 = .ok (.iload 5, 2) := by decide +kernel
theorem dOffice_moodBehind_49 : decode YOffice_moodBehind.2.1 49 = .ok (.iaload, 1) := by decide +kernel
theorem dOffice_moodBehind_50 : decode YOffice_moodBehind.2.1 50 = .ok (.istore 4, 2) := by decide +kernel
theorem dOffice_moodBehind_52 : decode YOffice_moodBehind.2.1 52 = .ok (.iinc 5 1, 3) := by decide +kernel
theorem dOffice_moodBehind_55 : decode YOffice_moodBehind.2.1 55 = .ok (.goto (-42), 3) := by decide +kernel
theorem dOffice_moodBehind_58 : decode YOffice_moodBehind.2.1 58 = .ok (.iload_n 3, 1) := by decide +kernel
theorem dOffice_moodBehind_59 : decode YOffice_moodBehind.2.1 59 = .ok (.ireturn, 1) := by decide +kernel
theorem dOffice_lowestUntil_0 : decode YOffice_lowestUntil.2.1 0 = .ok (.aload_n 0, 1) := by decide +kernel
theorem dOffice_lowestUntil_1 : decode YOffice_lowestUntil.2.1 1 = .ok (.getfield 9, 3) := by decide +kernel
theorem dOffice_lowestUntil_4 : decode YOffice_lowestUntil.2.1 4 = .ok (.iload_n 1, 1) := by decide +kernel
theorem dOffice_lowestUntil_5 : decode YOffice_lowestUntil.2.1 5 = .ok (.iaload, 1) := by decide +kernel
theorem dOffice_lowestUntil_6 : decode YOffice_lowestUntil.2.1 6 = .ok (.istore_n 3, 1) := by decide +kernel
theorem dOffice_lowestUntil_7 : decode YOffice_lowestUntil.2.1 7 = .ok (.iload_n 3, 1) := by decide +kernel
theorem dOffice_lowestUntil_8 : decode YOffice_lowestUntil.2.1 8 = .ok (.istore 4, 2) := by decide +kernel
theorem dOffice_lowestUntil_10 : decode YOffice_lowestUntil.2.1 10 = .ok (.iconst (-1), 1) := by decide +kernel
theorem dOffice_lowestUntil_11 : decode YOffice_lowestUntil.2.1 11 = .ok (.istore 5, 2) := by decide +kernel
