theorem dReader_takeNumber_18 : decode YReader_takeNumber.2.1 18 = .ok (.iconst 0, 1) := by decide +kernel
theorem dReader_takeNumber_19 : decode YReader_takeNumber.2.1 19 = .ok (.istore_n 1, 1) := by decide +kernel
theorem dReader_takeNumber_20 : decode YReader_takeNumber.2.1 20 = .ok (.aload_n 0, 1) := by decide +kernel
theorem dReader_takeNumber_21 : decode YReader_takeNumber.2.1 21 = .ok (.getfield 63, 3) := by decide +kernel
theorem dReader_takeNumber_24 : decode YReader_takeNumber.2.1 24 = .ok (.istore_n 2, 1) := by decide +kernel
theorem dReader_takeNumber_25 : decode YReader_takeNumber.2.1 25 = .ok (.iload_n 2, 1) := by decide +kernel
theorem dReader_takeNumber_26 : decode YReader_takeNumber.2.1 26 = .ok (.aload_n 0, 1) := by decide +kernel
theorem dReader_takeNumber_27 : decode YReader_takeNumber.2.1 27 = .ok (.getfield 90, 3) := by decide +kernel
theorem dReader_takeNumber_30 : decode YReader_takeNumber.2.1 30 = .ok (.if_icmp .ge 24, 3) := by decide +kernel
theorem dReader_takeNumber_33 : decode YReader_takeNumber.2.1 33 = .ok (.bipush 10, 2) := by decide +kernel
theorem dReader_takeNumber_35 : decode YReader_takeNumber.2.1 35 = .ok (.iload_n 1, 1) := by decide +kernel
theorem dReader_takeNumber_36 : decode YReader_takeNumber.2.1 36 = .ok (.imul, 1) := by decide +kernel
theorem dReader_takeNumber_37 : decode YReader_takeNumber.2.1 37 = .ok (.aload_n 0, 1) := by decide +kernel
theorem dReader_takeNumber_38 : decode YReader_takeNumber.2.1 38 = .ok (.getfield 77, 3) := by decide +kernel
theorem dReader_takeNumber_41 : decode YReader_takeNumber.2.1 41 = .ok (.iload_n 2, 1) := by decide +kernel
theorem dReader_takeNumber_42 : decode YReader_takeNumber.2.1 42 = .ok (.baload, 1) := by decide +kernel
theorem dReader_takeNumber_43 : decode YReader_takeNumber.2.1 43 = .ok (.iadd, 1) := by decide +kernel
theorem dReader_takeNumber_44 : decode YReader_takeNumber.2.1 44 = .ok (.bipush 48, 2) := by decide +kernel
theorem dReader_takeNumber_46 : decode YReader_takeNumber.2.1 46 = .ok (.isub, 1) := by decide +kernel
theorem dReader_takeNumber_47 : decode YReader_takeNumber.2.1 47 = .ok (.istore_n 1, 1) := by decide +kernel
theorem dReader_takeNumber_48 : decode YReader_takeNumber.2.1 48 = .ok (.iinc 2 1, 3) := by decide +kernel
theorem dReader_takeNumber_51 : decode YReader_takeNumber.2.1 51 = .ok (.goto (-26), 3) := by decide +kernel
theorem dReader_takeNumber_54 : decode YReader_takeNumber.2.1 54 = .ok (.aload_n 0, 1) := by decide +kernel
theorem dReader_takeNumber_55 : decode YReader_takeNumber.2.1 55 = .ok (.getfield 36, 3) := by decide +kernel
theorem dReader_takeNumber_58 : decode YReader_takeNumber.2.1 58 = .ok (.aload_n 0, 1) := by decide +kernel
theorem dReader_takeNumber_59 : decode YReader_takeNumber.2.1 59 = .ok (.getfield 124, 3) := by decide +kernel
theorem dReader_takeNumber_62 : decode YReader_takeNumber.2.1 62 = .ok (.iload_n 1, 1) := by decide +kernel
theorem dReader_takeNumber_63 : decode YReader_takeNumber.2.1 63 = .ok (.iastore, 1) := by decide +kernel
theorem dReader_takeNumber_64 : decode YReader_takeNumber.2.1 64 = .ok (.aload_n 0, 1) := by decide +kernel
theorem dReader_takeNumber_65 : decode YReader_takeNumber.2.1 65 = .ok (.getfield 39, 3) := by decide +kernel
theorem dReader_takeNumber_68 : decode YReader_takeNumber.2.1 68 = .ok (.aload_n 0, 1) := by decide +kernel
theorem dReader_takeNumber_69 : decode YReader_takeNumber.2.1 69 = .ok (.getfield 124, 3) := by decide +kernel
theorem dReader_takeNumber_72 : decode YReader_takeNumber.2.1 72 = .ok (.aload_n 0, 1) := by decide +kernel
theorem dReader_takeNumber_73 : decode YReader_takeNumber.2.1 73 = .ok (.getfield 63, 3) := by decide +kernel
theorem dReader_takeNumber_76 : decode YReader_takeNumber.2.1 76 = .ok (.iastore, 1) := by decide +kernel
theorem dReader_takeNumber_77 : decode YReader_takeNumber.2.1 77 = .ok (.aload_n 0, 1) := by decide +kernel
theorem dReader_takeNumber_78 : decode YReader_takeNumber.2.1 78 = .ok (.dup, 1) := by decide +kernel
theorem dReader_takeNumber_79 : decode YReader_takeNumber.2.1 79 = .ok (.getfield 124, 3) := by decide +kernel
theorem dReader_takeNumber_82 : decode YReader_takeNumber.2.1 82 = .ok (.iconst 1, 1) := by decide +kernel
theorem dReader_takeNumber_83 : decode YReader_takeNumber.2.1 83 = .ok (.iadd, 1) := by decide +kernel
theorem dReader_takeNumber_84 : decode YReader_takeNumber.2.1 84 = .ok (.putfield 124, 3) := by decide +kernel
theorem dReader_takeNumber_87 : decode YReader_takeNumber.2.1 87 = .ok (.iconst 1, 1) := by decide +kernel
theorem dReader_takeNumber_88 : decode YReader_takeNumber.2.1 88 = .ok (.ireturn, 1) := by decide +kernel
theorem dReader_noteFaults_0 : decode YReader_noteFaults.2.1 0 = .ok (.aload_n 0, 1) := by decide +kernel
theorem dReader_noteFaults_1 : decode YReader_noteFaults.2.1 1 = .ok (.iload_n 1, 1) := by decide +kernel
theorem dReader_noteFaults_2 : decode YReader_noteFaults.2.1 2 = .ok (.invokevirtual 206, 3) := by decide +kernel
theorem dReader_noteFaults_5 : decode YReader_noteFaults.2.1 5 = .ok (.ifCond .eq 12, 3) := by decide +kernel
theorem dReader_noteFaults_8 : decode YReader_noteFaults.2.1 8 = .ok (.aload_n 0, 1) := by decide +kernel
theorem dReader_noteFaults_9 : decode YReader_noteFaults.2.1 9 = .ok (.iconst 3, 1) := by decide +kernel
theorem dReader_noteFaults_10 : decode YReader_noteFaults.2.1 10 = .ok (.aload_n 0, 1) := by decide +kernel
theorem dReader_noteFaults_11 : decode YReader_noteFaults.2.1 11 = .ok (.getfield 118, 3) := by decide +kernel
theorem dReader_noteFaults_14 : decode YReader_noteFaults.2.1 14 = .ok (.invokevirtual 73, 3) := by decide +kernel
theorem dReader_noteFaults_17 : decode YReader_noteFaults.2.1 17 = .ok (.iconst 0, 1) := by decide +kernel
theorem dReader_noteFaults_18 : decode YReader_noteFaults.2.1 18 = .ok (.istore_n 2, 1) := by decide +kernel
theorem dReader_noteFaults_19 : decode YReader_noteFaults.2.1 19 = .ok (.iload_n 2, 1) := by decide +kernel
theorem dReader_noteFaults_20 : decode YReader_noteFaults.2.1 20 = .ok (.aload_n 0, 1) := by decide +kernel
theorem dReader_noteFaults_21 : decode YReader_noteFaults.2.1 21 = .ok (.getfield 124, 3) := by decide +kernel
theorem dReader_noteFaults_24 : decode YReader_noteFaults.2.1 24 = .ok (.if_icmp .ge 91, 3) := by decide +kernel
theorem dReader_noteFaults_27 : decode YReader_noteFaults.2.1 27 = .ok (.iconst 3, 1) := by decide +kernel
theorem dReader_noteFaults_28 : decode YReader_noteFaults.2.1 28 = .ok (.iload_n 1, 1) := by decide +kernel
theorem dReader_noteFaults_29 : decode YReader_noteFaults.2.1 29 = .ok (.imul, 1) := by decide +kernel
theorem dReader_noteFaults_30 : decode YReader_noteFaults.2.1 30 = .ok (.iload_n 2, 1) := by decide +kernel
theorem dReader_noteFaults_31 : decode YReader_noteFaults.2.1 31 = .ok (.iadd, 1) := by decide +kernel
theorem dReader_noteFaults_32 : decode YReader_noteFaults.2.1 32 = .ok (.istore_n 3, 1) := by decide +kernel
theorem dReader_noteFaults_33 : decode YReader_noteFaults.2.1 33 = .ok (.iload_n 1, 1) := by decide +kernel
theorem dReader_noteFaults_34 : decode YReader_noteFaults.2.1 34 = .ok (.iconst 4, 1) := by decide +kernel
theorem dReader_noteFaults_35 : decode YReader_noteFaults.2.1 35 = .ok (.if_icmp .ne 27, 3) := by decide +kernel
theorem dReader_noteFaults_38 : decode YReader_noteFaults.2.1 38 = .ok (.iload_n 2, 1) := by decide +kernel
theorem dReader_noteFaults_39 : decode YReader_noteFaults.2.1 39 = .ok (.iconst 1, 1) := by decide +kernel
theorem dReader_noteFaults_40 : decode YReader_noteFaults.2.1 40 = .ok (.if_icmp .ne 22, 3) := by decide +kernel
theorem dReader_noteFaults_43 : decode YReader_noteFaults.2.1 43 = .ok (.aload_n 0, 1) := by decide +kernel
theorem dReader_noteFaults_44 : decode YReader_noteFaults.2.1 44 = .ok (.getfield 36, 3) := by decide +kernel
theorem dReader_noteFaults_47 : decode YReader_noteFaults.2.1 47 = .ok (.iconst 1, 1) := by decide +kernel
theorem dReader_noteFaults_48 : decode YReader_noteFaults.2.1 48 = .ok (.iaload, 1) := by decide +kernel
theorem dReader_noteFaults_49 : decode YReader_noteFaults.2.1 49 = .ok (.aload_n 0, 1) := by decide +kernel
theorem dReader_noteFaults_50 : decode YReader_noteFaults.2.1 50 = .ok (.getfield 36, 3) := by decide +kernel
theorem dReader_noteFaults_53 : decode YReader_noteFaults.2.1 53 = .ok (.iconst 0, 1) := by decide +kernel
theorem dReader_noteFaults_54 : decode YReader_noteFaults.2.1 54 = .ok (.iaload, 1) := by decide +kernel
theorem dReader_noteFaults_55 : decode YReader_noteFaults.2.1 55 = .ok (.if_icmp .ne 7, 3) := by decide +kernel
theorem dReader_noteFaults_58 : decode YReader_noteFaults.2.1 58 = .ok (.iconst 1, 1) := by decide +kernel
theorem dReader_noteFaults_59 : decode YReader_noteFaults.2.1 59 = .ok (.goto 4, 3) := by decide +kernel
theorem dReader_noteFaults_62 : decode YReader_noteFaults.2.1 62 = .ok (.iconst 0, 1) := by decide +kernel
theorem dReader_noteFaults_63 : decode YReader_noteFaults.2.1 63 = .ok (.istore 4, 2) := by decide +kernel
theorem dReader_noteFaults_65 : decode YReader_noteFaults.2.1 65 = .ok (.aload_n 0, 1) := by decide +kernel
theorem dReader_noteFaults_66 : decode YReader_noteFaults.2.1 66 = .ok (.getfield 36, 3) := by decide +kernel
theorem dReader_noteFaults_69 : decode YReader_noteFaults.2.1 69 = .ok (.iload_n 2, 1) := by decide +kernel
theorem dReader_noteFaults_70 : decode YReader_noteFaults.2.1 70 = .ok (.iaload, 1) := by decide +kernel
theorem dReader_noteFaults_71 : decode YReader_noteFaults.2.1 71 = .ok (.getstatic 209, 3) := by decide +kernel
theorem dReader_noteFaults_74 : decode YReader_noteFaults.2.1 74 = .ok (.iload_n 3, 1) := by decide +kernel
theorem dReader_noteFaults_75 : decode YReader_noteFaults.2.1 75 = .ok (.iaload, 1) := by decide +kernel
theorem dReader_noteFaults_76 : decode YReader_noteFaults.2.1 76 = .ok (.if_icmp .lt 22, 3) := by decide +kernel
theorem dReader_noteFaults_79 : decode YReader_noteFaults.2.1 79 = .ok (.aload_n 0, 1) := by decide +kernel
theorem dReader_noteFaults_80 : decode YReader_noteFaults.2.1 80 = .ok (.getfield 36, 3) := by decide +kernel
theorem dReader_noteFaults_83 : decode YReader_noteFaults.2.1 83 = .ok (.iload_n 2, 1) := by decide +kernel
theorem dReader_noteFaults_84 : decode YReader_noteFaults.2.1 84 = .ok (.iaload, 1) := by decide +kernel
theorem dReader_noteFaults_85 : decode YReader_noteFaults.2.1 85 = .ok (.getstatic 212, 3) := by decide +kernel
theorem dReader_noteFaults_88 : decode YReader_noteFaults.2.1 88 = .ok (.iload_n 3, 1) := by decide +kernel
theorem dReader_noteFaults_89 : decode YReader_noteFaults.2.1 89 = .ok (.iaload, 1) := by decide +kernel
theorem dReader_noteFaults_90 : decode YReader_noteFaults.2.1 90 = .ok (.if_icmp .gt 8, 3) := by decide +kernel
theorem dReader_noteFaults_93 : decode YReader_noteFaults.2.1 93 = .ok (.iload 4, 2) := by decide +kernel
theorem dReader_noteFaults_95 : decode YReader_noteFaults.2.1 95 = .ok (.ifCond .eq 14, 3) := by decide +kernel
theorem dReader_noteFaults_98 : decode YReader_noteFaults.2.1 98 = .ok (.aload_n 0, 1) := by decide +kernel
theorem dReader_noteFaults_99 : decode YReader_noteFaults.2.1 99 = .ok (.iconst 2, 1) := by decide +kernel
theorem dReader_noteFaults_100 : decode YReader_noteFaults.2.1 100 = .ok (.aload_n 0, 1) := by decide +kernel
theorem dReader_noteFaults_101 : decode YReader_noteFaults.2.1 101 = .ok (.getfield 39, 3) := by decide +kernel
theorem dReader_noteFaults_104 : decode YReader_noteFaults.2.1 104 = .ok (.iload_n 2, 1) := by decide +kernel
theorem dReader_noteFaults_105 : decode YReader_noteFaults.2.1 105 = .ok (.iaload, 1) := by decide +kernel
theorem dReader_noteFaults_106 : decode YReader_noteFaults.2.1 106 = .ok (.invokevirtual 73, 3) := by decide +kernel
theorem dReader_noteFaults_109 : decode YReader_noteFaults.2.1 109 = .ok (.iinc 2 1, 3) := by decide +kernel
theorem dReader_noteFaults_112 : decode YReader_noteFaults.2.1 112 = .ok (.goto (-93), 3) := by decide +kernel
theorem dReader_noteFaults_115 : decode YReader_noteFaults.2.1 115 = .ok (.return_, 1) := by decide +kernel
theorem dReader_isTooMany_0 : decode YReader_isTooMany.2.1 0 = .ok (.iload_n 1, 1) := by decide +kernel
theorem dReader_isTooMany_1 : decode YReader_isTooMany.2.1 1 = .ok (.tableswitch 127 0 9 #[55, 55, 57, 75, 55, 127, 127, 127, 127, 109], 55) := by decide +kernel
theorem dReader_isTooMany_56 : decode YReader_isTooMany.2.1 56 = .ok (.iconst 0, 1) := by decide +kernel
theorem dReader_isTooMany_57 : decode YReader_isTooMany.2.1 57 = .ok (.ireturn, 1) := by decide +kernel
theorem dReader_isTooMany_58 : decode YReader_isTooMany.2.1 58 = .ok (.aload_n 0, 1) := by decide +kernel
theorem dReader_isTooMany_59 : decode YReader_isTooMany.2.1 59 = .ok (.getfield 12, 3) := by decide +kernel
theorem dReader_isTooMany_62 : decode YReader_isTooMany.2.1 62 = .ok (.getfield 111, 3) := by decide +kernel
theorem dReader_isTooMany_65 : decode YReader_isTooMany.2.1 65 = .ok (.bipush 10, 2) := by decide +kernel
theorem dReader_isTooMany_67 : decode YReader_isTooMany.2.1 67 = .ok (.if_icmp .lt 7, 3) := by decide +kernel
theorem dReader_isTooMany_70 : decode YReader_isTooMany.2.1 70 = .ok (.iconst 1, 1) := by decide +kernel
theorem dReader_isTooMany_71 : decode YReader_isTooMany.2.1 71 = .ok (.goto 4, 3) := by decide +kernel
theorem dReader_isTooMany_74 : decode YReader_isTooMany.2.1 74 = .ok (.iconst 0, 1) := by decide +kernel
theorem dReader_isTooMany_75 : decode YReader_isTooMany.2.1 75 = .ok (.ireturn, 1) := by decide +kernel
theorem dReader_isTooMany_76 : decode YReader_isTooMany.2.1 76 = .ok (.aload_n 0, 1) := by decide +kernel
theorem dReader_isTooMany_77 : decode YReader_isTooMany.2.1 77 = .ok (.getfield 12, 3) := by decide +kernel
theorem dReader_isTooMany_80 : decode YReader_isTooMany.2.1 80 = .ok (.getfield 215, 3) := by decide +kernel
theorem dReader_isTooMany_83 : decode YReader_isTooMany.2.1 83 = .ok (.bipush 8, 2) := by decide +kernel
theorem dReader_isTooMany_85 : decode YReader_isTooMany.2.1 85 = .ok (.if_icmp .lt 23, 3) := by decide +kernel
theorem dReader_isTooMany_88 : decode YReader_isTooMany.2.1 88 = .ok (.aload_n 0, 1) := by decide +kernel
theorem dReader_isTooMany_89 : decode YReader_isTooMany.2.1 89 = .ok (.getfield 12, 3) := by decide +kernel
theorem dReader_isTooMany_92 : decode YReader_isTooMany.2.1 92 = .ok (.getfield 218, 3) := by decide +kernel
theorem dReader_isTooMany_95 : decode YReader_isTooMany.2.1 95 = .ok (.aload_n 0, 1) := by decide +kernel
theorem dReader_isTooMany_96 : decode YReader_isTooMany.2.1 96 = .ok (.invokevirtual 221, 3) := by decide +kernel
theorem dReader_isTooMany_99 : decode YReader_isTooMany.2.1 99 = .ok (.iaload, 1) := by decide +kernel
theorem dReader_isTooMany_100 : decode YReader_isTooMany.2.1 100 = .ok (.iconst (-1), 1) := by decide +kernel
theorem dReader_isTooMany_101 : decode YReader_isTooMany.2.1 101 = .ok (.if_icmp .ne 7, 3) := by decide +kernel
theorem dReader_isTooMany_104 : decode YReader_isTooMany.2.1 104 = .ok (.iconst 1, 1) := by decide +kernel
theorem dReader_isTooMany_105 : decode YReader_isTooMany.2.1 105 = .ok (.goto 4, 3) := by decide +kernel
theorem dReader_isTooMany_108 : decode YReader_isTooMany.2.1 108 = .ok (.iconst 0, 1) := by decide +kernel
theorem dReader_isTooMany_109 : decode YReader_isTooMany.2.1 109 = .ok (.ireturn, 1) := by decide +kernel
theorem dReader_isTooMany_110 : decode YReader_isTooMany.2.1 110 = .ok (.aload_n 0, 1) := by decide +kernel
theorem dReader_isTooMany_111 : decode YReader_isTooMany.2.1 111 = .ok (.getfield 28, 3) := by decide +kernel
theorem dReader_isTooMany_114 : decode YReader_isTooMany.2.1 114 = .ok (.getfield 105, 3) := by decide +kernel
theorem dReader_isTooMany_117 : decode YReader_isTooMany.2.1 117 = .ok (.bipush 8, 2) := by decide +kernel
theorem dReader_isTooMany_119 : decode YReader_isTooMany.2.1 119 = .ok (.if_icmp .lt 7, 3) := by decide +kernel
theorem dReader_isTooMany_122 : decode YReader_isTooMany.2.1 122 = .ok (.iconst 1, 1) := by decide +kernel
theorem dReader_isTooMany_123 : decode YReader_isTooMany.2.1 123 = .ok (.goto 4, 3) := by decide +kernel
theorem dReader_isTooMany_126 : decode YReader_isTooMany.2.1 126 = .ok (.iconst 0, 1) := by decide +kernel
theorem dReader_isTooMany_127 : decode YReader_isTooMany.2.1 127 = .ok (.ireturn, 1) := by decide +kernel
theorem dReader_isTooMany_128 : decode YReader_isTooMany.2.1 128 = .ok (.aload_n 0, 1) := by decide +kernel
theorem dReader_isTooMany_129 : decode YReader_isTooMany.2.1 129 = .ok (.getfield 21, 3) := by decide +kernel
theorem dReader_isTooMany_132 : decode YReader_isTooMany.2.1 132 = .ok (.getfield 102, 3) := by decide +kernel
theorem dReader_isTooMany_135 : decode YReader_isTooMany.2.1 135 = .ok (.bipush 40, 2) := by decide +kernel
theorem dReader_isTooMany_137 : decode YReader_isTooMany.2.1 137 = .ok (.if_icmp .lt 7, 3) := by decide +kernel
theorem dReader_isTooMany_140 : decode YReader_isTooMany.2.1 140 = .ok (.iconst 1, 1) := by decide +kernel
theorem dReader_isTooMany_141 : decode YReader_isTooMany.2.1 141 = .ok (.goto 4, 3) := by decide +kernel
theorem dReader_isTooMany_144 : decode YReader_isTooMany.2.1 144 = .ok (.iconst 0, 1) := by decide +kernel
theorem dReader_isTooMany_145 : decode YReader_isTooMany.2.1 145 = .ok (.ireturn, 1) := by decide +kernel
theorem dReader_lawAtHand_0 : decode YReader_lawAtHand.2.1 0 = .ok (.iconst 4, 1) := by decide +kernel
theorem dReader_lawAtHand_1 : decode YReader_lawAtHand.2.1 1 = .ok (.aload_n 0, 1) := by decide +kernel
theorem dReader_lawAtHand_2 : decode YReader_lawAtHand.2.1 2 = .ok (.getfield 32, 3) := by decide +kernel
theorem dReader_lawAtHand_5 : decode YReader_lawAtHand.2.1 5 = .ok (.iconst 0, 1) := by decide +kernel
theorem dReader_lawAtHand_6 : decode YReader_lawAtHand.2.1 6 = .ok (.iaload, 1) := by decide +kernel
theorem dReader_lawAtHand_7 : decode YReader_lawAtHand.2.1 7 = .ok (.imul, 1) := by decide +kernel
theorem dReader_lawAtHand_8 : decode YReader_lawAtHand.2.1 8 = .ok (.aload_n 0, 1) := by decide +kernel
theorem dReader_lawAtHand_9 : decode YReader_lawAtHand.2.1 9 = .ok (.getfield 32, 3) := by decide +kernel
theorem dReader_lawAtHand_12 : decode YReader_lawAtHand.2.1 12 = .ok (.iconst 1, 1) := by decide +kernel
theorem dReader_lawAtHand_13 : decode YReader_lawAtHand.2.1 13 = .ok (.iaload, 1) := by decide +kernel
theorem dReader_lawAtHand_14 : decode YReader_lawAtHand.2.1 14 = .ok (.iadd, 1) := by decide +kernel
theorem dReader_lawAtHand_15 : decode YReader_lawAtHand.2.1 15 = .ok (.ireturn, 1) := by decide +kernel
theorem dReader_tell_0 : decode YReader_tell.2.1 0 = .ok (.iload_n 1, 1) := by decide +kernel
theorem dReader_tell_1 : decode YReader_tell.2.1 1 = .ok (.tableswitch 300 0 8 #[51, 67, 107, 152, 159, 228, 246, 269, 287], 51) := by decide +kernel
theorem dReader_tell_52 : decode YReader_tell.2.1 52 = .ok (.aload_n 0, 1) := by decide +kernel
theorem dReader_tell_53 : decode YReader_tell.2.1 53 = .ok (.getfield 12, 3) := by decide +kernel
theorem dReader_tell_56 : decode YReader_tell.2.1 56 = .ok (.aload_n 0, 1) := by decide +kernel
theorem dReader_tell_57 : decode YReader_tell.2.1 57 = .ok (.getfield 36, 3) := by decide +kernel
theorem dReader_tell_60 : decode YReader_tell.2.1 60 = .ok (.iconst 0, 1) := by decide +kernel
theorem dReader_tell_61 : decode YReader_tell.2.1 61 = .ok (.iaload, 1) := by decide +kernel
theorem dReader_tell_62 : decode YReader_tell.2.1 62 = .ok (.putfield 108, 3) := by decide +kernel
theorem dReader_tell_65 : decode YReader_tell.2.1 65 = .ok (.goto 255, 3) := by decide +kernel
theorem dReader_tell_68 : decode YReader_tell.2.1 68 = .ok (.aload_n 0, 1) := by decide +kernel
theorem dReader_tell_69 : decode YReader_tell.2.1 69 = .ok (.getfield 12, 3) := by decide +kernel
theorem dReader_tell_72 : decode YReader_tell.2.1 72 = .ok (.getfield 224, 3) := by decide +kernel
theorem dReader_tell_75 : decode YReader_tell.2.1 75 = .ok (.aload_n 0, 1) := by decide +kernel
theorem dReader_tell_76 : decode YReader_tell.2.1 76 = .ok (.getfield 36, 3) := by decide +kernel
theorem dReader_tell_79 : decode YReader_tell.2.1 79 = .ok (.iconst 0, 1) := by decide +kernel
theorem dReader_tell_80 : decode YReader_tell.2.1 80 = .ok (.iaload, 1) := by decide +kernel
theorem dReader_tell_81 : decode YReader_tell.2.1 81 = .ok (.aload_n 0, 1) := by decide +kernel
theorem dReader_tell_82 : decode YReader_tell.2.1 82 = .ok (.getfield 36, 3) := by decide +kernel
theorem dReader_tell_85 : decode YReader_tell.2.1 85 = .ok (.iconst 1, 1) := by decide +kernel
theorem dReader_tell_86 : decode YReader_tell.2.1 86 = .ok (.iaload, 1) := by decide +kernel
theorem dReader_tell_87 : decode YReader_tell.2.1 87 = .ok (.iastore, 1) := by decide +kernel
theorem dReader_tell_88 : decode YReader_tell.2.1 88 = .ok (.aload_n 0, 1) := by decide +kernel
theorem dReader_tell_89 : decode YReader_tell.2.1 89 = .ok (.aload_n 0, 1) := by decide +kernel
theorem dReader_tell_90 : decode YReader_tell.2.1 90 = .ok (.getfield 93, 3) := by decide +kernel
theorem dReader_tell_93 : decode YReader_tell.2.1 93 = .ok (.aload_n 0, 1) := by decide +kernel
theorem dReader_tell_94 : decode YReader_tell.2.1 94 = .ok (.getfield 36, 3) := by decide +kernel
theorem dReader_tell_97 : decode YReader_tell.2.1 97 = .ok (.iconst 0, 1) := by decide +kernel
theorem dReader_tell_98 : decode YReader_tell.2.1 98 = .ok (.iaload, 1) := by decide +kernel
theorem dReader_tell_99 : decode YReader_tell.2.1 99 = .ok (.invokestatic 87, 3) := by decide +kernel
theorem dReader_tell_102 : decode YReader_tell.2.1 102 = .ok (.putfield 93, 3) := by decide +kernel
theorem dReader_tell_105 : decode YReader_tell.2.1 105 = .ok (.goto 215, 3) := by decide +kernel
theorem dReader_tell_108 : decode YReader_tell.2.1 108 = .ok (.aload_n 0, 1) := by decide +kernel
theorem dReader_tell_109 : decode YReader_tell.2.1 109 = .ok (.getfield 12, 3) := by decide +kernel
theorem dReader_tell_112 : decode YReader_tell.2.1 112 = .ok (.aload_n 0, 1) := by decide +kernel
theorem dReader_tell_113 : decode YReader_tell.2.1 113 = .ok (.getfield 36, 3) := by decide +kernel
theorem dReader_tell_116 : decode YReader_tell.2.1 116 = .ok (.iconst 0, 1) := by decide +kernel
theorem dReader_tell_117 : decode YReader_tell.2.1 117 = .ok (.iaload, 1) := by decide +kernel
theorem dReader_tell_118 : decode YReader_tell.2.1 118 = .ok (.aload_n 0, 1) := by decide +kernel
theorem dReader_tell_119 : decode YReader_tell.2.1 119 = .ok (.getfield 32, 3) := by decide +kernel
theorem dReader_tell_122 : decode YReader_tell.2.1 122 = .ok (.iconst 0, 1) := by decide +kernel
theorem dReader_tell_123 : decode YReader_tell.2.1 123 = .ok (.iaload, 1) := by decide +kernel
theorem dReader_tell_124 : decode YReader_tell.2.1 124 = .ok (.aload_n 0, 1) := by decide +kernel
theorem dReader_tell_125 : decode YReader_tell.2.1 125 = .ok (.getfield 36, 3) := by decide +kernel
theorem dReader_tell_128 : decode YReader_tell.2.1 128 = .ok (.iconst 1, 1) := by decide +kernel
theorem dReader_tell_129 : decode YReader_tell.2.1 129 = .ok (.iaload, 1) := by decide +kernel
theorem dReader_tell_130 : decode YReader_tell.2.1 130 = .ok (.invokevirtual 227, 3) := by decide +kernel
theorem dReader_tell_133 : decode YReader_tell.2.1 133 = .ok (.aload_n 0, 1) := by decide +kernel
theorem dReader_tell_134 : decode YReader_tell.2.1 134 = .ok (.aload_n 0, 1) := by decide +kernel
theorem dReader_tell_135 : decode YReader_tell.2.1 135 = .ok (.getfield 93, 3) := by decide +kernel
theorem dReader_tell_138 : decode YReader_tell.2.1 138 = .ok (.aload_n 0, 1) := by decide +kernel
theorem dReader_tell_139 : decode YReader_tell.2.1 139 = .ok (.getfield 36, 3) := by decide +kernel
theorem dReader_tell_142 : decode YReader_tell.2.1 142 = .ok (.iconst 0, 1) := by decide +kernel
theorem dReader_tell_143 : decode YReader_tell.2.1 143 = .ok (.iaload, 1) := by decide +kernel
theorem dReader_tell_144 : decode YReader_tell.2.1 144 = .ok (.invokestatic 87, 3) := by decide +kernel
theorem dReader_tell_147 : decode YReader_tell.2.1 147 = .ok (.putfield 93, 3) := by decide +kernel
theorem dReader_tell_150 : decode YReader_tell.2.1 150 = .ok (.goto 170, 3) := by decide +kernel
theorem dReader_tell_153 : decode YReader_tell.2.1 153 = .ok (.aload_n 0, 1) := by decide +kernel
theorem dReader_tell_154 : decode YReader_tell.2.1 154 = .ok (.invokevirtual 231, 3) := by decide +kernel
theorem dReader_tell_157 : decode YReader_tell.2.1 157 = .ok (.goto 163, 3) := by decide +kernel
theorem dReader_tell_160 : decode YReader_tell.2.1 160 = .ok (.aload_n 0, 1) := by decide +kernel
theorem dReader_tell_161 : decode YReader_tell.2.1 161 = .ok (.getfield 12, 3) := by decide +kernel
theorem dReader_tell_164 : decode YReader_tell.2.1 164 = .ok (.getfield 234, 3) := by decide +kernel
theorem dReader_tell_167 : decode YReader_tell.2.1 167 = .ok (.aload_n 0, 1) := by decide +kernel
theorem dReader_tell_168 : decode YReader_tell.2.1 168 = .ok (.getfield 36, 3) := by decide +kernel
theorem dReader_tell_171 : decode YReader_tell.2.1 171 = .ok (.iconst 0, 1) := by decide +kernel
theorem dReader_tell_172 : decode YReader_tell.2.1 172 = .ok (.iaload, 1) := by decide +kernel
theorem dReader_tell_173 : decode YReader_tell.2.1 173 = .ok (.aload_n 0, 1) := by decide +kernel
theorem dReader_tell_174 : decode YReader_tell.2.1 174 = .ok (.getfield 36, 3) := by decide +kernel
theorem dReader_tell_177 : decode YReader_tell.2.1 177 = .ok (.iconst 1, 1) := by decide +kernel
theorem dReader_tell_178 : decode YReader_tell.2.1 178 = .ok (.iaload, 1) := by decide +kernel
theorem dReader_tell_179 : decode YReader_tell.2.1 179 = .ok (.iastore, 1) := by decide +kernel
theorem dReader_tell_180 : decode YReader_tell.2.1 180 = .ok (.aload_n 0, 1) := by decide +kernel
theorem dReader_tell_181 : decode YReader_tell.2.1 181 = .ok (.getfield 12, 3) := by decide +kernel
theorem dReader_tell_184 : decode YReader_tell.2.1 184 = .ok (.getfield 237, 3) := by decide +kernel
theorem dReader_tell_187 : decode YReader_tell.2.1 187 = .ok (.aload_n 0, 1) := by decide +kernel
theorem dReader_tell_188 : decode YReader_tell.2.1 188 = .ok (.getfield 36, 3) := by decide +kernel
theorem dReader_tell_191 : decode YReader_tell.2.1 191 = .ok (.iconst 0, 1) := by decide +kernel
theorem dReader_tell_192 : decode YReader_tell.2.1 192 = .ok (.iaload, 1) := by decide +kernel
theorem dReader_tell_193 : decode YReader_tell.2.1 193 = .ok (.aload_n 0, 1) := by decide +kernel
theorem dReader_tell_194 : decode YReader_tell.2.1 194 = .ok (.getfield 36, 3) := by decide +kernel
theorem dReader_tell_197 : decode YReader_tell.2.1 197 = .ok (.iconst 2, 1) := by decide +kernel
theorem dReader_tell_198 : decode YReader_tell.2.1 198 = .ok (.iaload, 1) := by decide +kernel
theorem dReader_tell_199 : decode YReader_tell.2.1 199 = .ok (.iastore, 1) := by decide +kernel
theorem dReader_tell_200 : decode YReader_tell.2.1 200 = .ok (.aload_n 0, 1) := by decide +kernel
theorem dReader_tell_201 : decode YReader_tell.2.1 201 = .ok (.aload_n 0, 1) := by decide +kernel
theorem dReader_tell_202 : decode YReader_tell.2.1 202 = .ok (.getfield 96, 3) := by decide +kernel
theorem dReader_tell_205 : decode YReader_tell.2.1 205 = .ok (.aload_n 0, 1) := by decide +kernel
theorem dReader_tell_206 : decode YReader_tell.2.1 206 = .ok (.getfield 36, 3) := by decide +kernel
theorem dReader_tell_209 : decode YReader_tell.2.1 209 = .ok (.iconst 0, 1) := by decide +kernel
theorem dReader_tell_210 : decode YReader_tell.2.1 210 = .ok (.iaload, 1) := by decide +kernel
theorem dReader_tell_211 : decode YReader_tell.2.1 211 = .ok (.aload_n 0, 1) := by decide +kernel
theorem dReader_tell_212 : decode YReader_tell.2.1 212 = .ok (.getfield 36, 3) := by decide +kernel
theorem dReader_tell_215 : decode YReader_tell.2.1 215 = .ok (.iconst 1, 1) := by decide +kernel
theorem dReader_tell_216 : decode YReader_tell.2.1 216 = .ok (.iaload, 1) := by decide +kernel
theorem dReader_tell_217 : decode YReader_tell.2.1 217 = .ok (.invokestatic 87, 3) := by decide +kernel
theorem dReader_tell_220 : decode YReader_tell.2.1 220 = .ok (.invokestatic 87, 3) := by decide +kernel
theorem dReader_tell_223 : decode YReader_tell.2.1 223 = .ok (.putfield 96, 3) := by decide +kernel
theorem dReader_tell_226 : decode YReader_tell.2.1 226 = .ok (.goto 94, 3) := by decide +kernel
theorem dReader_tell_229 : decode YReader_tell.2.1 229 = .ok (.aload_n 0, 1) := by decide +kernel
theorem dReader_tell_230 : decode YReader_tell.2.1 230 = .ok (.getfield 21, 3) := by decide +kernel
theorem dReader_tell_233 : decode YReader_tell.2.1 233 = .ok (.iconst 0, 1) := by decide +kernel
theorem dReader_tell_234 : decode YReader_tell.2.1 234 = .ok (.aload_n 0, 1) := by decide +kernel
theorem dReader_tell_235 : decode YReader_tell.2.1 235 = .ok (.getfield 36, 3) := by decide +kernel
theorem dReader_tell_238 : decode YReader_tell.2.1 238 = .ok (.iconst 0, 1) := by decide +kernel
theorem dReader_tell_239 : decode YReader_tell.2.1 239 = .ok (.iaload, 1) := by decide +kernel
theorem dReader_tell_240 : decode YReader_tell.2.1 240 = .ok (.iconst (-1), 1) := by decide +kernel
theorem dReader_tell_241 : decode YReader_tell.2.1 241 = .ok (.invokevirtual 240, 3) := by decide +kernel
theorem dReader_tell_244 : decode YReader_tell.2.1 244 = .ok (.goto 76, 3) := by decide +kernel
theorem dReader_tell_247 : decode YReader_tell.2.1 247 = .ok (.aload_n 0, 1) := by decide +kernel
theorem dReader_tell_248 : decode YReader_tell.2.1 248 = .ok (.getfield 21, 3) := by decide +kernel
theorem dReader_tell_251 : decode YReader_tell.2.1 251 = .ok (.iconst 1, 1) := by decide +kernel
theorem dReader_tell_252 : decode YReader_tell.2.1 252 = .ok (.aload_n 0, 1) := by decide +kernel
theorem dReader_tell_253 : decode YReader_tell.2.1 253 = .ok (.getfield 36, 3) := by decide +kernel
theorem dReader_tell_256 : decode YReader_tell.2.1 256 = .ok (.iconst 0, 1) := by decide +kernel
theorem dReader_tell_257 : decode YReader_tell.2.1 257 = .ok (.iaload, 1) := by decide +kernel
theorem dReader_tell_258 : decode YReader_tell.2.1 258 = .ok (.aload_n 0, 1) := by decide +kernel
theorem dReader_tell_259 : decode YReader_tell.2.1 259 = .ok (.getfield 36, 3) := by decide +kernel
theorem dReader_tell_262 : decode YReader_tell.2.1 262 = .ok (.iconst 1, 1) := by decide +kernel
theorem dReader_tell_263 : decode YReader_tell.2.1 263 = .ok (.iaload, 1) := by decide +kernel
theorem dReader_tell_264 : decode YReader_tell.2.1 264 = .ok (.invokevirtual 240, 3) := by decide +kernel
theorem dReader_tell_267 : decode YReader_tell.2.1 267 = .ok (.goto 53, 3) := by decide +kernel
theorem dReader_tell_270 : decode YReader_tell.2.1 270 = .ok (.aload_n 0, 1) := by decide +kernel
theorem dReader_tell_271 : decode YReader_tell.2.1 271 = .ok (.getfield 21, 3) := by decide +kernel
theorem dReader_tell_274 : decode YReader_tell.2.1 274 = .ok (.iconst 2, 1) := by decide +kernel
theorem dReader_tell_275 : decode YReader_tell.2.1 275 = .ok (.aload_n 0, 1) := by decide +kernel
theorem dReader_tell_276 : decode YReader_tell.2.1 276 = .ok (.getfield 36, 3) := by decide +kernel
theorem dReader_tell_279 : decode YReader_tell.2.1 279 = .ok (.iconst 0, 1) := by decide +kernel
theorem dReader_tell_280 : decode YReader_tell.2.1 280 = .ok (.iaload, 1) := by decide +kernel
theorem dReader_tell_281 : decode YReader_tell.2.1 281 = .ok (.iconst (-1), 1) := by decide +kernel
theorem dReader_tell_282 : decode YReader_tell.2.1 282 = .ok (.invokevirtual 240, 3) := by decide +kernel
theorem dReader_tell_285 : decode YReader_tell.2.1 285 = .ok (.goto 35, 3) := by decide +kernel
theorem dReader_tell_288 : decode YReader_tell.2.1 288 = .ok (.aload_n 0, 1) := by decide +kernel
theorem dReader_tell_289 : decode YReader_tell.2.1 289 = .ok (.getfield 21, 3) := by decide +kernel
theorem dReader_tell_292 : decode YReader_tell.2.1 292 = .ok (.iconst 3, 1) := by decide +kernel
theorem dReader_tell_293 : decode YReader_tell.2.1 293 = .ok (.iconst (-1), 1) := by decide +kernel
theorem dReader_tell_294 : decode YReader_tell.2.1 294 = .ok (.iconst (-1), 1) := by decide +kernel
theorem dReader_tell_295 : decode YReader_tell.2.1 295 = .ok (.invokevirtual 240, 3) := by decide +kernel
theorem dReader_tell_298 : decode YReader_tell.2.1 298 = .ok (.goto 22, 3) := by decide +kernel
theorem dReader_tell_301 : decode YReader_tell.2.1 301 = .ok (.aload_n 0, 1) := by decide +kernel
theorem dReader_tell_302 : decode YReader_tell.2.1 302 = .ok (.getfield 28, 3) := by decide +kernel
theorem dReader_tell_305 : decode YReader_tell.2.1 305 = .ok (.aload_n 0, 1) := by decide +kernel
theorem dReader_tell_306 : decode YReader_tell.2.1 306 = .ok (.getfield 36, 3) := by decide +kernel
theorem dReader_tell_309 : decode YReader_tell.2.1 309 = .ok (.iconst 0, 1) := by decide +kernel
theorem dReader_tell_310 : decode YReader_tell.2.1 310 = .ok (.iaload, 1) := by decide +kernel
theorem dReader_tell_311 : decode YReader_tell.2.1 311 = .ok (.aload_n 0, 1) := by decide +kernel
theorem dReader_tell_312 : decode YReader_tell.2.1 312 = .ok (.getfield 36, 3) := by decide +kernel
theorem dReader_tell_315 : decode YReader_tell.2.1 315 = .ok (.iconst 1, 1) := by decide +kernel
theorem dReader_tell_316 : decode YReader_tell.2.1 316 = .ok (.iaload, 1) := by decide +kernel
theorem dReader_tell_317 : decode YReader_tell.2.1 317 = .ok (.invokevirtual 243, 3) := by decide +kernel
theorem dReader_tell_320 : decode YReader_tell.2.1 320 = .ok (.return_, 1) := by decide +kernel
theorem dReader_tellLaw_0 : decode YReader_tellLaw.2.1 0 = .ok (.aload_n 0, 1) := by decide +kernel
theorem dReader_tellLaw_1 : decode YReader_tellLaw.2.1 1 = .ok (.invokevirtual 221, 3) := by decide +kernel
theorem dReader_tellLaw_4 : decode YReader_tellLaw.2.1 4 = .ok (.istore_n 1, 1) := by decide +kernel
theorem dReader_tellLaw_5 : decode YReader_tellLaw.2.1 5 = .ok (.aload_n 0, 1) := by decide +kernel
theorem dReader_tellLaw_6 : decode YReader_tellLaw.2.1 6 = .ok (.getfield 12, 3) := by decide +kernel
theorem dReader_tellLaw_9 : decode YReader_tellLaw.2.1 9 = .ok (.getfield 218, 3) := by decide +kernel
theorem dReader_tellLaw_12 : decode YReader_tellLaw.2.1 12 = .ok (.iload_n 1, 1) := by decide +kernel
theorem dReader_tellLaw_13 : decode YReader_tellLaw.2.1 13 = .ok (.iaload, 1) := by decide +kernel
theorem dReader_tellLaw_14 : decode YReader_tellLaw.2.1 14 = .ok (.iconst (-1), 1) := by decide +kernel
theorem dReader_tellLaw_15 : decode YReader_tellLaw.2.1 15 = .ok (.if_icmp .ne 16, 3) := by decide +kernel
theorem dReader_tellLaw_18 : decode YReader_tellLaw.2.1 18 = .ok (.aload_n 0, 1) := by decide +kernel
theorem dReader_tellLaw_19 : decode YReader_tellLaw.2.1 19 = .ok (.getfield 12, 3) := by decide +kernel
theorem dReader_tellLaw_22 : decode YReader_tellLaw.2.1 22 = .ok (.dup, 1) := by decide +kernel
theorem dReader_tellLaw_23 : decode YReader_tellLaw.2.1 23 = .ok (.getfield 215, 3) := by decide +kernel
theorem dReader_tellLaw_26 : decode YReader_tellLaw.2.1 26 = .ok (.iconst 1, 1) := by decide +kernel
theorem dReader_tellLaw_27 : decode YReader_tellLaw.2.1 27 = .ok (.iadd, 1) := by decide +kernel
theorem dReader_tellLaw_28 : decode YReader_tellLaw.2.1 28 = .ok (.putfield 215, 3) := by decide +kernel
theorem dReader_tellLaw_31 : decode YReader_tellLaw.2.1 31 = .ok (.aload_n 0, 1) := by decide +kernel
theorem dReader_tellLaw_32 : decode YReader_tellLaw.2.1 32 = .ok (.getfield 12, 3) := by decide +kernel
theorem dReader_tellLaw_35 : decode YReader_tellLaw.2.1 35 = .ok (.getfield 218, 3) := by decide +kernel
theorem dReader_tellLaw_38 : decode YReader_tellLaw.2.1 38 = .ok (.iload_n 1, 1) := by decide +kernel
theorem dReader_tellLaw_39 : decode YReader_tellLaw.2.1 39 = .ok (.aload_n 0, 1) := by decide +kernel
theorem dReader_tellLaw_40 : decode YReader_tellLaw.2.1 40 = .ok (.getfield 36, 3) := by decide +kernel
theorem dReader_tellLaw_43 : decode YReader_tellLaw.2.1 43 = .ok (.iconst 0, 1) := by decide +kernel
theorem dReader_tellLaw_44 : decode YReader_tellLaw.2.1 44 = .ok (.iaload, 1) := by decide +kernel
theorem dReader_tellLaw_45 : decode YReader_tellLaw.2.1 45 = .ok (.iastore, 1) := by decide +kernel
theorem dReader_tellLaw_46 : decode YReader_tellLaw.2.1 46 = .ok (.return_, 1) := by decide +kernel
theorem dReader_nextToken_0 : decode YReader_nextToken.2.1 0 = .ok (.aload_n 0, 1) := by decide +kernel
theorem dReader_nextToken_1 : decode YReader_nextToken.2.1 1 = .ok (.getfield 90, 3) := by decide +kernel
theorem dReader_nextToken_4 : decode YReader_nextToken.2.1 4 = .ok (.istore_n 1, 1) := by decide +kernel
theorem dReader_nextToken_5 : decode YReader_nextToken.2.1 5 = .ok (.iload_n 1, 1) := by decide +kernel
theorem dReader_nextToken_6 : decode YReader_nextToken.2.1 6 = .ok (.aload_n 0, 1) := by decide +kernel
theorem dReader_nextToken_7 : decode YReader_nextToken.2.1 7 = .ok (.getfield 46, 3) := by decide +kernel
theorem dReader_nextToken_10 : decode YReader_nextToken.2.1 10 = .ok (.if_icmp .ge 21, 3) := by decide +kernel
theorem dReader_nextToken_13 : decode YReader_nextToken.2.1 13 = .ok (.aload_n 0, 1) := by decide +kernel
theorem dReader_nextToken_14 : decode YReader_nextToken.2.1 14 = .ok (.getfield 77, 3) := by decide +kernel
theorem dReader_nextToken_17 : decode YReader_nextToken.2.1 17 = .ok (.iload_n 1, 1) := by decide +kernel
theorem dReader_nextToken_18 : decode YReader_nextToken.2.1 18 = .ok (.baload, 1) := by decide +kernel
theorem dReader_nextToken_19 : decode YReader_nextToken.2.1 19 = .ok (.invokestatic 245, 3) := by decide +kernel
theorem dReader_nextToken_22 : decode YReader_nextToken.2.1 22 = .ok (.ifCond .eq 9, 3) := by decide +kernel
theorem dReader_nextToken_25 : decode YReader_nextToken.2.1 25 = .ok (.iinc 1 1, 3) := by decide +kernel
theorem dReader_nextToken_28 : decode YReader_nextToken.2.1 28 = .ok (.goto (-23), 3) := by decide +kernel
theorem dReader_nextToken_31 : decode YReader_nextToken.2.1 31 = .ok (.aload_n 0, 1) := by decide +kernel
theorem dReader_nextToken_32 : decode YReader_nextToken.2.1 32 = .ok (.iload_n 1, 1) := by decide +kernel
theorem dReader_nextToken_33 : decode YReader_nextToken.2.1 33 = .ok (.putfield 63, 3) := by decide +kernel
theorem dReader_nextToken_36 : decode YReader_nextToken.2.1 36 = .ok (.aload_n 0, 1) := by decide +kernel
theorem dReader_nextToken_37 : decode YReader_nextToken.2.1 37 = .ok (.iload_n 1, 1) := by decide +kernel
theorem dReader_nextToken_38 : decode YReader_nextToken.2.1 38 = .ok (.iconst 1, 1) := by decide +kernel
theorem dReader_nextToken_39 : decode YReader_nextToken.2.1 39 = .ok (.iadd, 1) := by decide +kernel
theorem dReader_nextToken_40 : decode YReader_nextToken.2.1 40 = .ok (.aload_n 0, 1) := by decide +kernel
theorem dReader_nextToken_41 : decode YReader_nextToken.2.1 41 = .ok (.getfield 46, 3) := by decide +kernel
theorem dReader_nextToken_44 : decode YReader_nextToken.2.1 44 = .ok (.invokestatic 81, 3) := by decide +kernel
theorem dReader_nextToken_47 : decode YReader_nextToken.2.1 47 = .ok (.putfield 90, 3) := by decide +kernel
theorem dReader_nextToken_50 : decode YReader_nextToken.2.1 50 = .ok (.iload_n 1, 1) := by decide +kernel
theorem dReader_nextToken_51 : decode YReader_nextToken.2.1 51 = .ok (.aload_n 0, 1) := by decide +kernel
theorem dReader_nextToken_52 : decode YReader_nextToken.2.1 52 = .ok (.getfield 46, 3) := by decide +kernel
theorem dReader_nextToken_55 : decode YReader_nextToken.2.1 55 = .ok (.if_icmp .lt 11, 3) := by decide +kernel
theorem dReader_nextToken_58 : decode YReader_nextToken.2.1 58 = .ok (.aload_n 0, 1) := by decide +kernel
theorem dReader_nextToken_59 : decode YReader_nextToken.2.1 59 = .ok (.iconst 0, 1) := by decide +kernel
theorem dReader_nextToken_60 : decode YReader_nextToken.2.1 60 = .ok (.putfield 53, 3) := by decide +kernel
theorem dReader_nextToken_63 : decode YReader_nextToken.2.1 63 = .ok (.goto 61, 3) := by decide +kernel
theorem dReader_nextToken_66 : decode YReader_nextToken.2.1 66 = .ok (.aload_n 0, 1) := by decide +kernel
theorem dReader_nextToken_67 : decode YReader_nextToken.2.1 67 = .ok (.getfield 77, 3) := by decide +kernel
theorem dReader_nextToken_70 : decode YReader_nextToken.2.1 70 = .ok (.iload_n 1, 1) := by decide +kernel
theorem dReader_nextToken_71 : decode YReader_nextToken.2.1 71 = .ok (.baload, 1) := by decide +kernel
theorem dReader_nextToken_72 : decode YReader_nextToken.2.1 72 = .ok (.invokestatic 248, 3) := by decide +kernel
theorem dReader_nextToken_75 : decode YReader_nextToken.2.1 75 = .ok (.ifCond .eq 10, 3) := by decide +kernel
theorem dReader_nextToken_78 : decode YReader_nextToken.2.1 78 = .ok (.aload_n 0, 1) := by decide +kernel
theorem dReader_nextToken_79 : decode YReader_nextToken.2.1 79 = .ok (.invokevirtual 251, 3) := by decide +kernel
theorem dReader_nextToken_82 : decode YReader_nextToken.2.1 82 = .ok (.goto 42, 3) := by decide +kernel
theorem dReader_nextToken_85 : decode YReader_nextToken.2.1 85 = .ok (.aload_n 0, 1) := by decide +kernel
theorem dReader_nextToken_86 : decode YReader_nextToken.2.1 86 = .ok (.getfield 77, 3) := by decide +kernel
theorem dReader_nextToken_89 : decode YReader_nextToken.2.1 89 = .ok (.iload_n 1, 1) := by decide +kernel
theorem dReader_nextToken_90 : decode YReader_nextToken.2.1 90 = .ok (.baload, 1) := by decide +kernel
theorem dReader_nextToken_91 : decode YReader_nextToken.2.1 91 = .ok (.invokestatic 254, 3) := by decide +kernel
theorem dReader_nextToken_94 : decode YReader_nextToken.2.1 94 = .ok (.ifCond .eq 10, 3) := by decide +kernel
theorem dReader_nextToken_97 : decode YReader_nextToken.2.1 97 = .ok (.aload_n 0, 1) := by decide +kernel
theorem dReader_nextToken_98 : decode YReader_nextToken.2.1 98 = .ok (.invokevirtual 257, 3) := by decide +kernel
theorem dReader_nextToken_101 : decode YReader_nextToken.2.1 101 = .ok (.goto 23, 3) := by decide +kernel
theorem dReader_nextToken_104 : decode YReader_nextToken.2.1 104 = .ok (.aload_n 0, 1) := by decide +kernel
theorem dReader_nextToken_105 : decode YReader_nextToken.2.1 105 = .ok (.aload_n 0, 1) := by decide +kernel
theorem dReader_nextToken_106 : decode YReader_nextToken.2.1 106 = .ok (.getfield 77, 3) := by decide +kernel
theorem dReader_nextToken_109 : decode YReader_nextToken.2.1 109 = .ok (.iload_n 1, 1) := by decide +kernel
theorem dReader_nextToken_110 : decode YReader_nextToken.2.1 110 = .ok (.baload, 1) := by decide +kernel
theorem dReader_nextToken_111 : decode YReader_nextToken.2.1 111 = .ok (.bipush 59, 2) := by decide +kernel
theorem dReader_nextToken_113 : decode YReader_nextToken.2.1 113 = .ok (.if_icmp .ne 7, 3) := by decide +kernel
theorem dReader_nextToken_116 : decode YReader_nextToken.2.1 116 = .ok (.iconst 3, 1) := by decide +kernel
theorem dReader_nextToken_117 : decode YReader_nextToken.2.1 117 = .ok (.goto 4, 3) := by decide +kernel
theorem dReader_nextToken_120 : decode YReader_nextToken.2.1 120 = .ok (.iconst 4, 1) := by decide +kernel
theorem dReader_nextToken_121 : decode YReader_nextToken.2.1 121 = .ok (.putfield 53, 3) := by decide +kernel
theorem dReader_nextToken_124 : decode YReader_nextToken.2.1 124 = .ok (.return_, 1) := by decide +kernel
theorem dReader_takeWord_0 : decode YReader_takeWord.2.1 0 = .ok (.aload_n 0, 1) := by decide +kernel
theorem dReader_takeWord_1 : decode YReader_takeWord.2.1 1 = .ok (.getfield 90, 3) := by decide +kernel
theorem dReader_takeWord_4 : decode YReader_takeWord.2.1 4 = .ok (.aload_n 0, 1) := by decide +kernel
theorem dReader_takeWord_5 : decode YReader_takeWord.2.1 5 = .ok (.getfield 46, 3) := by decide +kernel
theorem dReader_takeWord_8 : decode YReader_takeWord.2.1 8 = .ok (.if_icmp .ge 31, 3) := by decide +kernel
theorem dReader_takeWord_11 : decode YReader_takeWord.2.1 11 = .ok (.aload_n 0, 1) := by decide +kernel
theorem dReader_takeWord_12 : decode YReader_takeWord.2.1 12 = .ok (.getfield 77, 3) := by decide +kernel
theorem dReader_takeWord_15 : decode YReader_takeWord.2.1 15 = .ok (.aload_n 0, 1) := by decide +kernel
theorem dReader_takeWord_16 : decode YReader_takeWord.2.1 16 = .ok (.getfield 90, 3) := by decide +kernel
theorem dReader_takeWord_19 : decode YReader_takeWord.2.1 19 = .ok (.baload, 1) := by decide +kernel
theorem dReader_takeWord_20 : decode YReader_takeWord.2.1 20 = .ok (.invokestatic 248, 3) := by decide +kernel
theorem dReader_takeWord_23 : decode YReader_takeWord.2.1 23 = .ok (.ifCond .eq 16, 3) := by decide +kernel
theorem dReader_takeWord_26 : decode YReader_takeWord.2.1 26 = .ok (.aload_n 0, 1) := by decide +kernel
theorem dReader_takeWord_27 : decode YReader_takeWord.2.1 27 = .ok (.dup, 1) := by decide +kernel
theorem dReader_takeWord_28 : decode YReader_takeWord.2.1 28 = .ok (.getfield 90, 3) := by decide +kernel
theorem dReader_takeWord_31 : decode YReader_takeWord.2.1 31 = .ok (.iconst 1, 1) := by decide +kernel
theorem dReader_takeWord_32 : decode YReader_takeWord.2.1 32 = .ok (.iadd, 1) := by decide +kernel
theorem dReader_takeWord_33 : decode YReader_takeWord.2.1 33 = .ok (.putfield 90, 3) := by decide +kernel
theorem dReader_takeWord_36 : decode YReader_takeWord.2.1 36 = .ok (.goto (-36), 3) := by decide +kernel
theorem dReader_takeWord_39 : decode YReader_takeWord.2.1 39 = .ok (.aload_n 0, 1) := by decide +kernel
theorem dReader_takeWord_40 : decode YReader_takeWord.2.1 40 = .ok (.iconst 1, 1) := by decide +kernel
theorem dReader_takeWord_41 : decode YReader_takeWord.2.1 41 = .ok (.putfield 53, 3) := by decide +kernel
theorem dReader_takeWord_44 : decode YReader_takeWord.2.1 44 = .ok (.return_, 1) := by decide +kernel
theorem dReader_takeDigits_0 : decode YReader_takeDigits.2.1 0 = .ok (.aload_n 0, 1) := by decide +kernel
theorem dReader_takeDigits_1 : decode YReader_takeDigits.2.1 1 = .ok (.getfield 90, 3) := by decide +kernel
theorem dReader_takeDigits_4 : decode YReader_takeDigits.2.1 4 = .ok (.aload_n 0, 1) := by decide +kernel
theorem dReader_takeDigits_5 : decode YReader_takeDigits.2.1 5 = .ok (.getfield 46, 3) := by decide +kernel
theorem dReader_takeDigits_8 : decode YReader_takeDigits.2.1 8 = .ok (.if_icmp .ge 31, 3) := by decide +kernel
theorem dReader_takeDigits_11 : decode YReader_takeDigits.2.1 11 = .ok (.aload_n 0, 1) := by decide +kernel
theorem dReader_takeDigits_12 : decode YReader_takeDigits.2.1 12 = .ok (.getfield 77, 3) := by decide +kernel
theorem dReader_takeDigits_15 : decode YReader_takeDigits.2.1 15 = .ok (.aload_n 0, 1) := by decide +kernel
theorem dReader_takeDigits_16 : decode YReader_takeDigits.2.1 16 = .ok (.getfield 90, 3) := by decide +kernel
theorem dReader_takeDigits_19 : decode YReader_takeDigits.2.1 19 = .ok (.baload, 1) := by decide +kernel
theorem dReader_takeDigits_20 : decode YReader_takeDigits.2.1 20 = .ok (.invokestatic 254, 3) := by decide +kernel
theorem dReader_takeDigits_23 : decode YReader_takeDigits.2.1 23 = .ok (.ifCond .eq 16, 3) := by decide +kernel
theorem dReader_takeDigits_26 : decode YReader_takeDigits.2.1 26 = .ok (.aload_n 0, 1) := by decide +kernel
theorem dReader_takeDigits_27 : decode YReader_takeDigits.2.1 27 = .ok (.dup, 1) := by decide +kernel
theorem dReader_takeDigits_28 : decode YReader_takeDigits.2.1 28 = .ok (.getfield 90, 3) := by decide +kernel
theorem dReader_takeDigits_31 : decode YReader_takeDigits.2.1 31 = .ok (.iconst 1, 1) := by decide +kernel
theorem dReader_takeDigits_32 : decode YReader_takeDigits.2.1 32 = .ok (.iadd, 1) := by decide +kernel
theorem dReader_takeDigits_33 : decode YReader_takeDigits.2.1 33 = .ok (.putfield 90, 3) := by decide +kernel
theorem dReader_takeDigits_36 : decode YReader_takeDigits.2.1 36 = .ok (.goto (-36), 3) := by decide +kernel
theorem dReader_takeDigits_39 : decode YReader_takeDigits.2.1 39 = .ok (.aload_n 0, 1) := by decide +kernel
theorem dReader_takeDigits_40 : decode YReader_takeDigits.2.1 40 = .ok (.aload_n 0, 1) := by decide +kernel
theorem dReader_takeDigits_41 : decode YReader_takeDigits.2.1 41 = .ok (.getfield 90, 3) := by decide +kernel
theorem dReader_takeDigits_44 : decode YReader_takeDigits.2.1 44 = .ok (.aload_n 0, 1) := by decide +kernel
theorem dReader_takeDigits_45 : decode YReader_takeDigits.2.1 45 = .ok (.getfield 63, 3) := by decide +kernel
theorem dReader_takeDigits_48 : decode YReader_takeDigits.2.1 48 = .ok (.isub, 1) := by decide +kernel
theorem dReader_takeDigits_49 : decode YReader_takeDigits.2.1 49 = .ok (.iconst 2, 1) := by decide +kernel
theorem dReader_takeDigits_50 : decode YReader_takeDigits.2.1 50 = .ok (.if_icmp .gt 7, 3) := by decide +kernel
theorem dReader_takeDigits_53 : decode YReader_takeDigits.2.1 53 = .ok (.iconst 2, 1) := by decide +kernel
theorem dReader_takeDigits_54 : decode YReader_takeDigits.2.1 54 = .ok (.goto 4, 3) := by decide +kernel
theorem dReader_takeDigits_57 : decode YReader_takeDigits.2.1 57 = .ok (.iconst 4, 1) := by decide +kernel
theorem dReader_takeDigits_58 : decode YReader_takeDigits.2.1 58 = .ok (.putfield 53, 3) := by decide +kernel
theorem dReader_takeDigits_61 : decode YReader_takeDigits.2.1 61 = .ok (.return_, 1) := by decide +kernel
theorem dReader_isBlank_0 : decode YReader_isBlank.2.1 0 = .ok (.iload_n 0, 1) := by decide +kernel
theorem dReader_isBlank_1 : decode YReader_isBlank.2.1 1 = .ok (.bipush 10, 2) := by decide +kernel
theorem dReader_isBlank_3 : decode YReader_isBlank.2.1 3 = .ok (.if_icmp .eq 9, 3) := by decide +kernel
theorem dReader_isBlank_6 : decode YReader_isBlank.2.1 6 = .ok (.iload_n 0, 1) := by decide +kernel
theorem dReader_isBlank_7 : decode YReader_isBlank.2.1 7 = .ok (.bipush 32, 2) := by decide +kernel
theorem dReader_isBlank_9 : decode YReader_isBlank.2.1 9 = .ok (.if_icmp .ne 7, 3) := by decide +kernel
theorem dReader_isBlank_12 : decode YReader_isBlank.2.1 12 = .ok (.iconst 1, 1) := by decide +kernel
theorem dReader_isBlank_13 : decode YReader_isBlank.2.1 13 = .ok (.goto 4, 3) := by decide +kernel
theorem dReader_isBlank_16 : decode YReader_isBlank.2.1 16 = .ok (.iconst 0, 1) := by decide +kernel
theorem dReader_isBlank_17 : decode YReader_isBlank.2.1 17 = .ok (.ireturn, 1) := by decide +kernel
theorem dReader_isSmall_0 : decode YReader_isSmall.2.1 0 = .ok (.iload_n 0, 1) := by decide +kernel
theorem dReader_isSmall_1 : decode YReader_isSmall.2.1 1 = .ok (.bipush 97, 2) := by decide +kernel
theorem dReader_isSmall_3 : decode YReader_isSmall.2.1 3 = .ok (.if_icmp .lt 13, 3) := by decide +kernel
theorem dReader_isSmall_6 : decode YReader_isSmall.2.1 6 = .ok (.iload_n 0, 1) := by decide +kernel
theorem dReader_isSmall_7 : decode YReader_isSmall.2.1 7 = .ok (.bipush 122, 2) := by decide +kernel
theorem dReader_isSmall_9 : decode YReader_isSmall.2.1 9 = .ok (.if_icmp .gt 7, 3) := by decide +kernel
theorem dReader_isSmall_12 : decode YReader_isSmall.2.1 12 = .ok (.iconst 1, 1) := by decide +kernel
theorem dReader_isSmall_13 : decode YReader_isSmall.2.1 13 = .ok (.goto 4, 3) := by decide +kernel
theorem dReader_isSmall_16 : decode YReader_isSmall.2.1 16 = .ok (.iconst 0, 1) := by decide +kernel
theorem dReader_isSmall_17 : decode YReader_isSmall.2.1 17 = .ok (.ireturn, 1) := by decide +kernel
theorem dReader_isDigit_0 : decode YReader_isDigit.2.1 0 = .ok (.iload_n 0, 1) := by decide +kernel
theorem dReader_isDigit_1 : decode YReader_isDigit.2.1 1 = .ok (.bipush 48, 2) := by decide +kernel
theorem dReader_isDigit_3 : decode YReader_isDigit.2.1 3 = .ok (.if_icmp .lt 13, 3) := by decide +kernel
theorem dReader_isDigit_6 : decode YReader_isDigit.2.1 6 = .ok (.iload_n 0, 1) := by decide +kernel
theorem dReader_isDigit_7 : decode YReader_isDigit.2.1 7 = .ok (.bipush 57, 2) := by decide +kernel
theorem dReader_isDigit_9 : decode YReader_isDigit.2.1 9 = .ok (.if_icmp .gt 7, 3) := by decide +kernel
theorem dReader_isDigit_12 : decode YReader_isDigit.2.1 12 = .ok (.iconst 1, 1) := by decide +kernel
theorem dReader_isDigit_13 : decode YReader_isDigit.2.1 13 = .ok (.goto 4, 3) := by decide +kernel
theorem dReader_isDigit_16 : decode YReader_isDigit.2.1 16 = .ok (.iconst 0, 1) := by decide +kernel
theorem dReader_isDigit_17 : decode YReader_isDigit.2.1 17 = .ok (.ireturn, 1) := by decide +kernel
theorem dReader_isWord_0 : decode YReader_isWord.2.1 0 = .ok (.aload_n 0, 1) := by decide +kernel
theorem dReader_isWord_1 : decode YReader_isWord.2.1 1 = .ok (.getfield 53, 3) := by decide +kernel
theorem dReader_isWord_4 : decode YReader_isWord.2.1 4 = .ok (.iconst 1, 1) := by decide +kernel
theorem dReader_isWord_5 : decode YReader_isWord.2.1 5 = .ok (.if_icmp .ne 19, 3) := by decide +kernel
theorem dReader_isWord_8 : decode YReader_isWord.2.1 8 = .ok (.aload_n 0, 1) := by decide +kernel
theorem dReader_isWord_9 : decode YReader_isWord.2.1 9 = .ok (.getfield 90, 3) := by decide +kernel
theorem dReader_isWord_12 : decode YReader_isWord.2.1 12 = .ok (.aload_n 0, 1) := by decide +kernel
theorem dReader_isWord_13 : decode YReader_isWord.2.1 13 = .ok (.getfield 63, 3) := by decide +kernel
theorem dReader_isWord_16 : decode YReader_isWord.2.1 16 = .ok (.isub, 1) := by decide +kernel
theorem dReader_isWord_17 : decode YReader_isWord.2.1 17 = .ok (.aload_n 1, 1) := by decide +kernel
theorem dReader_isWord_18 : decode YReader_isWord.2.1 18 = .ok (.invokevirtual 131, 3) := by decide +kernel
theorem dReader_isWord_21 : decode YReader_isWord.2.1 21 = .ok (.if_icmp .eq 5, 3) := by decide +kernel
theorem dReader_isWord_24 : decode YReader_isWord.2.1 24 = .ok (.iconst 0, 1) := by decide +kernel
theorem dReader_isWord_25 : decode YReader_isWord.2.1 25 = .ok (.ireturn, 1) := by decide +kernel
theorem dReader_isWord_26 : decode YReader_isWord.2.1 26 = .ok (.iconst 0, 1) := by decide +kernel
theorem dReader_isWord_27 : decode YReader_isWord.2.1 27 = .ok (.istore_n 2, 1) := by decide +kernel
theorem dReader_isWord_28 : decode YReader_isWord.2.1 28 = .ok (.iload_n 2, 1) := by decide +kernel
theorem dReader_isWord_29 : decode YReader_isWord.2.1 29 = .ok (.aload_n 1, 1) := by decide +kernel
theorem dReader_isWord_30 : decode YReader_isWord.2.1 30 = .ok (.invokevirtual 131, 3) := by decide +kernel
theorem dReader_isWord_33 : decode YReader_isWord.2.1 33 = .ok (.if_icmp .ge 30, 3) := by decide +kernel
theorem dReader_isWord_36 : decode YReader_isWord.2.1 36 = .ok (.aload_n 0, 1) := by decide +kernel
theorem dReader_isWord_37 : decode YReader_isWord.2.1 37 = .ok (.getfield 77, 3) := by decide +kernel
theorem dReader_isWord_40 : decode YReader_isWord.2.1 40 = .ok (.aload_n 0, 1) := by decide +kernel
theorem dReader_isWord_41 : decode YReader_isWord.2.1 41 = .ok (.getfield 63, 3) := by decide +kernel
theorem dReader_isWord_44 : decode YReader_isWord.2.1 44 = .ok (.iload_n 2, 1) := by decide +kernel
theorem dReader_isWord_45 : decode YReader_isWord.2.1 45 = .ok (.iadd, 1) := by decide +kernel
theorem dReader_isWord_46 : decode YReader_isWord.2.1 46 = .ok (.baload, 1) := by decide +kernel
theorem dReader_isWord_47 : decode YReader_isWord.2.1 47 = .ok (.aload_n 1, 1) := by decide +kernel
theorem dReader_isWord_48 : decode YReader_isWord.2.1 48 = .ok (.iload_n 2, 1) := by decide +kernel
theorem dReader_isWord_49 : decode YReader_isWord.2.1 49 = .ok (.invokevirtual 136, 3) := by decide +kernel
theorem dReader_isWord_52 : decode YReader_isWord.2.1 52 = .ok (.if_icmp .eq 5, 3) := by decide +kernel
theorem dReader_isWord_55 : decode YReader_isWord.2.1 55 = .ok (.iconst 0, 1) := by decide +kernel
theorem dReader_isWord_56 : decode YReader_isWord.2.1 56 = .ok (.ireturn, 1) := by decide +kernel
theorem dReader_isWord_57 : decode YReader_isWord.2.1 57 = .ok (.iinc 2 1, 3) := by decide +kernel
theorem dReader_isWord_60 : decode YReader_isWord.2.1 60 = .ok (.goto (-32), 3) := by decide +kernel
theorem dReader_isWord_63 : decode YReader_isWord.2.1 63 = .ok (.iconst 1, 1) := by decide +kernel
theorem dReader_isWord_64 : decode YReader_isWord.2.1 64 = .ok (.ireturn, 1) := by decide +kernel
theorem dSlips_init_0 : decode YSlips_init.2.1 0 = .ok (.aload_n 0, 1) := by decide +kernel
theorem dSlips_init_1 : decode YSlips_init.2.1 1 = .ok (.invokespecial 3, 3) := by decide +kernel
theorem dSlips_init_4 : decode YSlips_init.2.1 4 = .ok (.aload_n 0, 1) := by decide +kernel
theorem dSlips_init_5 : decode YSlips_init.2.1 5 = .ok (.bipush 61, 2) := by decide +kernel
theorem dSlips_init_7 : decode YSlips_init.2.1 7 = .ok (.newarray .int, 2) := by decide +kernel
theorem dSlips_init_9 : decode YSlips_init.2.1 9 = .ok (.putfield 11, 3) := by decide +kernel
theorem dSlips_init_12 : decode YSlips_init.2.1 12 = .ok (.aload_n 0, 1) := by decide +kernel
theorem dSlips_init_13 : decode YSlips_init.2.1 13 = .ok (.sipush 366, 3) := by decide +kernel
theorem dSlips_init_16 : decode YSlips_init.2.1 16 = .ok (.newarray .int, 2) := by decide +kernel
theorem dSlips_init_18 : decode YSlips_init.2.1 18 = .ok (.putfield 15, 3) := by decide +kernel
theorem dSlips_init_21 : decode YSlips_init.2.1 21 = .ok (.aload_n 0, 1) := by decide +kernel
theorem dSlips_init_22 : decode YSlips_init.2.1 22 = .ok (.new 18, 3) := by decide +kernel
theorem dSlips_init_25 : decode YSlips_init.2.1 25 = .ok (.dup, 1) := by decide +kernel
theorem dSlips_init_26 : decode YSlips_init.2.1 26 = .ok (.invokespecial 20, 3) := by decide +kernel
theorem dSlips_init_29 : decode YSlips_init.2.1 29 = .ok (.putfield 21, 3) := by decide +kernel
theorem dSlips_init_32 : decode YSlips_init.2.1 32 = .ok (.return_, 1) := by decide +kernel
theorem dSlips_find_0 : decode YSlips_find.2.1 0 = .ok (.aload_n 0, 1) := by decide +kernel
theorem dSlips_find_1 : decode YSlips_find.2.1 1 = .ok (.iconst 0, 1) := by decide +kernel
theorem dSlips_find_2 : decode YSlips_find.2.1 2 = .ok (.putfield 25, 3) := by decide +kernel
theorem dSlips_find_5 : decode YSlips_find.2.1 5 = .ok (.aload_n 0, 1) := by decide +kernel
theorem dSlips_find_6 : decode YSlips_find.2.1 6 = .ok (.aload_n 1, 1) := by decide +kernel
theorem dSlips_find_7 : decode YSlips_find.2.1 7 = .ok (.getfield 29, 3) := by decide +kernel
theorem dSlips_find_10 : decode YSlips_find.2.1 10 = .ok (.putfield 34, 3) := by decide +kernel
theorem dSlips_find_13 : decode YSlips_find.2.1 13 = .ok (.iconst 0, 1) := by decide +kernel
theorem dSlips_find_14 : decode YSlips_find.2.1 14 = .ok (.istore_n 3, 1) := by decide +kernel
theorem dSlips_find_15 : decode YSlips_find.2.1 15 = .ok (.iload_n 3, 1) := by decide +kernel
theorem dSlips_find_16 : decode YSlips_find.2.1 16 = .ok (.aload_n 1, 1) := by decide +kernel
theorem dSlips_find_17 : decode YSlips_find.2.1 17 = .ok (.getfield 29, 3) := by decide +kernel
theorem dSlips_find_20 : decode YSlips_find.2.1 20 = .ok (.if_icmp .ge 51, 3) := by decide +kernel
theorem dSlips_find_23 : decode YSlips_find.2.1 23 = .ok (.iconst 0, 1) := by decide +kernel
theorem dSlips_find_24 : decode YSlips_find.2.1 24 = .ok (.istore 4, 2) := by decide +kernel
theorem dSlips_find_26 : decode YSlips_find.2.1 26 = .ok (.iload 4, 2) := by decide +kernel
theorem dSlips_find_28 : decode YSlips_find.2.1 28 = .ok (.aload_n 1, 1) := by decide +kernel
theorem dSlips_find_29 : decode YSlips_find.2.1 29 = .ok (.getfield 35, 3) := by decide +kernel
theorem dSlips_find_32 : decode YSlips_find.2.1 32 = .ok (.if_icmp .ge 33, 3) := by decide +kernel
theorem dSlips_find_35 : decode YSlips_find.2.1 35 = .ok (.aload_n 1, 1) := by decide +kernel
theorem dSlips_find_36 : decode YSlips_find.2.1 36 = .ok (.getfield 38, 3) := by decide +kernel
theorem dSlips_find_39 : decode YSlips_find.2.1 39 = .ok (.iload 4, 2) := by decide +kernel
theorem dSlips_find_41 : decode YSlips_find.2.1 41 = .ok (.iaload, 1) := by decide +kernel
theorem dSlips_find_42 : decode YSlips_find.2.1 42 = .ok (.iload_n 3, 1) := by decide +kernel
theorem dSlips_find_43 : decode YSlips_find.2.1 43 = .ok (.if_icmp .eq 16, 3) := by decide +kernel
theorem dSlips_find_46 : decode YSlips_find.2.1 46 = .ok (.aload_n 0, 1) := by decide +kernel
theorem dSlips_find_47 : decode YSlips_find.2.1 47 = .ok (.aload_n 1, 1) := by decide +kernel
theorem dSlips_find_48 : decode YSlips_find.2.1 48 = .ok (.aload_n 2, 1) := by decide +kernel
theorem dSlips_find_49 : decode YSlips_find.2.1 49 = .ok (.bipush 10, 2) := by decide +kernel
theorem dSlips_find_51 : decode YSlips_find.2.1 51 = .ok (.iload_n 3, 1) := by decide +kernel
theorem dSlips_find_52 : decode YSlips_find.2.1 52 = .ok (.imul, 1) := by decide +kernel
theorem dSlips_find_53 : decode YSlips_find.2.1 53 = .ok (.iload 4, 2) := by decide +kernel
theorem dSlips_find_55 : decode YSlips_find.2.1 55 = .ok (.iadd, 1) := by decide +kernel
theorem dSlips_find_56 : decode YSlips_find.2.1 56 = .ok (.invokevirtual 41, 3) := by decide +kernel
theorem dSlips_find_59 : decode YSlips_find.2.1 59 = .ok (.iinc 4 1, 3) := by decide +kernel
theorem dSlips_find_62 : decode YSlips_find.2.1 62 = .ok (.goto (-36), 3) := by decide +kernel
theorem dSlips_find_65 : decode YSlips_find.2.1 65 = .ok (.iinc 3 1, 3) := by decide +kernel
theorem dSlips_find_68 : decode YSlips_find.2.1 68 = .ok (.goto (-53), 3) := by decide +kernel
theorem dSlips_find_71 : decode YSlips_find.2.1 71 = .ok (.aload_n 0, 1) := by decide +kernel
theorem dSlips_find_72 : decode YSlips_find.2.1 72 = .ok (.aload_n 1, 1) := by decide +kernel
theorem dSlips_find_73 : decode YSlips_find.2.1 73 = .ok (.aload_n 2, 1) := by decide +kernel
theorem dSlips_find_74 : decode YSlips_find.2.1 74 = .ok (.bipush 99, 2) := by decide +kernel
theorem dSlips_find_76 : decode YSlips_find.2.1 76 = .ok (.invokevirtual 41, 3) := by decide +kernel
theorem dSlips_find_79 : decode YSlips_find.2.1 79 = .ok (.return_, 1) := by decide +kernel
theorem dSlips_tryOut_0 : decode YSlips_tryOut.2.1 0 = .ok (.aload_n 0, 1) := by decide +kernel
theorem dSlips_tryOut_1 : decode YSlips_tryOut.2.1 1 = .ok (.getfield 21, 3) := by decide +kernel
theorem dSlips_tryOut_4 : decode YSlips_tryOut.2.1 4 = .ok (.aload_n 1, 1) := by decide +kernel
theorem dSlips_tryOut_5 : decode YSlips_tryOut.2.1 5 = .ok (.invokevirtual 45, 3) := by decide +kernel
theorem dSlips_tryOut_8 : decode YSlips_tryOut.2.1 8 = .ok (.iconst 0, 1) := by decide +kernel
theorem dSlips_tryOut_9 : decode YSlips_tryOut.2.1 9 = .ok (.istore 4, 2) := by decide +kernel
theorem dSlips_tryOut_11 : decode YSlips_tryOut.2.1 11 = .ok (.iload 4, 2) := by decide +kernel
theorem dSlips_tryOut_13 : decode YSlips_tryOut.2.1 13 = .ok (.aload_n 1, 1) := by decide +kernel
theorem dSlips_tryOut_14 : decode YSlips_tryOut.2.1 14 = .ok (.getfield 35, 3) := by decide +kernel
theorem dSlips_tryOut_17 : decode YSlips_tryOut.2.1 17 = .ok (.if_icmp .ge 59, 3) := by decide +kernel
theorem dSlips_tryOut_20 : decode YSlips_tryOut.2.1 20 = .ok (.iload_n 3, 1) := by decide +kernel
theorem dSlips_tryOut_21 : decode YSlips_tryOut.2.1 21 = .ok (.bipush 99, 2) := by decide +kernel
theorem dSlips_tryOut_23 : decode YSlips_tryOut.2.1 23 = .ok (.if_icmp .eq 16, 3) := by decide +kernel
theorem dSlips_tryOut_26 : decode YSlips_tryOut.2.1 26 = .ok (.iload 4, 2) := by decide +kernel
theorem dSlips_tryOut_28 : decode YSlips_tryOut.2.1 28 = .ok (.iload_n 3, 1) := by decide +kernel
theorem dSlips_tryOut_29 : decode YSlips_tryOut.2.1 29 = .ok (.bipush 10, 2) := by decide +kernel
theorem dSlips_tryOut_31 : decode YSlips_tryOut.2.1 31 = .ok (.irem, 1) := by decide +kernel
theorem dSlips_tryOut_32 : decode YSlips_tryOut.2.1 32 = .ok (.if_icmp .ne 7, 3) := by decide +kernel
theorem dSlips_tryOut_35 : decode YSlips_tryOut.2.1 35 = .ok (.iconst 1, 1) := by decide +kernel
theorem dSlips_tryOut_36 : decode YSlips_tryOut.2.1 36 = .ok (.goto 4, 3) := by decide +kernel
theorem dSlips_tryOut_39 : decode YSlips_tryOut.2.1 39 = .ok (.iconst 0, 1) := by decide +kernel
theorem dSlips_tryOut_40 : decode YSlips_tryOut.2.1 40 = .ok (.istore 5, 2) := by decide +kernel
theorem dSlips_tryOut_42 : decode YSlips_tryOut.2.1 42 = .ok (.aload_n 0, 1) := by decide +kernel
theorem dSlips_tryOut_43 : decode YSlips_tryOut.2.1 43 = .ok (.getfield 21, 3) := by decide +kernel
theorem dSlips_tryOut_46 : decode YSlips_tryOut.2.1 46 = .ok (.iload 4, 2) := by decide +kernel
theorem dSlips_tryOut_48 : decode YSlips_tryOut.2.1 48 = .ok (.iload 5, 2) := by decide +kernel
theorem dSlips_tryOut_50 : decode YSlips_tryOut.2.1 50 = .ok (.ifCond .eq 10, 3) := by decide +kernel
theorem dSlips_tryOut_53 : decode YSlips_tryOut.2.1 53 = .ok (.iload_n 3, 1) := by decide +kernel
theorem dSlips_tryOut_54 : decode YSlips_tryOut.2.1 54 = .ok (.bipush 10, 2) := by decide +kernel
theorem dSlips_tryOut_56 : decode YSlips_tryOut.2.1 56 = .ok (.idiv, 1) := by decide +kernel
theorem dSlips_tryOut_57 : decode YSlips_tryOut.2.1 57 = .ok (.goto 10, 3) := by decide +kernel
theorem dSlips_tryOut_60 : decode YSlips_tryOut.2.1 60 = .ok (.aload_n 1, 1) := by decide +kernel
theorem dSlips_tryOut_61 : decode YSlips_tryOut.2.1 61 = .ok (.getfield 38, 3) := by decide +kernel
theorem dSlips_tryOut_64 : decode YSlips_tryOut.2.1 64 = .ok (.iload 4, 2) := by decide +kernel
theorem dSlips_tryOut_66 : decode YSlips_tryOut.2.1 66 = .ok (.iaload, 1) := by decide +kernel
theorem dSlips_tryOut_67 : decode YSlips_tryOut.2.1 67 = .ok (.invokevirtual 49, 3) := by decide +kernel
theorem dSlips_tryOut_70 : decode YSlips_tryOut.2.1 70 = .ok (.iinc 4 1, 3) := by decide +kernel
theorem dSlips_tryOut_73 : decode YSlips_tryOut.2.1 73 = .ok (.goto (-62), 3) := by decide +kernel
theorem dSlips_tryOut_76 : decode YSlips_tryOut.2.1 76 = .ok (.aload_n 0, 1) := by decide +kernel
theorem dSlips_tryOut_77 : decode YSlips_tryOut.2.1 77 = .ok (.getfield 25, 3) := by decide +kernel
theorem dSlips_tryOut_80 : decode YSlips_tryOut.2.1 80 = .ok (.bipush 61, 2) := by decide +kernel
theorem dSlips_tryOut_82 : decode YSlips_tryOut.2.1 82 = .ok (.if_icmp .ge 56, 3) := by decide +kernel
theorem dSlips_tryOut_85 : decode YSlips_tryOut.2.1 85 = .ok (.aload_n 0, 1) := by decide +kernel
theorem dSlips_tryOut_86 : decode YSlips_tryOut.2.1 86 = .ok (.aload_n 1, 1) := by decide +kernel
theorem dSlips_tryOut_87 : decode YSlips_tryOut.2.1 87 = .ok (.aload_n 2, 1) := by decide +kernel
theorem dSlips_tryOut_88 : decode YSlips_tryOut.2.1 88 = .ok (.invokevirtual 53, 3) := by decide +kernel
theorem dSlips_tryOut_91 : decode YSlips_tryOut.2.1 91 = .ok (.ifCond .eq 47, 3) := by decide +kernel
theorem dSlips_tryOut_94 : decode YSlips_tryOut.2.1 94 = .ok (.aload_n 0, 1) := by decide +kernel
theorem dSlips_tryOut_95 : decode YSlips_tryOut.2.1 95 = .ok (.getfield 11, 3) := by decide +kernel
theorem dSlips_tryOut_98 : decode YSlips_tryOut.2.1 98 = .ok (.aload_n 0, 1) := by decide +kernel
theorem dSlips_tryOut_99 : decode YSlips_tryOut.2.1 99 = .ok (.getfield 25, 3) := by decide +kernel
theorem dSlips_tryOut_102 : decode YSlips_tryOut.2.1 102 = .ok (.iload_n 3, 1) := by decide +kernel
theorem dSlips_tryOut_103 : decode YSlips_tryOut.2.1 103 = .ok (.iastore, 1) := by decide +kernel
theorem dSlips_tryOut_104 : decode YSlips_tryOut.2.1 104 = .ok (.aload_n 0, 1) := by decide +kernel
theorem dSlips_tryOut_105 : decode YSlips_tryOut.2.1 105 = .ok (.getfield 21, 3) := by decide +kernel
theorem dSlips_tryOut_108 : decode YSlips_tryOut.2.1 108 = .ok (.getfield 57, 3) := by decide +kernel
theorem dSlips_tryOut_111 : decode YSlips_tryOut.2.1 111 = .ok (.iconst 0, 1) := by decide +kernel
theorem dSlips_tryOut_112 : decode YSlips_tryOut.2.1 112 = .ok (.aload_n 0, 1) := by decide +kernel
theorem dSlips_tryOut_113 : decode YSlips_tryOut.2.1 113 = .ok (.getfield 15, 3) := by decide +kernel
theorem dSlips_tryOut_116 : decode YSlips_tryOut.2.1 116 = .ok (.bipush 6, 2) := by decide +kernel
theorem dSlips_tryOut_118 : decode YSlips_tryOut.2.1 118 = .ok (.aload_n 0, 1) := by decide +kernel
theorem dSlips_tryOut_119 : decode YSlips_tryOut.2.1 119 = .ok (.getfield 25, 3) := by decide +kernel
theorem dSlips_tryOut_122 : decode YSlips_tryOut.2.1 122 = .ok (.imul, 1) := by decide +kernel
theorem dSlips_tryOut_123 : decode YSlips_tryOut.2.1 123 = .ok (.bipush 6, 2) := by decide +kernel
theorem dSlips_tryOut_125 : decode YSlips_tryOut.2.1 125 = .ok (.invokestatic 58, 3) := by decide +kernel
theorem dSlips_tryOut_128 : decode YSlips_tryOut.2.1 128 = .ok (.aload_n 0, 1) := by decide +kernel
theorem dSlips_tryOut_129 : decode YSlips_tryOut.2.1 129 = .ok (.dup, 1) := by decide +kernel
theorem dSlips_tryOut_130 : decode YSlips_tryOut.2.1 130 = .ok (.getfield 25, 3) := by decide +kernel
theorem dSlips_tryOut_133 : decode YSlips_tryOut.2.1 133 = .ok (.iconst 1, 1) := by decide +kernel
theorem dSlips_tryOut_134 : decode YSlips_tryOut.2.1 134 = .ok (.iadd, 1) := by decide +kernel
theorem dSlips_tryOut_135 : decode YSlips_tryOut.2.1 135 = .ok (.putfield 25, 3) := by decide +kernel
theorem dSlips_tryOut_138 : decode YSlips_tryOut.2.1 138 = .ok (.return_, 1) := by decide +kernel
theorem dSlips_agrees_0 : decode YSlips_agrees.2.1 0 = .ok (.iconst 0, 1) := by decide +kernel
theorem dSlips_agrees_1 : decode YSlips_agrees.2.1 1 = .ok (.istore_n 3, 1) := by decide +kernel
theorem dSlips_agrees_2 : decode YSlips_agrees.2.1 2 = .ok (.iload_n 3, 1) := by decide +kernel
theorem dSlips_agrees_3 : decode YSlips_agrees.2.1 3 = .ok (.aload_n 2, 1) := by decide +kernel
theorem dSlips_agrees_4 : decode YSlips_agrees.2.1 4 = .ok (.getfield 64, 3) := by decide +kernel
theorem dSlips_agrees_7 : decode YSlips_agrees.2.1 7 = .ok (.if_icmp .ge 47, 3) := by decide +kernel
theorem dSlips_agrees_10 : decode YSlips_agrees.2.1 10 = .ok (.aload_n 2, 1) := by decide +kernel
theorem dSlips_agrees_11 : decode YSlips_agrees.2.1 11 = .ok (.getfield 69, 3) := by decide +kernel
theorem dSlips_agrees_14 : decode YSlips_agrees.2.1 14 = .ok (.iload_n 3, 1) := by decide +kernel
theorem dSlips_agrees_15 : decode YSlips_agrees.2.1 15 = .ok (.iaload, 1) := by decide +kernel
theorem dSlips_agrees_16 : decode YSlips_agrees.2.1 16 = .ok (.istore 4, 2) := by decide +kernel
theorem dSlips_agrees_18 : decode YSlips_agrees.2.1 18 = .ok (.aload_n 1, 1) := by decide +kernel
theorem dSlips_agrees_19 : decode YSlips_agrees.2.1 19 = .ok (.iload 4, 2) := by decide +kernel
theorem dSlips_agrees_21 : decode YSlips_agrees.2.1 21 = .ok (.invokevirtual 71, 3) := by decide +kernel
theorem dSlips_agrees_24 : decode YSlips_agrees.2.1 24 = .ok (.ifCond .eq 22, 3) := by decide +kernel
theorem dSlips_agrees_27 : decode YSlips_agrees.2.1 27 = .ok (.aload_n 0, 1) := by decide +kernel
theorem dSlips_agrees_28 : decode YSlips_agrees.2.1 28 = .ok (.getfield 21, 3) := by decide +kernel
theorem dSlips_agrees_31 : decode YSlips_agrees.2.1 31 = .ok (.getfield 57, 3) := by decide +kernel
theorem dSlips_agrees_34 : decode YSlips_agrees.2.1 34 = .ok (.iload 4, 2) := by decide +kernel
theorem dSlips_agrees_36 : decode YSlips_agrees.2.1 36 = .ok (.iaload, 1) := by decide +kernel
theorem dSlips_agrees_37 : decode YSlips_agrees.2.1 37 = .ok (.aload_n 2, 1) := by decide +kernel
theorem dSlips_agrees_38 : decode YSlips_agrees.2.1 38 = .ok (.getfield 75, 3) := by decide +kernel
theorem dSlips_agrees_41 : decode YSlips_agrees.2.1 41 = .ok (.iload_n 3, 1) := by decide +kernel
theorem dSlips_agrees_42 : decode YSlips_agrees.2.1 42 = .ok (.iaload, 1) := by decide +kernel
theorem dSlips_agrees_43 : decode YSlips_agrees.2.1 43 = .ok (.if_icmp .eq 5, 3) := by decide +kernel
theorem dSlips_agrees_46 : decode YSlips_agrees.2.1 46 = .ok (.iconst 0, 1) := by decide +kernel
theorem dSlips_agrees_47 : decode YSlips_agrees.2.1 47 = .ok (.ireturn, 1) := by decide +kernel
theorem dSlips_agrees_48 : decode YSlips_agrees.2.1 48 = .ok (.iinc 3 1, 3) := by decide +kernel
theorem dSlips_agrees_51 : decode YSlips_agrees.2.1 51 = .ok (.goto (-49), 3) := by decide +kernel
theorem dSlips_agrees_54 : decode YSlips_agrees.2.1 54 = .ok (.iconst 1, 1) := by decide +kernel
theorem dSlips_agrees_55 : decode YSlips_agrees.2.1 55 = .ok (.ireturn, 1) := by decide +kernel
theorem dSlips_moodOf_0 : decode YSlips_moodOf.2.1 0 = .ok (.aload_n 0, 1) := by decide +kernel
theorem dSlips_moodOf_1 : decode YSlips_moodOf.2.1 1 = .ok (.getfield 15, 3) := by decide +kernel
theorem dSlips_moodOf_4 : decode YSlips_moodOf.2.1 4 = .ok (.bipush 6, 2) := by decide +kernel
theorem dSlips_moodOf_6 : decode YSlips_moodOf.2.1 6 = .ok (.iload_n 1, 1) := by decide +kernel
theorem dSlips_moodOf_7 : decode YSlips_moodOf.2.1 7 = .ok (.imul, 1) := by decide +kernel
theorem dSlips_moodOf_8 : decode YSlips_moodOf.2.1 8 = .ok (.iload_n 2, 1) := by decide +kernel
theorem dSlips_moodOf_9 : decode YSlips_moodOf.2.1 9 = .ok (.iadd, 1) := by decide +kernel
theorem dSlips_moodOf_10 : decode YSlips_moodOf.2.1 10 = .ok (.iaload, 1) := by decide +kernel
theorem dSlips_moodOf_11 : decode YSlips_moodOf.2.1 11 = .ok (.ireturn, 1) := by decide +kernel
theorem dSlips_answer_0 : decode YSlips_answer.2.1 0 = .ok (.iload_n 1, 1) := by decide +kernel
theorem dSlips_answer_1 : decode YSlips_answer.2.1 1 = .ok (.tableswitch 51 0 3 #[31, 36, 41, 46], 31) := by decide +kernel
theorem dSlips_answer_32 : decode YSlips_answer.2.1 32 = .ok (.aload_n 0, 1) := by decide +kernel
theorem dSlips_answer_33 : decode YSlips_answer.2.1 33 = .ok (.getfield 25, 3) := by decide +kernel
theorem dSlips_answer_36 : decode YSlips_answer.2.1 36 = .ok (.ireturn, 1) := by decide +kernel
theorem dSlips_answer_37 : decode YSlips_answer.2.1 37 = .ok (.aload_n 0, 1) := by decide +kernel
theorem dSlips_answer_38 : decode YSlips_answer.2.1 38 = .ok (.invokevirtual 76, 3) := by decide +kernel
theorem dSlips_answer_41 : decode YSlips_answer.2.1 41 = .ok (.ireturn, 1) := by decide +kernel
theorem dSlips_answer_42 : decode YSlips_answer.2.1 42 = .ok (.aload_n 0, 1) := by decide +kernel
theorem dSlips_answer_43 : decode YSlips_answer.2.1 43 = .ok (.invokevirtual 80, 3) := by decide +kernel
theorem dSlips_answer_46 : decode YSlips_answer.2.1 46 = .ok (.ireturn, 1) := by decide +kernel
theorem dSlips_answer_47 : decode YSlips_answer.2.1 47 = .ok (.aload_n 0, 1) := by decide +kernel
theorem dSlips_answer_48 : decode YSlips_answer.2.1 48 = .ok (.invokevirtual 83, 3) := by decide +kernel
theorem dSlips_answer_51 : decode YSlips_answer.2.1 51 = .ok (.ireturn, 1) := by decide +kernel
theorem dSlips_answer_52 : decode YSlips_answer.2.1 52 = .ok (.iload_n 1, 1) := by decide +kernel
theorem dSlips_answer_53 : decode YSlips_answer.2.1 53 = .ok (.bipush 10, 2) := by decide +kernel
theorem dSlips_answer_55 : decode YSlips_answer.2.1 55 = .ok (.if_icmp .lt 26, 3) := by decide +kernel
theorem dSlips_answer_58 : decode YSlips_answer.2.1 58 = .ok (.iload_n 1, 1) := by decide +kernel
theorem dSlips_answer_59 : decode YSlips_answer.2.1 59 = .ok (.bipush 10, 2) := by decide +kernel
theorem dSlips_answer_61 : decode YSlips_answer.2.1 61 = .ok (.isub, 1) := by decide +kernel
theorem dSlips_answer_62 : decode YSlips_answer.2.1 62 = .ok (.aload_n 0, 1) := by decide +kernel
theorem dSlips_answer_63 : decode YSlips_answer.2.1 63 = .ok (.getfield 25, 3) := by decide +kernel
theorem dSlips_answer_66 : decode YSlips_answer.2.1 66 = .ok (.if_icmp .ge 15, 3) := by decide +kernel
theorem dSlips_answer_69 : decode YSlips_answer.2.1 69 = .ok (.aload_n 0, 1) := by decide +kernel
theorem dSlips_answer_70 : decode YSlips_answer.2.1 70 = .ok (.getfield 11, 3) := by decide +kernel
theorem dSlips_answer_73 : decode YSlips_answer.2.1 73 = .ok (.iload_n 1, 1) := by decide +kernel
theorem dSlips_answer_74 : decode YSlips_answer.2.1 74 = .ok (.bipush 10, 2) := by decide +kernel
theorem dSlips_answer_76 : decode YSlips_answer.2.1 76 = .ok (.isub, 1) := by decide +kernel
theorem dSlips_answer_77 : decode YSlips_answer.2.1 77 = .ok (.iaload, 1) := by decide +kernel
theorem dSlips_answer_78 : decode YSlips_answer.2.1 78 = .ok (.goto 5, 3) := by decide +kernel
theorem dSlips_answer_81 : decode YSlips_answer.2.1 81 = .ok (.bipush (-2), 2) := by decide +kernel
theorem dSlips_answer_83 : decode YSlips_answer.2.1 83 = .ok (.ireturn, 1) := by decide +kernel
theorem dSlips_sureLetter_0 : decode YSlips_sureLetter.2.1 0 = .ok (.aload_n 0, 1) := by decide +kernel
theorem dSlips_sureLetter_1 : decode YSlips_sureLetter.2.1 1 = .ok (.getfield 25, 3) := by decide +kernel
theorem dSlips_sureLetter_4 : decode YSlips_sureLetter.2.1 4 = .ok (.ifCond .ne 5, 3) := by decide +kernel
theorem dSlips_sureLetter_7 : decode YSlips_sureLetter.2.1 7 = .ok (.iconst (-1), 1) := by decide +kernel
theorem dSlips_sureLetter_8 : decode YSlips_sureLetter.2.1 8 = .ok (.ireturn, 1) := by decide +kernel
theorem dSlips_sureLetter_9 : decode YSlips_sureLetter.2.1 9 = .ok (.iconst 0, 1) := by decide +kernel
theorem dSlips_sureLetter_10 : decode YSlips_sureLetter.2.1 10 = .ok (.istore_n 1, 1) := by decide +kernel
theorem dSlips_sureLetter_11 : decode YSlips_sureLetter.2.1 11 = .ok (.iload_n 1, 1) := by decide +kernel
theorem dSlips_sureLetter_12 : decode YSlips_sureLetter.2.1 12 = .ok (.aload_n 0, 1) := by decide +kernel
theorem dSlips_sureLetter_13 : decode YSlips_sureLetter.2.1 13 = .ok (.getfield 25, 3) := by decide +kernel
theorem dSlips_sureLetter_16 : decode YSlips_sureLetter.2.1 16 = .ok (.if_icmp .ge 43, 3) := by decide +kernel
theorem dSlips_sureLetter_19 : decode YSlips_sureLetter.2.1 19 = .ok (.aload_n 0, 1) := by decide +kernel
theorem dSlips_sureLetter_20 : decode YSlips_sureLetter.2.1 20 = .ok (.getfield 11, 3) := by decide +kernel
theorem dSlips_sureLetter_23 : decode YSlips_sureLetter.2.1 23 = .ok (.iload_n 1, 1) := by decide +kernel
theorem dSlips_sureLetter_24 : decode YSlips_sureLetter.2.1 24 = .ok (.iaload, 1) := by decide +kernel
theorem dSlips_sureLetter_25 : decode YSlips_sureLetter.2.1 25 = .ok (.bipush 99, 2) := by decide +kernel
theorem dSlips_sureLetter_27 : decode YSlips_sureLetter.2.1 27 = .ok (.if_icmp .eq 24, 3) := by decide +kernel
theorem dSlips_sureLetter_30 : decode YSlips_sureLetter.2.1 30 = .ok (.aload_n 0, 1) := by decide +kernel
theorem dSlips_sureLetter_31 : decode YSlips_sureLetter.2.1 31 = .ok (.getfield 11, 3) := by decide +kernel
theorem dSlips_sureLetter_34 : decode YSlips_sureLetter.2.1 34 = .ok (.iload_n 1, 1) := by decide +kernel
theorem dSlips_sureLetter_35 : decode YSlips_sureLetter.2.1 35 = .ok (.iaload, 1) := by decide +kernel
theorem dSlips_sureLetter_36 : decode YSlips_sureLetter.2.1 36 = .ok (.bipush 10, 2) := by decide +kernel
theorem dSlips_sureLetter_38 : decode YSlips_sureLetter.2.1 38 = .ok (.irem, 1) := by decide +kernel
theorem dSlips_sureLetter_39 : decode YSlips_sureLetter.2.1 39 = .ok (.aload_n 0, 1) := by decide +kernel
theorem dSlips_sureLetter_40 : decode YSlips_sureLetter.2.1 40 = .ok (.getfield 11, 3) := by decide +kernel
theorem dSlips_sureLetter_43 : decode YSlips_sureLetter.2.1 43 = .ok (.iconst 0, 1) := by decide +kernel
theorem dSlips_sureLetter_44 : decode YSlips_sureLetter.2.1 44 = .ok (.iaload, 1) := by decide +kernel
theorem dSlips_sureLetter_45 : decode YSlips_sureLetter.2.1 45 = .ok (.bipush 10, 2) := by decide +kernel
theorem dSlips_sureLetter_47 : decode YSlips_sureLetter.2.1 47 = .ok (.irem, 1) := by decide +kernel
theorem dSlips_sureLetter_48 : decode YSlips_sureLetter.2.1 48 = .ok (.if_icmp .eq 5, 3) := by decide +kernel
theorem dSlips_sureLetter_51 : decode YSlips_sureLetter.2.1 51 = .ok (.iconst (-1), 1) := by decide +kernel
theorem dSlips_sureLetter_52 : decode YSlips_sureLetter.2.1 52 = .ok (.ireturn, 1) := by decide +kernel
theorem dSlips_sureLetter_53 : decode YSlips_sureLetter.2.1 53 = .ok (.iinc 1 1, 3) := by decide +kernel
theorem dSlips_sureLetter_56 : decode YSlips_sureLetter.2.1 56 = .ok (.goto (-45), 3) := by decide +kernel
theorem dSlips_sureLetter_59 : decode YSlips_sureLetter.2.1 59 = .ok (.aload_n 0, 1) := by decide +kernel
theorem dSlips_sureLetter_60 : decode YSlips_sureLetter.2.1 60 = .ok (.getfield 11, 3) := by decide +kernel
theorem dSlips_sureLetter_63 : decode YSlips_sureLetter.2.1 63 = .ok (.iconst 0, 1) := by decide +kernel
theorem dSlips_sureLetter_64 : decode YSlips_sureLetter.2.1 64 = .ok (.iaload, 1) := by decide +kernel
theorem dSlips_sureLetter_65 : decode YSlips_sureLetter.2.1 65 = .ok (.bipush 10, 2) := by decide +kernel
theorem dSlips_sureLetter_67 : decode YSlips_sureLetter.2.1 67 = .ok (.irem, 1) := by decide +kernel
theorem dSlips_sureLetter_68 : decode YSlips_sureLetter.2.1 68 = .ok (.ireturn, 1) := by decide +kernel
theorem dSlips_sureHouse_0 : decode YSlips_sureHouse.2.1 0 = .ok (.aload_n 0, 1) := by decide +kernel
theorem dSlips_sureHouse_1 : decode YSlips_sureHouse.2.1 1 = .ok (.getfield 25, 3) := by decide +kernel
theorem dSlips_sureHouse_4 : decode YSlips_sureHouse.2.1 4 = .ok (.ifCond .ne 5, 3) := by decide +kernel
theorem dSlips_sureHouse_7 : decode YSlips_sureHouse.2.1 7 = .ok (.iconst (-1), 1) := by decide +kernel
theorem dSlips_sureHouse_8 : decode YSlips_sureHouse.2.1 8 = .ok (.ireturn, 1) := by decide +kernel
theorem dSlips_sureHouse_9 : decode YSlips_sureHouse.2.1 9 = .ok (.iconst 0, 1) := by decide +kernel
theorem dSlips_sureHouse_10 : decode YSlips_sureHouse.2.1 10 = .ok (.istore_n 1, 1) := by decide +kernel
theorem dSlips_sureHouse_11 : decode YSlips_sureHouse.2.1 11 = .ok (.iload_n 1, 1) := by decide +kernel
theorem dSlips_sureHouse_12 : decode YSlips_sureHouse.2.1 12 = .ok (.aload_n 0, 1) := by decide +kernel
theorem dSlips_sureHouse_13 : decode YSlips_sureHouse.2.1 13 = .ok (.getfield 25, 3) := by decide +kernel
theorem dSlips_sureHouse_16 : decode YSlips_sureHouse.2.1 16 = .ok (.if_icmp .ge 43, 3) := by decide +kernel
theorem dSlips_sureHouse_19 : decode YSlips_sureHouse.2.1 19 = .ok (.aload_n 0, 1) := by decide +kernel
theorem dSlips_sureHouse_20 : decode YSlips_sureHouse.2.1 20 = .ok (.getfield 11, 3) := by decide +kernel
theorem dSlips_sureHouse_23 : decode YSlips_sureHouse.2.1 23 = .ok (.iload_n 1, 1) := by decide +kernel
theorem dSlips_sureHouse_24 : decode YSlips_sureHouse.2.1 24 = .ok (.iaload, 1) := by decide +kernel
theorem dSlips_sureHouse_25 : decode YSlips_sureHouse.2.1 25 = .ok (.bipush 99, 2) := by decide +kernel
theorem dSlips_sureHouse_27 : decode YSlips_sureHouse.2.1 27 = .ok (.if_icmp .eq 24, 3) := by decide +kernel
theorem dSlips_sureHouse_30 : decode YSlips_sureHouse.2.1 30 = .ok (.aload_n 0, 1) := by decide +kernel
theorem dSlips_sureHouse_31 : decode YSlips_sureHouse.2.1 31 = .ok (.getfield 11, 3) := by decide +kernel
theorem dSlips_sureHouse_34 : decode YSlips_sureHouse.2.1 34 = .ok (.iload_n 1, 1) := by decide +kernel
theorem dSlips_sureHouse_35 : decode YSlips_sureHouse.2.1 35 = .ok (.iaload, 1) := by decide +kernel
theorem dSlips_sureHouse_36 : decode YSlips_sureHouse.2.1 36 = .ok (.bipush 10, 2) := by decide +kernel
theorem dSlips_sureHouse_38 : decode YSlips_sureHouse.2.1 38 = .ok (.idiv, 1) := by decide +kernel
theorem dSlips_sureHouse_39 : decode YSlips_sureHouse.2.1 39 = .ok (.aload_n 0, 1) := by decide +kernel
theorem dSlips_sureHouse_40 : decode YSlips_sureHouse.2.1 40 = .ok (.getfield 11, 3) := by decide +kernel
theorem dSlips_sureHouse_43 : decode YSlips_sureHouse.2.1 43 = .ok (.iconst 0, 1) := by decide +kernel
theorem dSlips_sureHouse_44 : decode YSlips_sureHouse.2.1 44 = .ok (.iaload, 1) := by decide +kernel
theorem dSlips_sureHouse_45 : decode YSlips_sureHouse.2.1 45 = .ok (.bipush 10, 2) := by decide +kernel
theorem dSlips_sureHouse_47 : decode YSlips_sureHouse.2.1 47 = .ok (.idiv, 1) := by decide +kernel
theorem dSlips_sureHouse_48 : decode YSlips_sureHouse.2.1 48 = .ok (.if_icmp .eq 5, 3) := by decide +kernel
theorem dSlips_sureHouse_51 : decode YSlips_sureHouse.2.1 51 = .ok (.iconst (-1), 1) := by decide +kernel
theorem dSlips_sureHouse_52 : decode YSlips_sureHouse.2.1 52 = .ok (.ireturn, 1) := by decide +kernel
theorem dSlips_sureHouse_53 : decode YSlips_sureHouse.2.1 53 = .ok (.iinc 1 1, 3) := by decide +kernel
theorem dSlips_sureHouse_56 : decode YSlips_sureHouse.2.1 56 = .ok (.goto (-45), 3) := by decide +kernel
theorem dSlips_sureHouse_59 : decode YSlips_sureHouse.2.1 59 = .ok (.aload_n 0, 1) := by decide +kernel
theorem dSlips_sureHouse_60 : decode YSlips_sureHouse.2.1 60 = .ok (.getfield 11, 3) := by decide +kernel
theorem dSlips_sureHouse_63 : decode YSlips_sureHouse.2.1 63 = .ok (.iconst 0, 1) := by decide +kernel
theorem dSlips_sureHouse_64 : decode YSlips_sureHouse.2.1 64 = .ok (.iaload, 1) := by decide +kernel
theorem dSlips_sureHouse_65 : decode YSlips_sureHouse.2.1 65 = .ok (.bipush 10, 2) := by decide +kernel
theorem dSlips_sureHouse_67 : decode YSlips_sureHouse.2.1 67 = .ok (.idiv, 1) := by decide +kernel
theorem dSlips_sureHouse_68 : decode YSlips_sureHouse.2.1 68 = .ok (.ireturn, 1) := by decide +kernel
theorem dSlips_ask_0 : decode YSlips_ask.2.1 0 = .ok (.iconst (-1), 1) := by decide +kernel
theorem dSlips_ask_1 : decode YSlips_ask.2.1 1 = .ok (.istore_n 1, 1) := by decide +kernel
theorem dSlips_ask_2 : decode YSlips_ask.2.1 2 = .ok (.aload_n 0, 1) := by decide +kernel
theorem dSlips_ask_3 : decode YSlips_ask.2.1 3 = .ok (.getfield 25, 3) := by decide +kernel
theorem dSlips_ask_6 : decode YSlips_ask.2.1 6 = .ok (.iconst 1, 1) := by decide +kernel
theorem dSlips_ask_7 : decode YSlips_ask.2.1 7 = .ok (.iadd, 1) := by decide +kernel
theorem dSlips_ask_8 : decode YSlips_ask.2.1 8 = .ok (.istore_n 2, 1) := by decide +kernel
theorem dSlips_ask_9 : decode YSlips_ask.2.1 9 = .ok (.iconst 0, 1) := by decide +kernel
theorem dSlips_ask_10 : decode YSlips_ask.2.1 10 = .ok (.istore_n 3, 1) := by decide +kernel
theorem dSlips_ask_11 : decode YSlips_ask.2.1 11 = .ok (.iload_n 3, 1) := by decide +kernel
theorem dSlips_ask_12 : decode YSlips_ask.2.1 12 = .ok (.aload_n 0, 1) := by decide +kernel
theorem dSlips_ask_13 : decode YSlips_ask.2.1 13 = .ok (.getfield 34, 3) := by decide +kernel
theorem dSlips_ask_16 : decode YSlips_ask.2.1 16 = .ok (.if_icmp .ge 34, 3) := by decide +kernel
theorem dSlips_ask_19 : decode YSlips_ask.2.1 19 = .ok (.aload_n 0, 1) := by decide +kernel
theorem dSlips_ask_20 : decode YSlips_ask.2.1 20 = .ok (.getfield 25, 3) := by decide +kernel
theorem dSlips_ask_23 : decode YSlips_ask.2.1 23 = .ok (.ifCond .le 27, 3) := by decide +kernel
theorem dSlips_ask_26 : decode YSlips_ask.2.1 26 = .ok (.aload_n 0, 1) := by decide +kernel
theorem dSlips_ask_27 : decode YSlips_ask.2.1 27 = .ok (.iload_n 3, 1) := by decide +kernel
theorem dSlips_ask_28 : decode YSlips_ask.2.1 28 = .ok (.invokevirtual 86, 3) := by decide +kernel
theorem dSlips_ask_31 : decode YSlips_ask.2.1 31 = .ok (.istore 4, 2) := by decide +kernel
theorem dSlips_ask_33 : decode YSlips_ask.2.1 33 = .ok (.iload 4, 2) := by decide +kernel
theorem dSlips_ask_35 : decode YSlips_ask.2.1 35 = .ok (.iload_n 2, 1) := by decide +kernel
theorem dSlips_ask_36 : decode YSlips_ask.2.1 36 = .ok (.if_icmp .ge 8, 3) := by decide +kernel
theorem dSlips_ask_39 : decode YSlips_ask.2.1 39 = .ok (.iload_n 3, 1) := by decide +kernel
theorem dSlips_ask_40 : decode YSlips_ask.2.1 40 = .ok (.istore_n 1, 1) := by decide +kernel
theorem dSlips_ask_41 : decode YSlips_ask.2.1 41 = .ok (.iload 4, 2) := by decide +kernel
theorem dSlips_ask_43 : decode YSlips_ask.2.1 43 = .ok (.istore_n 2, 1) := by decide +kernel
theorem dSlips_ask_44 : decode YSlips_ask.2.1 44 = .ok (.iinc 3 1, 3) := by decide +kernel
theorem dSlips_ask_47 : decode YSlips_ask.2.1 47 = .ok (.goto (-36), 3) := by decide +kernel
theorem dSlips_ask_50 : decode YSlips_ask.2.1 50 = .ok (.iload_n 1, 1) := by decide +kernel
theorem dSlips_ask_51 : decode YSlips_ask.2.1 51 = .ok (.ireturn, 1) := by decide +kernel
theorem dSlips_greatestAlike_0 : decode YSlips_greatestAlike.2.1 0 = .ok (.iconst 0, 1) := by decide +kernel
theorem dSlips_greatestAlike_1 : decode YSlips_greatestAlike.2.1 1 = .ok (.istore_n 2, 1) := by decide +kernel
theorem dSlips_greatestAlike_2 : decode YSlips_greatestAlike.2.1 2 = .ok (.iconst 0, 1) := by decide +kernel
theorem dSlips_greatestAlike_3 : decode YSlips_greatestAlike.2.1 3 = .ok (.istore_n 3, 1) := by decide +kernel
theorem dSlips_greatestAlike_4 : decode YSlips_greatestAlike.2.1 4 = .ok (.iload_n 3, 1) := by decide +kernel
theorem dSlips_greatestAlike_5 : decode YSlips_greatestAlike.2.1 5 = .ok (.aload_n 0, 1) := by decide +kernel
theorem dSlips_greatestAlike_6 : decode YSlips_greatestAlike.2.1 6 = .ok (.getfield 25, 3) := by decide +kernel
theorem dSlips_greatestAlike_9 : decode YSlips_greatestAlike.2.1 9 = .ok (.if_icmp .ge 56, 3) := by decide +kernel
theorem dSlips_greatestAlike_12 : decode YSlips_greatestAlike.2.1 12 = .ok (.iconst 0, 1) := by decide +kernel
theorem dSlips_greatestAlike_13 : decode YSlips_greatestAlike.2.1 13 = .ok (.istore 4, 2) := by decide +kernel
theorem dSlips_greatestAlike_15 : decode YSlips_greatestAlike.2.1 15 = .ok (.iconst 0, 1) := by decide +kernel
theorem dSlips_greatestAlike_16 : decode YSlips_greatestAlike.2.1 16 = .ok (.istore 5, 2) := by decide +kernel
theorem dSlips_greatestAlike_18 : decode YSlips_greatestAlike.2.1 18 = .ok (.iload 5, 2) := by decide +kernel
theorem dSlips_greatestAlike_20 : decode YSlips_greatestAlike.2.1 20 = .ok (.aload_n 0, 1) := by decide +kernel
theorem dSlips_greatestAlike_21 : decode YSlips_greatestAlike.2.1 21 = .ok (.getfield 25, 3) := by decide +kernel
theorem dSlips_greatestAlike_24 : decode YSlips_greatestAlike.2.1 24 = .ok (.if_icmp .ge 28, 3) := by decide +kernel
theorem dSlips_greatestAlike_27 : decode YSlips_greatestAlike.2.1 27 = .ok (.aload_n 0, 1) := by decide +kernel
theorem dSlips_greatestAlike_28 : decode YSlips_greatestAlike.2.1 28 = .ok (.iload_n 3, 1) := by decide +kernel
theorem dSlips_greatestAlike_29 : decode YSlips_greatestAlike.2.1 29 = .ok (.iload_n 1, 1) := by decide +kernel
theorem dSlips_greatestAlike_30 : decode YSlips_greatestAlike.2.1 30 = .ok (.invokevirtual 90, 3) := by decide +kernel
theorem dSlips_greatestAlike_33 : decode YSlips_greatestAlike.2.1 33 = .ok (.aload_n 0, 1) := by decide +kernel
theorem dSlips_greatestAlike_34 : decode YSlips_greatestAlike.2.1 34 = .ok (.iload 5, 2) := by decide +kernel
theorem dSlips_greatestAlike_36 : decode YSlips_greatestAlike.2.1 36 = .ok (.iload_n 1, 1) := by decide +kernel
theorem dSlips_greatestAlike_37 : decode YSlips_greatestAlike.2.1 37 = .ok (.invokevirtual 90, 3) := by decide +kernel
theorem dSlips_greatestAlike_40 : decode YSlips_greatestAlike.2.1 40 = .ok (.if_icmp .ne 6, 3) := by decide +kernel
theorem dSlips_greatestAlike_43 : decode YSlips_greatestAlike.2.1 43 = .ok (.iinc 4 1, 3) := by decide +kernel
theorem dSlips_greatestAlike_46 : decode YSlips_greatestAlike.2.1 46 = .ok (.iinc 5 1, 3) := by decide +kernel
theorem dSlips_greatestAlike_49 : decode YSlips_greatestAlike.2.1 49 = .ok (.goto (-31), 3) := by decide +kernel
theorem dSlips_greatestAlike_52 : decode YSlips_greatestAlike.2.1 52 = .ok (.iload_n 2, 1) := by decide +kernel
theorem dSlips_greatestAlike_53 : decode YSlips_greatestAlike.2.1 53 = .ok (.iload 4, 2) := by decide +kernel
theorem dSlips_greatestAlike_55 : decode YSlips_greatestAlike.2.1 55 = .ok (.invokestatic 94, 3) := by decide +kernel
theorem dSlips_greatestAlike_58 : decode YSlips_greatestAlike.2.1 58 = .ok (.istore_n 2, 1) := by decide +kernel
theorem dSlips_greatestAlike_59 : decode YSlips_greatestAlike.2.1 59 = .ok (.iinc 3 1, 3) := by decide +kernel
theorem dSlips_greatestAlike_62 : decode YSlips_greatestAlike.2.1 62 = .ok (.goto (-58), 3) := by decide +kernel
theorem dSlips_greatestAlike_65 : decode YSlips_greatestAlike.2.1 65 = .ok (.iload_n 2, 1) := by decide +kernel
theorem dSlips_greatestAlike_66 : decode YSlips_greatestAlike.2.1 66 = .ok (.ireturn, 1) := by decide +kernel
theorem dTold_init_0 : decode YTold_init.2.1 0 = .ok (.aload_n 0, 1) := by decide +kernel
theorem dTold_init_1 : decode YTold_init.2.1 1 = .ok (.invokespecial 3, 3) := by decide +kernel
theorem dTold_init_4 : decode YTold_init.2.1 4 = .ok (.aload_n 0, 1) := by decide +kernel
theorem dTold_init_5 : decode YTold_init.2.1 5 = .ok (.sipush 600, 3) := by decide +kernel
theorem dTold_init_8 : decode YTold_init.2.1 8 = .ok (.newarray .byte, 2) := by decide +kernel
theorem dTold_init_10 : decode YTold_init.2.1 10 = .ok (.putfield 9, 3) := by decide +kernel
theorem dTold_init_13 : decode YTold_init.2.1 13 = .ok (.aload_n 0, 1) := by decide +kernel
theorem dTold_init_14 : decode YTold_init.2.1 14 = .ok (.iconst (-1), 1) := by decide +kernel
theorem dTold_init_15 : decode YTold_init.2.1 15 = .ok (.putfield 15, 3) := by decide +kernel
theorem dTold_init_18 : decode YTold_init.2.1 18 = .ok (.aload_n 0, 1) := by decide +kernel
theorem dTold_init_19 : decode YTold_init.2.1 19 = .ok (.iconst 3, 1) := by decide +kernel
theorem dTold_init_20 : decode YTold_init.2.1 20 = .ok (.newarray .int, 2) := by decide +kernel
theorem dTold_init_22 : decode YTold_init.2.1 22 = .ok (.putfield 19, 3) := by decide +kernel
theorem dTold_init_25 : decode YTold_init.2.1 25 = .ok (.aload_n 0, 1) := by decide +kernel
theorem dTold_init_26 : decode YTold_init.2.1 26 = .ok (.iconst 2, 1) := by decide +kernel
theorem dTold_init_27 : decode YTold_init.2.1 27 = .ok (.anewarray 23, 3) := by decide +kernel
theorem dTold_init_30 : decode YTold_init.2.1 30 = .ok (.dup, 1) := by decide +kernel
theorem dTold_init_31 : decode YTold_init.2.1 31 = .ok (.iconst 0, 1) := by decide +kernel
theorem dTold_init_32 : decode YTold_init.2.1 32 = .ok (.new 23, 3) := by decide +kernel
theorem dTold_init_35 : decode YTold_init.2.1 35 = .ok (.dup, 1) := by decide +kernel
theorem dTold_init_36 : decode YTold_init.2.1 36 = .ok (.invokespecial 25, 3) := by decide +kernel
theorem dTold_init_39 : decode YTold_init.2.1 39 = .ok (.aastore, 1) := by decide +kernel
theorem dTold_init_40 : decode YTold_init.2.1 40 = .ok (.dup, 1) := by decide +kernel
theorem dTold_init_41 : decode YTold_init.2.1 41 = .ok (.iconst 1, 1) := by decide +kernel
theorem dTold_init_42 : decode YTold_init.2.1 42 = .ok (.new 23, 3) := by decide +kernel
theorem dTold_init_45 : decode YTold_init.2.1 45 = .ok (.dup, 1) := by decide +kernel
theorem dTold_init_46 : decode YTold_init.2.1 46 = .ok (.invokespecial 25, 3) := by decide +kernel
theorem dTold_init_49 : decode YTold_init.2.1 49 = .ok (.aastore, 1) := by decide +kernel
theorem dTold_init_50 : decode YTold_init.2.1 50 = .ok (.putfield 26, 3) := by decide +kernel
theorem dTold_init_53 : decode YTold_init.2.1 53 = .ok (.aload_n 0, 1) := by decide +kernel
theorem dTold_init_54 : decode YTold_init.2.1 54 = .ok (.iconst 2, 1) := by decide +kernel
theorem dTold_init_55 : decode YTold_init.2.1 55 = .ok (.anewarray 30, 3) := by decide +kernel
theorem dTold_init_58 : decode YTold_init.2.1 58 = .ok (.dup, 1) := by decide +kernel
theorem dTold_init_59 : decode YTold_init.2.1 59 = .ok (.iconst 0, 1) := by decide +kernel
theorem dTold_init_60 : decode YTold_init.2.1 60 = .ok (.new 30, 3) := by decide +kernel
theorem dTold_init_63 : decode YTold_init.2.1 63 = .ok (.dup, 1) := by decide +kernel
theorem dTold_init_64 : decode YTold_init.2.1 64 = .ok (.invokespecial 32, 3) := by decide +kernel
theorem dTold_init_67 : decode YTold_init.2.1 67 = .ok (.aastore, 1) := by decide +kernel
theorem dTold_init_68 : decode YTold_init.2.1 68 = .ok (.dup, 1) := by decide +kernel
theorem dTold_init_69 : decode YTold_init.2.1 69 = .ok (.iconst 1, 1) := by decide +kernel
theorem dTold_init_70 : decode YTold_init.2.1 70 = .ok (.new 30, 3) := by decide +kernel
theorem dTold_init_73 : decode YTold_init.2.1 73 = .ok (.dup, 1) := by decide +kernel
theorem dTold_init_74 : decode YTold_init.2.1 74 = .ok (.invokespecial 32, 3) := by decide +kernel
theorem dTold_init_77 : decode YTold_init.2.1 77 = .ok (.aastore, 1) := by decide +kernel
theorem dTold_init_78 : decode YTold_init.2.1 78 = .ok (.putfield 33, 3) := by decide +kernel
theorem dTold_init_81 : decode YTold_init.2.1 81 = .ok (.aload_n 0, 1) := by decide +kernel
theorem dTold_init_82 : decode YTold_init.2.1 82 = .ok (.iconst 2, 1) := by decide +kernel
theorem dTold_init_83 : decode YTold_init.2.1 83 = .ok (.anewarray 37, 3) := by decide +kernel
theorem dTold_init_86 : decode YTold_init.2.1 86 = .ok (.dup, 1) := by decide +kernel
theorem dTold_init_87 : decode YTold_init.2.1 87 = .ok (.iconst 0, 1) := by decide +kernel
theorem dTold_init_88 : decode YTold_init.2.1 88 = .ok (.new 37, 3) := by decide +kernel
theorem dTold_init_91 : decode YTold_init.2.1 91 = .ok (.dup, 1) := by decide +kernel
theorem dTold_init_92 : decode YTold_init.2.1 92 = .ok (.invokespecial 39, 3) := by decide +kernel
theorem dTold_init_95 : decode YTold_init.2.1 95 = .ok (.aastore, 1) := by decide +kernel
theorem dTold_init_96 : decode YTold_init.2.1 96 = .ok (.dup, 1) := by decide +kernel
theorem dTold_init_97 : decode YTold_init.2.1 97 = .ok (.iconst 1, 1) := by decide +kernel
theorem dTold_init_98 : decode YTold_init.2.1 98 = .ok (.new 37, 3) := by decide +kernel
theorem dTold_init_101 : decode YTold_init.2.1 101 = .ok (.dup, 1) := by decide +kernel
theorem dTold_init_102 : decode YTold_init.2.1 102 = .ok (.invokespecial 39, 3) := by decide +kernel
theorem dTold_init_105 : decode YTold_init.2.1 105 = .ok (.aastore, 1) := by decide +kernel
theorem dTold_init_106 : decode YTold_init.2.1 106 = .ok (.putfield 40, 3) := by decide +kernel
theorem dTold_init_109 : decode YTold_init.2.1 109 = .ok (.return_, 1) := by decide +kernel
theorem dTold_copyFrom_0 : decode YTold_copyFrom.2.1 0 = .ok (.aload_n 1, 1) := by decide +kernel
theorem dTold_copyFrom_1 : decode YTold_copyFrom.2.1 1 = .ok (.getfield 9, 3) := by decide +kernel
theorem dTold_copyFrom_4 : decode YTold_copyFrom.2.1 4 = .ok (.iconst 0, 1) := by decide +kernel
theorem dTold_copyFrom_5 : decode YTold_copyFrom.2.1 5 = .ok (.aload_n 0, 1) := by decide +kernel
theorem dTold_copyFrom_6 : decode YTold_copyFrom.2.1 6 = .ok (.getfield 9, 3) := by decide +kernel
theorem dTold_copyFrom_9 : decode YTold_copyFrom.2.1 9 = .ok (.iconst 0, 1) := by decide +kernel
theorem dTold_copyFrom_10 : decode YTold_copyFrom.2.1 10 = .ok (.sipush 600, 3) := by decide +kernel
theorem dTold_copyFrom_13 : decode YTold_copyFrom.2.1 13 = .ok (.invokestatic 44, 3) := by decide +kernel
theorem dTold_copyFrom_16 : decode YTold_copyFrom.2.1 16 = .ok (.aload_n 0, 1) := by decide +kernel
theorem dTold_copyFrom_17 : decode YTold_copyFrom.2.1 17 = .ok (.aload_n 1, 1) := by decide +kernel
theorem dTold_copyFrom_18 : decode YTold_copyFrom.2.1 18 = .ok (.getfield 50, 3) := by decide +kernel
theorem dTold_copyFrom_21 : decode YTold_copyFrom.2.1 21 = .ok (.putfield 50, 3) := by decide +kernel
theorem dTold_copyFrom_24 : decode YTold_copyFrom.2.1 24 = .ok (.aload_n 0, 1) := by decide +kernel
theorem dTold_copyFrom_25 : decode YTold_copyFrom.2.1 25 = .ok (.aload_n 1, 1) := by decide +kernel
theorem dTold_copyFrom_26 : decode YTold_copyFrom.2.1 26 = .ok (.getfield 53, 3) := by decide +kernel
theorem dTold_copyFrom_29 : decode YTold_copyFrom.2.1 29 = .ok (.putfield 53, 3) := by decide +kernel
theorem dTold_copyFrom_32 : decode YTold_copyFrom.2.1 32 = .ok (.aload_n 0, 1) := by decide +kernel
theorem dTold_copyFrom_33 : decode YTold_copyFrom.2.1 33 = .ok (.aload_n 1, 1) := by decide +kernel
theorem dTold_copyFrom_34 : decode YTold_copyFrom.2.1 34 = .ok (.getfield 15, 3) := by decide +kernel
theorem dTold_copyFrom_37 : decode YTold_copyFrom.2.1 37 = .ok (.putfield 15, 3) := by decide +kernel
theorem dTold_copyFrom_40 : decode YTold_copyFrom.2.1 40 = .ok (.aload_n 1, 1) := by decide +kernel
theorem dTold_copyFrom_41 : decode YTold_copyFrom.2.1 41 = .ok (.getfield 19, 3) := by decide +kernel
theorem dTold_copyFrom_44 : decode YTold_copyFrom.2.1 44 = .ok (.iconst 0, 1) := by decide +kernel
theorem dTold_copyFrom_45 : decode YTold_copyFrom.2.1 45 = .ok (.aload_n 0, 1) := by decide +kernel
theorem dTold_copyFrom_46 : decode YTold_copyFrom.2.1 46 = .ok (.getfield 19, 3) := by decide +kernel
theorem dTold_copyFrom_49 : decode YTold_copyFrom.2.1 49 = .ok (.iconst 0, 1) := by decide +kernel
theorem dTold_copyFrom_50 : decode YTold_copyFrom.2.1 50 = .ok (.iconst 3, 1) := by decide +kernel
theorem dTold_copyFrom_51 : decode YTold_copyFrom.2.1 51 = .ok (.invokestatic 44, 3) := by decide +kernel
theorem dTold_copyFrom_54 : decode YTold_copyFrom.2.1 54 = .ok (.iconst 0, 1) := by decide +kernel
theorem dTold_copyFrom_55 : decode YTold_copyFrom.2.1 55 = .ok (.istore_n 2, 1) := by decide +kernel
theorem dTold_copyFrom_56 : decode YTold_copyFrom.2.1 56 = .ok (.iload_n 2, 1) := by decide +kernel
theorem dTold_copyFrom_57 : decode YTold_copyFrom.2.1 57 = .ok (.iconst 2, 1) := by decide +kernel
theorem dTold_copyFrom_58 : decode YTold_copyFrom.2.1 58 = .ok (.if_icmp .ge 54, 3) := by decide +kernel
theorem dTold_copyFrom_61 : decode YTold_copyFrom.2.1 61 = .ok (.aload_n 0, 1) := by decide +kernel
theorem dTold_copyFrom_62 : decode YTold_copyFrom.2.1 62 = .ok (.getfield 26, 3) := by decide +kernel
theorem dTold_copyFrom_65 : decode YTold_copyFrom.2.1 65 = .ok (.iload_n 2, 1) := by decide +kernel
theorem dTold_copyFrom_66 : decode YTold_copyFrom.2.1 66 = .ok (.aaload, 1) := by decide +kernel
theorem dTold_copyFrom_67 : decode YTold_copyFrom.2.1 67 = .ok (.aload_n 1, 1) := by decide +kernel
theorem dTold_copyFrom_68 : decode YTold_copyFrom.2.1 68 = .ok (.getfield 26, 3) := by decide +kernel
theorem dTold_copyFrom_71 : decode YTold_copyFrom.2.1 71 = .ok (.iload_n 2, 1) := by decide +kernel
theorem dTold_copyFrom_72 : decode YTold_copyFrom.2.1 72 = .ok (.aaload, 1) := by decide +kernel
theorem dTold_copyFrom_73 : decode YTold_copyFrom.2.1 73 = .ok (.invokevirtual 56, 3) := by decide +kernel
theorem dTold_copyFrom_76 : decode YTold_copyFrom.2.1 76 = .ok (.aload_n 0, 1) := by decide +kernel
theorem dTold_copyFrom_77 : decode YTold_copyFrom.2.1 77 = .ok (.getfield 33, 3) := by decide +kernel
theorem dTold_copyFrom_80 : decode YTold_copyFrom.2.1 80 = .ok (.iload_n 2, 1) := by decide +kernel
theorem dTold_copyFrom_81 : decode YTold_copyFrom.2.1 81 = .ok (.aaload, 1) := by decide +kernel
theorem dTold_copyFrom_82 : decode YTold_copyFrom.2.1 82 = .ok (.aload_n 1, 1) := by decide +kernel
theorem dTold_copyFrom_83 : decode YTold_copyFrom.2.1 83 = .ok (.getfield 33, 3) := by decide +kernel
theorem dTold_copyFrom_86 : decode YTold_copyFrom.2.1 86 = .ok (.iload_n 2, 1) := by decide +kernel
theorem dTold_copyFrom_87 : decode YTold_copyFrom.2.1 87 = .ok (.aaload, 1) := by decide +kernel
theorem dTold_copyFrom_88 : decode YTold_copyFrom.2.1 88 = .ok (.invokevirtual 60, 3) := by decide +kernel
theorem dTold_copyFrom_91 : decode YTold_copyFrom.2.1 91 = .ok (.aload_n 0, 1) := by decide +kernel
theorem dTold_copyFrom_92 : decode YTold_copyFrom.2.1 92 = .ok (.getfield 40, 3) := by decide +kernel
theorem dTold_copyFrom_95 : decode YTold_copyFrom.2.1 95 = .ok (.iload_n 2, 1) := by decide +kernel
theorem dTold_copyFrom_96 : decode YTold_copyFrom.2.1 96 = .ok (.aaload, 1) := by decide +kernel
theorem dTold_copyFrom_97 : decode YTold_copyFrom.2.1 97 = .ok (.aload_n 1, 1) := by decide +kernel
theorem dTold_copyFrom_98 : decode YTold_copyFrom.2.1 98 = .ok (.getfield 40, 3) := by decide +kernel
theorem dTold_copyFrom_101 : decode YTold_copyFrom.2.1 101 = .ok (.iload_n 2, 1) := by decide +kernel
theorem dTold_copyFrom_102 : decode YTold_copyFrom.2.1 102 = .ok (.aaload, 1) := by decide +kernel
theorem dTold_copyFrom_103 : decode YTold_copyFrom.2.1 103 = .ok (.invokevirtual 63, 3) := by decide +kernel
theorem dTold_copyFrom_106 : decode YTold_copyFrom.2.1 106 = .ok (.iinc 2 1, 3) := by decide +kernel
theorem dTold_copyFrom_109 : decode YTold_copyFrom.2.1 109 = .ok (.goto (-53), 3) := by decide +kernel
theorem dTold_copyFrom_112 : decode YTold_copyFrom.2.1 112 = .ok (.return_, 1) := by decide +kernel
theorem dTold_addBytes_0 : decode YTold_addBytes.2.1 0 = .ok (.bipush 24, 2) := by decide +kernel
theorem dTold_addBytes_2 : decode YTold_addBytes.2.1 2 = .ok (.istore_n 2, 1) := by decide +kernel
theorem dTold_addBytes_3 : decode YTold_addBytes.2.1 3 = .ok (.iload_n 2, 1) := by decide +kernel
theorem dTold_addBytes_4 : decode YTold_addBytes.2.1 4 = .ok (.ifCond .lt 42, 3) := by decide +kernel
theorem dTold_addBytes_7 : decode YTold_addBytes.2.1 7 = .ok (.aload_n 0, 1) := by decide +kernel
theorem dTold_addBytes_8 : decode YTold_addBytes.2.1 8 = .ok (.getfield 50, 3) := by decide +kernel
theorem dTold_addBytes_11 : decode YTold_addBytes.2.1 11 = .ok (.sipush 600, 3) := by decide +kernel
theorem dTold_addBytes_14 : decode YTold_addBytes.2.1 14 = .ok (.if_icmp .ge 32, 3) := by decide +kernel
theorem dTold_addBytes_17 : decode YTold_addBytes.2.1 17 = .ok (.aload_n 0, 1) := by decide +kernel
theorem dTold_addBytes_18 : decode YTold_addBytes.2.1 18 = .ok (.getfield 9, 3) := by decide +kernel
theorem dTold_addBytes_21 : decode YTold_addBytes.2.1 21 = .ok (.aload_n 0, 1) := by decide +kernel
theorem dTold_addBytes_22 : decode YTold_addBytes.2.1 22 = .ok (.getfield 50, 3) := by decide +kernel
theorem dTold_addBytes_25 : decode YTold_addBytes.2.1 25 = .ok (.iload_n 1, 1) := by decide +kernel
theorem dTold_addBytes_26 : decode YTold_addBytes.2.1 26 = .ok (.iload_n 2, 1) := by decide +kernel
theorem dTold_addBytes_27 : decode YTold_addBytes.2.1 27 = .ok (.iushr, 1) := by decide +kernel
theorem dTold_addBytes_28 : decode YTold_addBytes.2.1 28 = .ok (.i2b, 1) := by decide +kernel
theorem dTold_addBytes_29 : decode YTold_addBytes.2.1 29 = .ok (.bastore, 1) := by decide +kernel
theorem dTold_addBytes_30 : decode YTold_addBytes.2.1 30 = .ok (.aload_n 0, 1) := by decide +kernel
theorem dTold_addBytes_31 : decode YTold_addBytes.2.1 31 = .ok (.dup, 1) := by decide +kernel
theorem dTold_addBytes_32 : decode YTold_addBytes.2.1 32 = .ok (.getfield 50, 3) := by decide +kernel
theorem dTold_addBytes_35 : decode YTold_addBytes.2.1 35 = .ok (.iconst 1, 1) := by decide +kernel
theorem dTold_addBytes_36 : decode YTold_addBytes.2.1 36 = .ok (.iadd, 1) := by decide +kernel
theorem dTold_addBytes_37 : decode YTold_addBytes.2.1 37 = .ok (.putfield 50, 3) := by decide +kernel
theorem dTold_addBytes_40 : decode YTold_addBytes.2.1 40 = .ok (.iinc 2 (-8), 3) := by decide +kernel
theorem dTold_addBytes_43 : decode YTold_addBytes.2.1 43 = .ok (.goto (-40), 3) := by decide +kernel
theorem dTold_addBytes_46 : decode YTold_addBytes.2.1 46 = .ok (.return_, 1) := by decide +kernel
theorem dTold_mayTake_0 : decode YTold_mayTake.2.1 0 = .ok (.iload_n 1, 1) := by decide +kernel
theorem dTold_mayTake_1 : decode YTold_mayTake.2.1 1 = .ok (.ifCond .lt 8, 3) := by decide +kernel
theorem dTold_mayTake_4 : decode YTold_mayTake.2.1 4 = .ok (.iload_n 1, 1) := by decide +kernel
theorem dTold_mayTake_5 : decode YTold_mayTake.2.1 5 = .ok (.iconst 3, 1) := by decide +kernel
theorem dTold_mayTake_6 : decode YTold_mayTake.2.1 6 = .ok (.if_icmp .lt 5, 3) := by decide +kernel
theorem dTold_mayTake_9 : decode YTold_mayTake.2.1 9 = .ok (.iconst 0, 1) := by decide +kernel
theorem dTold_mayTake_10 : decode YTold_mayTake.2.1 10 = .ok (.ireturn, 1) := by decide +kernel
theorem dTold_mayTake_11 : decode YTold_mayTake.2.1 11 = .ok (.iload_n 2, 1) := by decide +kernel
theorem dTold_mayTake_12 : decode YTold_mayTake.2.1 12 = .ok (.iconst (-1), 1) := by decide +kernel
theorem dTold_mayTake_13 : decode YTold_mayTake.2.1 13 = .ok (.if_icmp .ne 21, 3) := by decide +kernel
theorem dTold_mayTake_16 : decode YTold_mayTake.2.1 16 = .ok (.aload_n 0, 1) := by decide +kernel
theorem dTold_mayTake_17 : decode YTold_mayTake.2.1 17 = .ok (.getfield 19, 3) := by decide +kernel
theorem dTold_mayTake_20 : decode YTold_mayTake.2.1 20 = .ok (.iload_n 1, 1) := by decide +kernel
theorem dTold_mayTake_21 : decode YTold_mayTake.2.1 21 = .ok (.iaload, 1) := by decide +kernel
theorem dTold_mayTake_22 : decode YTold_mayTake.2.1 22 = .ok (.iconst 2, 1) := by decide +kernel
theorem dTold_mayTake_23 : decode YTold_mayTake.2.1 23 = .ok (.if_icmp .ge 7, 3) := by decide +kernel
theorem dTold_mayTake_26 : decode YTold_mayTake.2.1 26 = .ok (.iconst 1, 1) := by decide +kernel
theorem dTold_mayTake_27 : decode YTold_mayTake.2.1 27 = .ok (.goto 13, 3) := by decide +kernel
theorem dTold_mayTake_30 : decode YTold_mayTake.2.1 30 = .ok (.iconst 0, 1) := by decide +kernel
theorem dTold_mayTake_31 : decode YTold_mayTake.2.1 31 = .ok (.goto 9, 3) := by decide +kernel
theorem dTold_mayTake_34 : decode YTold_mayTake.2.1 34 = .ok (.aload_n 0, 1) := by decide +kernel
theorem dTold_mayTake_35 : decode YTold_mayTake.2.1 35 = .ok (.iload_n 1, 1) := by decide +kernel
theorem dTold_mayTake_36 : decode YTold_mayTake.2.1 36 = .ok (.iload_n 2, 1) := by decide +kernel
theorem dTold_mayTake_37 : decode YTold_mayTake.2.1 37 = .ok (.invokevirtual 66, 3) := by decide +kernel
theorem dTold_mayTake_40 : decode YTold_mayTake.2.1 40 = .ok (.ireturn, 1) := by decide +kernel
theorem dTold_take_0 : decode YTold_take.2.1 0 = .ok (.aload_n 0, 1) := by decide +kernel
theorem dTold_take_1 : decode YTold_take.2.1 1 = .ok (.iload_n 1, 1) := by decide +kernel
theorem dTold_take_2 : decode YTold_take.2.1 2 = .ok (.iload_n 2, 1) := by decide +kernel
theorem dTold_take_3 : decode YTold_take.2.1 3 = .ok (.invokevirtual 70, 3) := by decide +kernel
theorem dTold_take_6 : decode YTold_take.2.1 6 = .ok (.ifCond .ne 6, 3) := by decide +kernel
theorem dTold_take_9 : decode YTold_take.2.1 9 = .ok (.bipush (-2), 2) := by decide +kernel
theorem dTold_take_11 : decode YTold_take.2.1 11 = .ok (.ireturn, 1) := by decide +kernel
theorem dTold_take_12 : decode YTold_take.2.1 12 = .ok (.iload_n 2, 1) := by decide +kernel
theorem dTold_take_13 : decode YTold_take.2.1 13 = .ok (.iconst (-1), 1) := by decide +kernel
theorem dTold_take_14 : decode YTold_take.2.1 14 = .ok (.if_icmp .ne 12, 3) := by decide +kernel
theorem dTold_take_17 : decode YTold_take.2.1 17 = .ok (.aload_n 0, 1) := by decide +kernel
theorem dTold_take_18 : decode YTold_take.2.1 18 = .ok (.getfield 19, 3) := by decide +kernel
theorem dTold_take_21 : decode YTold_take.2.1 21 = .ok (.iload_n 1, 1) := by decide +kernel
theorem dTold_take_22 : decode YTold_take.2.1 22 = .ok (.iaload, 1) := by decide +kernel
theorem dTold_take_23 : decode YTold_take.2.1 23 = .ok (.goto 4, 3) := by decide +kernel
theorem dTold_take_26 : decode YTold_take.2.1 26 = .ok (.iload_n 2, 1) := by decide +kernel
theorem dTold_take_27 : decode YTold_take.2.1 27 = .ok (.istore 4, 2) := by decide +kernel
theorem dTold_take_29 : decode YTold_take.2.1 29 = .ok (.iload_n 2, 1) := by decide +kernel
theorem dTold_take_30 : decode YTold_take.2.1 30 = .ok (.iconst (-1), 1) := by decide +kernel
theorem dTold_take_31 : decode YTold_take.2.1 31 = .ok (.if_icmp .ne 13, 3) := by decide +kernel
theorem dTold_take_34 : decode YTold_take.2.1 34 = .ok (.aload_n 0, 1) := by decide +kernel
theorem dTold_take_35 : decode YTold_take.2.1 35 = .ok (.getfield 19, 3) := by decide +kernel
theorem dTold_take_38 : decode YTold_take.2.1 38 = .ok (.iload_n 1, 1) := by decide +kernel
theorem dTold_take_39 : decode YTold_take.2.1 39 = .ok (.dup2, 1) := by decide +kernel
theorem dTold_take_40 : decode YTold_take.2.1 40 = .ok (.iaload, 1) := by decide +kernel
theorem dTold_take_41 : decode YTold_take.2.1 41 = .ok (.iconst 1, 1) := by decide +kernel
theorem dTold_take_42 : decode YTold_take.2.1 42 = .ok (.iadd, 1) := by decide +kernel
theorem dTold_take_43 : decode YTold_take.2.1 43 = .ok (.iastore, 1) := by decide +kernel
theorem dTold_take_44 : decode YTold_take.2.1 44 = .ok (.iload_n 1, 1) := by decide +kernel
theorem dTold_take_45 : decode YTold_take.2.1 45 = .ok (.ifCond .ne 20, 3) := by decide +kernel
theorem dTold_take_48 : decode YTold_take.2.1 48 = .ok (.aload_n 0, 1) := by decide +kernel
theorem dTold_take_49 : decode YTold_take.2.1 49 = .ok (.getfield 26, 3) := by decide +kernel
theorem dTold_take_52 : decode YTold_take.2.1 52 = .ok (.iload 4, 2) := by decide +kernel
theorem dTold_take_54 : decode YTold_take.2.1 54 = .ok (.aaload, 1) := by decide +kernel
theorem dTold_take_55 : decode YTold_take.2.1 55 = .ok (.aload_n 3, 1) := by decide +kernel
theorem dTold_take_56 : decode YTold_take.2.1 56 = .ok (.getfield 73, 3) := by decide +kernel
theorem dTold_take_59 : decode YTold_take.2.1 59 = .ok (.invokevirtual 56, 3) := by decide +kernel
theorem dTold_take_62 : decode YTold_take.2.1 62 = .ok (.goto 39, 3) := by decide +kernel
theorem dTold_take_65 : decode YTold_take.2.1 65 = .ok (.iload_n 1, 1) := by decide +kernel
theorem dTold_take_66 : decode YTold_take.2.1 66 = .ok (.iconst 1, 1) := by decide +kernel
theorem dTold_take_67 : decode YTold_take.2.1 67 = .ok (.if_icmp .ne 20, 3) := by decide +kernel
theorem dTold_take_70 : decode YTold_take.2.1 70 = .ok (.aload_n 0, 1) := by decide +kernel
theorem dTold_take_71 : decode YTold_take.2.1 71 = .ok (.getfield 33, 3) := by decide +kernel
theorem dTold_take_74 : decode YTold_take.2.1 74 = .ok (.iload 4, 2) := by decide +kernel
theorem dTold_take_76 : decode YTold_take.2.1 76 = .ok (.aaload, 1) := by decide +kernel
theorem dTold_take_77 : decode YTold_take.2.1 77 = .ok (.aload_n 3, 1) := by decide +kernel
theorem dTold_take_78 : decode YTold_take.2.1 78 = .ok (.getfield 79, 3) := by decide +kernel
theorem dTold_take_81 : decode YTold_take.2.1 81 = .ok (.invokevirtual 60, 3) := by decide +kernel
theorem dTold_take_84 : decode YTold_take.2.1 84 = .ok (.goto 17, 3) := by decide +kernel
theorem dTold_take_87 : decode YTold_take.2.1 87 = .ok (.aload_n 0, 1) := by decide +kernel
theorem dTold_take_88 : decode YTold_take.2.1 88 = .ok (.getfield 40, 3) := by decide +kernel
theorem dTold_take_91 : decode YTold_take.2.1 91 = .ok (.iload 4, 2) := by decide +kernel
theorem dTold_take_93 : decode YTold_take.2.1 93 = .ok (.aaload, 1) := by decide +kernel
theorem dTold_take_94 : decode YTold_take.2.1 94 = .ok (.aload_n 3, 1) := by decide +kernel
theorem dTold_take_95 : decode YTold_take.2.1 95 = .ok (.getfield 83, 3) := by decide +kernel
theorem dTold_take_98 : decode YTold_take.2.1 98 = .ok (.invokevirtual 63, 3) := by decide +kernel
theorem dTold_take_101 : decode YTold_take.2.1 101 = .ok (.iload 4, 2) := by decide +kernel
theorem dTold_take_103 : decode YTold_take.2.1 103 = .ok (.ireturn, 1) := by decide +kernel
theorem dTold_has_0 : decode YTold_has.2.1 0 = .ok (.iload_n 2, 1) := by decide +kernel
theorem dTold_has_1 : decode YTold_has.2.1 1 = .ok (.ifCond .lt 17, 3) := by decide +kernel
theorem dTold_has_4 : decode YTold_has.2.1 4 = .ok (.iload_n 2, 1) := by decide +kernel
theorem dTold_has_5 : decode YTold_has.2.1 5 = .ok (.aload_n 0, 1) := by decide +kernel
theorem dTold_has_6 : decode YTold_has.2.1 6 = .ok (.getfield 19, 3) := by decide +kernel
theorem dTold_has_9 : decode YTold_has.2.1 9 = .ok (.iload_n 1, 1) := by decide +kernel
theorem dTold_has_10 : decode YTold_has.2.1 10 = .ok (.iaload, 1) := by decide +kernel
theorem dTold_has_11 : decode YTold_has.2.1 11 = .ok (.if_icmp .ge 7, 3) := by decide +kernel
theorem dTold_has_14 : decode YTold_has.2.1 14 = .ok (.iconst 1, 1) := by decide +kernel
theorem dTold_has_15 : decode YTold_has.2.1 15 = .ok (.goto 4, 3) := by decide +kernel
theorem dTold_has_18 : decode YTold_has.2.1 18 = .ok (.iconst 0, 1) := by decide +kernel
theorem dTold_has_19 : decode YTold_has.2.1 19 = .ok (.ireturn, 1) := by decide +kernel
theorem dTold_officeAt_0 : decode YTold_officeAt.2.1 0 = .ok (.aload_n 0, 1) := by decide +kernel
theorem dTold_officeAt_1 : decode YTold_officeAt.2.1 1 = .ok (.iconst 0, 1) := by decide +kernel
theorem dTold_officeAt_2 : decode YTold_officeAt.2.1 2 = .ok (.iload_n 1, 1) := by decide +kernel
theorem dTold_officeAt_3 : decode YTold_officeAt.2.1 3 = .ok (.invokevirtual 66, 3) := by decide +kernel
theorem dTold_officeAt_6 : decode YTold_officeAt.2.1 6 = .ok (.ifCond .eq 12, 3) := by decide +kernel
theorem dTold_officeAt_9 : decode YTold_officeAt.2.1 9 = .ok (.aload_n 0, 1) := by decide +kernel
theorem dTold_officeAt_10 : decode YTold_officeAt.2.1 10 = .ok (.getfield 26, 3) := by decide +kernel
theorem dTold_officeAt_13 : decode YTold_officeAt.2.1 13 = .ok (.iload_n 1, 1) := by decide +kernel
theorem dTold_officeAt_14 : decode YTold_officeAt.2.1 14 = .ok (.aaload, 1) := by decide +kernel
theorem dTold_officeAt_15 : decode YTold_officeAt.2.1 15 = .ok (.goto 4, 3) := by decide +kernel
theorem dTold_officeAt_18 : decode YTold_officeAt.2.1 18 = .ok (.aconst_null, 1) := by decide +kernel
theorem dTold_officeAt_19 : decode YTold_officeAt.2.1 19 = .ok (.areturn, 1) := by decide +kernel
theorem dTold_weekAt_0 : decode YTold_weekAt.2.1 0 = .ok (.aload_n 0, 1) := by decide +kernel
theorem dTold_weekAt_1 : decode YTold_weekAt.2.1 1 = .ok (.iconst 1, 1) := by decide +kernel
theorem dTold_weekAt_2 : decode YTold_weekAt.2.1 2 = .ok (.iload_n 1, 1) := by decide +kernel
theorem dTold_weekAt_3 : decode YTold_weekAt.2.1 3 = .ok (.invokevirtual 66, 3) := by decide +kernel
theorem dTold_weekAt_6 : decode YTold_weekAt.2.1 6 = .ok (.ifCond .eq 12, 3) := by decide +kernel
theorem dTold_weekAt_9 : decode YTold_weekAt.2.1 9 = .ok (.aload_n 0, 1) := by decide +kernel
theorem dTold_weekAt_10 : decode YTold_weekAt.2.1 10 = .ok (.getfield 33, 3) := by decide +kernel
theorem dTold_weekAt_13 : decode YTold_weekAt.2.1 13 = .ok (.iload_n 1, 1) := by decide +kernel
theorem dTold_weekAt_14 : decode YTold_weekAt.2.1 14 = .ok (.aaload, 1) := by decide +kernel
theorem dTold_weekAt_15 : decode YTold_weekAt.2.1 15 = .ok (.goto 4, 3) := by decide +kernel
theorem dTold_weekAt_18 : decode YTold_weekAt.2.1 18 = .ok (.aconst_null, 1) := by decide +kernel
theorem dTold_weekAt_19 : decode YTold_weekAt.2.1 19 = .ok (.areturn, 1) := by decide +kernel
theorem dTold_logAt_0 : decode YTold_logAt.2.1 0 = .ok (.aload_n 0, 1) := by decide +kernel
theorem dTold_logAt_1 : decode YTold_logAt.2.1 1 = .ok (.iconst 2, 1) := by decide +kernel
theorem dTold_logAt_2 : decode YTold_logAt.2.1 2 = .ok (.iload_n 1, 1) := by decide +kernel
theorem dTold_logAt_3 : decode YTold_logAt.2.1 3 = .ok (.invokevirtual 66, 3) := by decide +kernel
theorem dTold_logAt_6 : decode YTold_logAt.2.1 6 = .ok (.ifCond .eq 12, 3) := by decide +kernel
theorem dTold_logAt_9 : decode YTold_logAt.2.1 9 = .ok (.aload_n 0, 1) := by decide +kernel
theorem dTold_logAt_10 : decode YTold_logAt.2.1 10 = .ok (.getfield 40, 3) := by decide +kernel
theorem dTold_logAt_13 : decode YTold_logAt.2.1 13 = .ok (.iload_n 1, 1) := by decide +kernel
theorem dTold_logAt_14 : decode YTold_logAt.2.1 14 = .ok (.aaload, 1) := by decide +kernel
theorem dTold_logAt_15 : decode YTold_logAt.2.1 15 = .ok (.goto 4, 3) := by decide +kernel
theorem dTold_logAt_18 : decode YTold_logAt.2.1 18 = .ok (.aconst_null, 1) := by decide +kernel
theorem dTold_logAt_19 : decode YTold_logAt.2.1 19 = .ok (.areturn, 1) := by decide +kernel
theorem dWeek_init_0 : decode YWeek_init.2.1 0 = .ok (.aload_n 0, 1) := by decide +kernel
theorem dWeek_init_1 : decode YWeek_init.2.1 1 = .ok (.invokespecial 3, 3) := by decide +kernel
theorem dWeek_init_4 : decode YWeek_init.2.1 4 = .ok (.aload_n 0, 1) := by decide +kernel
theorem dWeek_init_5 : decode YWeek_init.2.1 5 = .ok (.bipush 40, 2) := by decide +kernel
theorem dWeek_init_7 : decode YWeek_init.2.1 7 = .ok (.newarray .int, 2) := by decide +kernel
theorem dWeek_init_9 : decode YWeek_init.2.1 9 = .ok (.putfield 9, 3) := by decide +kernel
theorem dWeek_init_12 : decode YWeek_init.2.1 12 = .ok (.aload_n 0, 1) := by decide +kernel
theorem dWeek_init_13 : decode YWeek_init.2.1 13 = .ok (.bipush 40, 2) := by decide +kernel
theorem dWeek_init_15 : decode YWeek_init.2.1 15 = .ok (.newarray .int, 2) := by decide +kernel
theorem dWeek_init_17 : decode YWeek_init.2.1 17 = .ok (.putfield 15, 3) := by decide +kernel
theorem dWeek_init_20 : decode YWeek_init.2.1 20 = .ok (.aload_n 0, 1) := by decide +kernel
theorem dWeek_init_21 : decode YWeek_init.2.1 21 = .ok (.bipush 40, 2) := by decide +kernel
theorem dWeek_init_23 : decode YWeek_init.2.1 23 = .ok (.newarray .int, 2) := by decide +kernel
theorem dWeek_init_25 : decode YWeek_init.2.1 25 = .ok (.putfield 18, 3) := by decide +kernel
theorem dWeek_init_28 : decode YWeek_init.2.1 28 = .ok (.return_, 1) := by decide +kernel
theorem dWeek_copyFrom_0 : decode YWeek_copyFrom.2.1 0 = .ok (.aload_n 0, 1) := by decide +kernel
theorem dWeek_copyFrom_1 : decode YWeek_copyFrom.2.1 1 = .ok (.aload_n 1, 1) := by decide +kernel
theorem dWeek_copyFrom_2 : decode YWeek_copyFrom.2.1 2 = .ok (.getfield 21, 3) := by decide +kernel
theorem dWeek_copyFrom_5 : decode YWeek_copyFrom.2.1 5 = .ok (.putfield 21, 3) := by decide +kernel
theorem dWeek_copyFrom_8 : decode YWeek_copyFrom.2.1 8 = .ok (.aload_n 1, 1) := by decide +kernel
theorem dWeek_copyFrom_9 : decode YWeek_copyFrom.2.1 9 = .ok (.getfield 9, 3) := by decide +kernel
theorem dWeek_copyFrom_12 : decode YWeek_copyFrom.2.1 12 = .ok (.iconst 0, 1) := by decide +kernel
theorem dWeek_copyFrom_13 : decode YWeek_copyFrom.2.1 13 = .ok (.aload_n 0, 1) := by decide +kernel
theorem dWeek_copyFrom_14 : decode YWeek_copyFrom.2.1 14 = .ok (.getfield 9, 3) := by decide +kernel
theorem dWeek_copyFrom_17 : decode YWeek_copyFrom.2.1 17 = .ok (.iconst 0, 1) := by decide +kernel
theorem dWeek_copyFrom_18 : decode YWeek_copyFrom.2.1 18 = .ok (.bipush 40, 2) := by decide +kernel
theorem dWeek_copyFrom_20 : decode YWeek_copyFrom.2.1 20 = .ok (.invokestatic 25, 3) := by decide +kernel
theorem dWeek_copyFrom_23 : decode YWeek_copyFrom.2.1 23 = .ok (.aload_n 1, 1) := by decide +kernel
theorem dWeek_copyFrom_24 : decode YWeek_copyFrom.2.1 24 = .ok (.getfield 15, 3) := by decide +kernel
theorem dWeek_copyFrom_27 : decode YWeek_copyFrom.2.1 27 = .ok (.iconst 0, 1) := by decide +kernel
theorem dWeek_copyFrom_28 : decode YWeek_copyFrom.2.1 28 = .ok (.aload_n 0, 1) := by decide +kernel
theorem dWeek_copyFrom_29 : decode YWeek_copyFrom.2.1 29 = .ok (.getfield 15, 3) := by decide +kernel
theorem dWeek_copyFrom_32 : decode YWeek_copyFrom.2.1 32 = .ok (.iconst 0, 1) := by decide +kernel
theorem dWeek_copyFrom_33 : decode YWeek_copyFrom.2.1 33 = .ok (.bipush 40, 2) := by decide +kernel
theorem dWeek_copyFrom_35 : decode YWeek_copyFrom.2.1 35 = .ok (.invokestatic 25, 3) := by decide +kernel
theorem dWeek_copyFrom_38 : decode YWeek_copyFrom.2.1 38 = .ok (.aload_n 1, 1) := by decide +kernel
theorem dWeek_copyFrom_39 : decode YWeek_copyFrom.2.1 39 = .ok (.getfield 18, 3) := by decide +kernel
theorem dWeek_copyFrom_42 : decode YWeek_copyFrom.2.1 42 = .ok (.iconst 0, 1) := by decide +kernel
theorem dWeek_copyFrom_43 : decode YWeek_copyFrom.2.1 43 = .ok (.aload_n 0, 1) := by decide +kernel
theorem dWeek_copyFrom_44 : decode YWeek_copyFrom.2.1 44 = .ok (.getfield 18, 3) := by decide +kernel
theorem dWeek_copyFrom_47 : decode YWeek_copyFrom.2.1 47 = .ok (.iconst 0, 1) := by decide +kernel
theorem dWeek_copyFrom_48 : decode YWeek_copyFrom.2.1 48 = .ok (.bipush 40, 2) := by decide +kernel
theorem dWeek_copyFrom_50 : decode YWeek_copyFrom.2.1 50 = .ok (.invokestatic 25, 3) := by decide +kernel
theorem dWeek_copyFrom_53 : decode YWeek_copyFrom.2.1 53 = .ok (.return_, 1) := by decide +kernel
theorem dWeek_add_0 : decode YWeek_add.2.1 0 = .ok (.aload_n 0, 1) := by decide +kernel
theorem dWeek_add_1 : decode YWeek_add.2.1 1 = .ok (.getfield 21, 3) := by decide +kernel
theorem dWeek_add_4 : decode YWeek_add.2.1 4 = .ok (.bipush 40, 2) := by decide +kernel
theorem dWeek_add_6 : decode YWeek_add.2.1 6 = .ok (.if_icmp .ge 43, 3) := by decide +kernel
theorem dWeek_add_9 : decode YWeek_add.2.1 9 = .ok (.aload_n 0, 1) := by decide +kernel
theorem dWeek_add_10 : decode YWeek_add.2.1 10 = .ok (.getfield 9, 3) := by decide +kernel
theorem dWeek_add_13 : decode YWeek_add.2.1 13 = .ok (.aload_n 0, 1) := by decide +kernel
theorem dWeek_add_14 : decode YWeek_add.2.1 14 = .ok (.getfield 21, 3) := by decide +kernel
theorem dWeek_add_17 : decode YWeek_add.2.1 17 = .ok (.iload_n 1, 1) := by decide +kernel
theorem dWeek_add_18 : decode YWeek_add.2.1 18 = .ok (.iastore, 1) := by decide +kernel
theorem dWeek_add_19 : decode YWeek_add.2.1 19 = .ok (.aload_n 0, 1) := by decide +kernel
theorem dWeek_add_20 : decode YWeek_add.2.1 20 = .ok (.getfield 15, 3) := by decide +kernel
theorem dWeek_add_23 : decode YWeek_add.2.1 23 = .ok (.aload_n 0, 1) := by decide +kernel
theorem dWeek_add_24 : decode YWeek_add.2.1 24 = .ok (.getfield 21, 3) := by decide +kernel
theorem dWeek_add_27 : decode YWeek_add.2.1 27 = .ok (.iload_n 2, 1) := by decide +kernel
theorem dWeek_add_28 : decode YWeek_add.2.1 28 = .ok (.iastore, 1) := by decide +kernel
theorem dWeek_add_29 : decode YWeek_add.2.1 29 = .ok (.aload_n 0, 1) := by decide +kernel
theorem dWeek_add_30 : decode YWeek_add.2.1 30 = .ok (.getfield 18, 3) := by decide +kernel
theorem dWeek_add_33 : decode YWeek_add.2.1 33 = .ok (.aload_n 0, 1) := by decide +kernel
theorem dWeek_add_34 : decode YWeek_add.2.1 34 = .ok (.getfield 21, 3) := by decide +kernel
theorem dWeek_add_37 : decode YWeek_add.2.1 37 = .ok (.iload_n 3, 1) := by decide +kernel
theorem dWeek_add_38 : decode YWeek_add.2.1 38 = .ok (.iastore, 1) := by decide +kernel
theorem dWeek_add_39 : decode YWeek_add.2.1 39 = .ok (.aload_n 0, 1) := by decide +kernel
theorem dWeek_add_40 : decode YWeek_add.2.1 40 = .ok (.dup, 1) := by decide +kernel
theorem dWeek_add_41 : decode YWeek_add.2.1 41 = .ok (.getfield 21, 3) := by decide +kernel
theorem dWeek_add_44 : decode YWeek_add.2.1 44 = .ok (.iconst 1, 1) := by decide +kernel
theorem dWeek_add_45 : decode YWeek_add.2.1 45 = .ok (.iadd, 1) := by decide +kernel
theorem dWeek_add_46 : decode YWeek_add.2.1 46 = .ok (.putfield 21, 3) := by decide +kernel
theorem dWeek_add_49 : decode YWeek_add.2.1 49 = .ok (.return_, 1) := by decide +kernel
theorem dWeek_answer_0 : decode YWeek_answer.2.1 0 = .ok (.iload_n 1, 1) := by decide +kernel
theorem dWeek_answer_1 : decode YWeek_answer.2.1 1 = .ok (.iconst (-1), 1) := by decide +kernel
theorem dWeek_answer_2 : decode YWeek_answer.2.1 2 = .ok (.if_icmp .ne 12, 3) := by decide +kernel
theorem dWeek_answer_5 : decode YWeek_answer.2.1 5 = .ok (.iload_n 2, 1) := by decide +kernel
theorem dWeek_answer_6 : decode YWeek_answer.2.1 6 = .ok (.ifCond .ne 8, 3) := by decide +kernel
theorem dWeek_answer_9 : decode YWeek_answer.2.1 9 = .ok (.aload_n 0, 1) := by decide +kernel
theorem dWeek_answer_10 : decode YWeek_answer.2.1 10 = .ok (.getfield 21, 3) := by decide +kernel
theorem dWeek_answer_13 : decode YWeek_answer.2.1 13 = .ok (.ireturn, 1) := by decide +kernel
theorem dWeek_answer_14 : decode YWeek_answer.2.1 14 = .ok (.iload_n 1, 1) := by decide +kernel
theorem dWeek_answer_15 : decode YWeek_answer.2.1 15 = .ok (.ifCond .lt 11, 3) := by decide +kernel
theorem dWeek_answer_18 : decode YWeek_answer.2.1 18 = .ok (.iload_n 1, 1) := by decide +kernel
theorem dWeek_answer_19 : decode YWeek_answer.2.1 19 = .ok (.aload_n 0, 1) := by decide +kernel
theorem dWeek_answer_20 : decode YWeek_answer.2.1 20 = .ok (.getfield 21, 3) := by decide +kernel
theorem dWeek_answer_23 : decode YWeek_answer.2.1 23 = .ok (.if_icmp .lt 6, 3) := by decide +kernel
theorem dWeek_answer_26 : decode YWeek_answer.2.1 26 = .ok (.bipush (-2), 2) := by decide +kernel
theorem dWeek_answer_28 : decode YWeek_answer.2.1 28 = .ok (.ireturn, 1) := by decide +kernel
theorem dWeek_answer_29 : decode YWeek_answer.2.1 29 = .ok (.iload_n 2, 1) := by decide +kernel
theorem dWeek_answer_30 : decode YWeek_answer.2.1 30 = .ok (.tableswitch 47 0 2 #[26, 33, 40], 26) := by decide +kernel
theorem dWeek_answer_56 : decode YWeek_answer.2.1 56 = .ok (.aload_n 0, 1) := by decide +kernel
theorem dWeek_answer_57 : decode YWeek_answer.2.1 57 = .ok (.getfield 9, 3) := by decide +kernel
theorem dWeek_answer_60 : decode YWeek_answer.2.1 60 = .ok (.iload_n 1, 1) := by decide +kernel
theorem dWeek_answer_61 : decode YWeek_answer.2.1 61 = .ok (.iaload, 1) := by decide +kernel
theorem dWeek_answer_62 : decode YWeek_answer.2.1 62 = .ok (.ireturn, 1) := by decide +kernel
theorem dWeek_answer_63 : decode YWeek_answer.2.1 63 = .ok (.aload_n 0, 1) := by decide +kernel
theorem dWeek_answer_64 : decode YWeek_answer.2.1 64 = .ok (.getfield 15, 3) := by decide +kernel
theorem dWeek_answer_67 : decode YWeek_answer.2.1 67 = .ok (.iload_n 1, 1) := by decide +kernel
theorem dWeek_answer_68 : decode YWeek_answer.2.1 68 = .ok (.iaload, 1) := by decide +kernel
theorem dWeek_answer_69 : decode YWeek_answer.2.1 69 = .ok (.ireturn, 1) := by decide +kernel
theorem dWeek_answer_70 : decode YWeek_answer.2.1 70 = .ok (.aload_n 0, 1) := by decide +kernel
theorem dWeek_answer_71 : decode YWeek_answer.2.1 71 = .ok (.getfield 18, 3) := by decide +kernel
theorem dWeek_answer_74 : decode YWeek_answer.2.1 74 = .ok (.iload_n 1, 1) := by decide +kernel
theorem dWeek_answer_75 : decode YWeek_answer.2.1 75 = .ok (.iaload, 1) := by decide +kernel
theorem dWeek_answer_76 : decode YWeek_answer.2.1 76 = .ok (.ireturn, 1) := by decide +kernel
theorem dWeek_answer_77 : decode YWeek_answer.2.1 77 = .ok (.bipush (-2), 2) := by decide +kernel
theorem dWeek_answer_79 : decode YWeek_answer.2.1 79 = .ok (.ireturn, 1) := by decide +kernel
theorem dMath_min_0 : decode YMath_min.2.1 0 = .ok (.iload_n 0, 1) := by decide +kernel
theorem dMath_min_1 : decode YMath_min.2.1 1 = .ok (.iload_n 1, 1) := by decide +kernel
theorem dMath_min_2 : decode YMath_min.2.1 2 = .ok (.if_icmp .gt 7, 3) := by decide +kernel
theorem dMath_min_5 : decode YMath_min.2.1 5 = .ok (.iload_n 0, 1) := by decide +kernel
theorem dMath_min_6 : decode YMath_min.2.1 6 = .ok (.goto 4, 3) := by decide +kernel
theorem dMath_min_9 : decode YMath_min.2.1 9 = .ok (.iload_n 1, 1) := by decide +kernel
theorem dMath_min_10 : decode YMath_min.2.1 10 = .ok (.ireturn, 1) := by decide +kernel
theorem dMath_max_0 : decode YMath_max.2.1 0 = .ok (.iload_n 0, 1) := by decide +kernel
theorem dMath_max_1 : decode YMath_max.2.1 1 = .ok (.iload_n 1, 1) := by decide +kernel
theorem dMath_max_2 : decode YMath_max.2.1 2 = .ok (.if_icmp .lt 7, 3) := by decide +kernel
theorem dMath_max_5 : decode YMath_max.2.1 5 = .ok (.iload_n 0, 1) := by decide +kernel
theorem dMath_max_6 : decode YMath_max.2.1 6 = .ok (.goto 4, 3) := by decide +kernel
theorem dMath_max_9 : decode YMath_max.2.1 9 = .ok (.iload_n 1, 1) := by decide +kernel
theorem dMath_max_10 : decode YMath_max.2.1 10 = .ok (.ireturn, 1) := by decide +kernel
theorem dArrays_fill_0 : decode YArrays_fill.2.1 0 = .ok (.iconst 0, 1) := by decide +kernel
theorem dArrays_fill_1 : decode YArrays_fill.2.1 1 = .ok (.istore_n 2, 1) := by decide +kernel
theorem dArrays_fill_2 : decode YArrays_fill.2.1 2 = .ok (.aload_n 0, 1) := by decide +kernel
theorem dArrays_fill_3 : decode YArrays_fill.2.1 3 = .ok (.arraylength, 1) := by decide +kernel
theorem dArrays_fill_4 : decode YArrays_fill.2.1 4 = .ok (.istore_n 3, 1) := by decide +kernel
theorem dArrays_fill_5 : decode YArrays_fill.2.1 5 = .ok (.iload_n 2, 1) := by decide +kernel
theorem dArrays_fill_6 : decode YArrays_fill.2.1 6 = .ok (.iload_n 3, 1) := by decide +kernel
theorem dArrays_fill_7 : decode YArrays_fill.2.1 7 = .ok (.if_icmp .ge 13, 3) := by decide +kernel
theorem dArrays_fill_10 : decode YArrays_fill.2.1 10 = .ok (.aload_n 0, 1) := by decide +kernel
theorem dArrays_fill_11 : decode YArrays_fill.2.1 11 = .ok (.iload_n 2, 1) := by decide +kernel
theorem dArrays_fill_12 : decode YArrays_fill.2.1 12 = .ok (.iload_n 1, 1) := by decide +kernel
theorem dArrays_fill_13 : decode YArrays_fill.2.1 13 = .ok (.iastore, 1) := by decide +kernel
theorem dArrays_fill_14 : decode YArrays_fill.2.1 14 = .ok (.iinc 2 1, 3) := by decide +kernel
theorem dArrays_fill_17 : decode YArrays_fill.2.1 17 = .ok (.goto (-12), 3) := by decide +kernel
theorem dArrays_fill_20 : decode YArrays_fill.2.1 20 = .ok (.return_, 1) := by decide +kernel
theorem dString_length_0 : decode YString_length.2.1 0 = .ok (.aload_n 0, 1) := by decide +kernel
theorem dString_length_1 : decode YString_length.2.1 1 = .ok (.getfield 9, 3) := by decide +kernel
theorem dString_length_4 : decode YString_length.2.1 4 = .ok (.arraylength, 1) := by decide +kernel
theorem dString_length_5 : decode YString_length.2.1 5 = .ok (.aload_n 0, 1) := by decide +kernel
theorem dString_length_6 : decode YString_length.2.1 6 = .ok (.invokevirtual 335, 3) := by decide +kernel
theorem dString_length_9 : decode YString_length.2.1 9 = .ok (.ishr, 1) := by decide +kernel
theorem dString_length_10 : decode YString_length.2.1 10 = .ok (.ireturn, 1) := by decide +kernel
theorem dString_coder_0 : decode YString_coder.2.1 0 = .ok (.getstatic 38, 3) := by decide +kernel
theorem dString_coder_3 : decode YString_coder.2.1 3 = .ok (.ifCond .eq 10, 3) := by decide +kernel
theorem dString_coder_6 : decode YString_coder.2.1 6 = .ok (.aload_n 0, 1) := by decide +kernel
theorem dString_coder_7 : decode YString_coder.2.1 7 = .ok (.getfield 15, 3) := by decide +kernel
theorem dString_coder_10 : decode YString_coder.2.1 10 = .ok (.goto 4, 3) := by decide +kernel
theorem dString_coder_13 : decode YString_coder.2.1 13 = .ok (.iconst 1, 1) := by decide +kernel
theorem dString_coder_14 : decode YString_coder.2.1 14 = .ok (.ireturn, 1) := by decide +kernel
theorem dString_charAt_0 : decode YString_charAt.2.1 0 = .ok (.aload_n 0, 1) := by decide +kernel
theorem dString_charAt_1 : decode YString_charAt.2.1 1 = .ok (.invokevirtual 492, 3) := by decide +kernel
theorem dString_charAt_4 : decode YString_charAt.2.1 4 = .ok (.ifCond .eq 12, 3) := by decide +kernel
theorem dString_charAt_7 : decode YString_charAt.2.1 7 = .ok (.aload_n 0, 1) := by decide +kernel
theorem dString_charAt_8 : decode YString_charAt.2.1 8 = .ok (.getfield 9, 3) := by decide +kernel
theorem dString_charAt_11 : decode YString_charAt.2.1 11 = .ok (.iload_n 1, 1) := by decide +kernel
theorem dString_charAt_12 : decode YString_charAt.2.1 12 = .ok (.invokestatic 495, 3) := by decide +kernel
theorem dString_charAt_15 : decode YString_charAt.2.1 15 = .ok (.ireturn, 1) := by decide +kernel
theorem dString_charAt_16 : decode YString_charAt.2.1 16 = .ok (.aload_n 0, 1) := by decide +kernel
theorem dString_charAt_17 : decode YString_charAt.2.1 17 = .ok (.getfield 9, 3) := by decide +kernel
theorem dString_charAt_20 : decode YString_charAt.2.1 20 = .ok (.iload_n 1, 1) := by decide +kernel
theorem dString_charAt_21 : decode YString_charAt.2.1 21 = .ok (.invokestatic 498, 3) := by decide +kernel
theorem dString_charAt_24 : decode YString_charAt.2.1 24 = .ok (.ireturn, 1) := by decide +kernel
theorem dString_isLatin1_0 : decode YString_isLatin1.2.1 0 = .ok (.getstatic 38, 3) := by decide +kernel
theorem dString_isLatin1_3 : decode YString_isLatin1.2.1 3 = .ok (.ifCond .eq 14, 3) := by decide +kernel
theorem dString_isLatin1_6 : decode YString_isLatin1.2.1 6 = .ok (.aload_n 0, 1) := by decide +kernel
theorem dString_isLatin1_7 : decode YString_isLatin1.2.1 7 = .ok (.getfield 15, 3) := by decide +kernel
theorem dString_isLatin1_10 : decode YString_isLatin1.2.1 10 = .ok (.ifCond .ne 7, 3) := by decide +kernel
theorem dString_isLatin1_13 : decode YString_isLatin1.2.1 13 = .ok (.iconst 1, 1) := by decide +kernel
theorem dString_isLatin1_14 : decode YString_isLatin1.2.1 14 = .ok (.goto 4, 3) := by decide +kernel
theorem dString_isLatin1_17 : decode YString_isLatin1.2.1 17 = .ok (.iconst 0, 1) := by decide +kernel
theorem dString_isLatin1_18 : decode YString_isLatin1.2.1 18 = .ok (.ireturn, 1) := by decide +kernel
theorem dStringLatin1_charAt_0 : decode YStringLatin1_charAt.2.1 0 = .ok (.iload_n 1, 1) := by decide +kernel
theorem dStringLatin1_charAt_1 : decode YStringLatin1_charAt.2.1 1 = .ok (.aload_n 0, 1) := by decide +kernel
theorem dStringLatin1_charAt_2 : decode YStringLatin1_charAt.2.1 2 = .ok (.arraylength, 1) := by decide +kernel
theorem dStringLatin1_charAt_3 : decode YStringLatin1_charAt.2.1 3 = .ok (.invokestatic 9, 3) := by decide +kernel
theorem dStringLatin1_charAt_6 : decode YStringLatin1_charAt.2.1 6 = .ok (.aload_n 0, 1) := by decide +kernel
theorem dStringLatin1_charAt_7 : decode YStringLatin1_charAt.2.1 7 = .ok (.iload_n 1, 1) := by decide +kernel
theorem dStringLatin1_charAt_8 : decode YStringLatin1_charAt.2.1 8 = .ok (.baload, 1) := by decide +kernel
theorem dStringLatin1_charAt_9 : decode YStringLatin1_charAt.2.1 9 = .ok (.sipush 255, 3) := by decide +kernel
theorem dStringLatin1_charAt_12 : decode YStringLatin1_charAt.2.1 12 = .ok (.iand, 1) := by decide +kernel
theorem dStringLatin1_charAt_13 : decode YStringLatin1_charAt.2.1 13 = .ok (.i2c, 1) := by decide +kernel
theorem dStringLatin1_charAt_14 : decode YStringLatin1_charAt.2.1 14 = .ok (.ireturn, 1) := by decide +kernel
theorem dString_checkIndex_0 : decode YString_checkIndex.2.1 0 = .ok (.iload_n 0, 1) := by decide +kernel
theorem dString_checkIndex_1 : decode YString_checkIndex.2.1 1 = .ok (.iload_n 1, 1) := by decide +kernel
theorem dString_checkIndex_2 : decode YString_checkIndex.2.1 2 = .ok (.getstatic 1053, 3) := by decide +kernel
theorem dString_checkIndex_5 : decode YString_checkIndex.2.1 5 = .ok (.invokestatic 1059, 3) := by decide +kernel
theorem dString_checkIndex_8 : decode YString_checkIndex.2.1 8 = .ok (.pop, 1) := by decide +kernel
theorem dString_checkIndex_9 : decode YString_checkIndex.2.1 9 = .ok (.return_, 1) := by decide +kernel
theorem dPreconditions_checkIndex_0 : decode YPreconditions_checkIndex.2.1 0 = .ok (.iload_n 0, 1) := by decide +kernel
theorem dPreconditions_checkIndex_1 : decode YPreconditions_checkIndex.2.1 1 = .ok (.ifCond .lt 8, 3) := by decide +kernel
theorem dPreconditions_checkIndex_4 : decode YPreconditions_checkIndex.2.1 4 = .ok (.iload_n 0, 1) := by decide +kernel
theorem dPreconditions_checkIndex_5 : decode YPreconditions_checkIndex.2.1 5 = .ok (.iload_n 1, 1) := by decide +kernel
theorem dPreconditions_checkIndex_6 : decode YPreconditions_checkIndex.2.1 6 = .ok (.if_icmp .lt 10, 3) := by decide +kernel
theorem dPreconditions_checkIndex_9 : decode YPreconditions_checkIndex.2.1 9 = .ok (.aload_n 2, 1) := by decide +kernel
theorem dPreconditions_checkIndex_10 : decode YPreconditions_checkIndex.2.1 10 = .ok (.iload_n 0, 1) := by decide +kernel
theorem dPreconditions_checkIndex_11 : decode YPreconditions_checkIndex.2.1 11 = .ok (.iload_n 1, 1) := by decide +kernel
theorem dPreconditions_checkIndex_12 : decode YPreconditions_checkIndex.2.1 12 = .ok (.invokestatic 95, 3) := by decide +kernel
theorem dPreconditions_checkIndex_15 : decode YPreconditions_checkIndex.2.1 15 = .ok (.athrow, 1) := by decide +kernel
theorem dPreconditions_checkIndex_16 : decode YPreconditions_checkIndex.2.1 16 = .ok (.iload_n 0, 1) := by decide +kernel
theorem dPreconditions_checkIndex_17 : decode YPreconditions_checkIndex.2.1 17 = .ok (.ireturn, 1) := by decide +kernel
theorem dStringUTF16_charAt_0 : decode YStringUTF16_charAt.2.1 0 = .ok (.iload_n 1, 1) := by decide +kernel
theorem dStringUTF16_charAt_1 : decode YStringUTF16_charAt.2.1 1 = .ok (.aload_n 0, 1) := by decide +kernel
theorem dStringUTF16_charAt_2 : decode YStringUTF16_charAt.2.1 2 = .ok (.invokestatic 67, 3) := by decide +kernel
theorem dStringUTF16_charAt_5 : decode YStringUTF16_charAt.2.1 5 = .ok (.aload_n 0, 1) := by decide +kernel
theorem dStringUTF16_charAt_6 : decode YStringUTF16_charAt.2.1 6 = .ok (.iload_n 1, 1) := by decide +kernel
theorem dStringUTF16_charAt_7 : decode YStringUTF16_charAt.2.1 7 = .ok (.invokestatic 71, 3) := by decide +kernel
theorem dStringUTF16_charAt_10 : decode YStringUTF16_charAt.2.1 10 = .ok (.ireturn, 1) := by decide +kernel
theorem dStringUTF16_checkIndex_0 : decode YStringUTF16_checkIndex.2.1 0 = .ok (.iload_n 0, 1) := by decide +kernel
theorem dStringUTF16_checkIndex_1 : decode YStringUTF16_checkIndex.2.1 1 = .ok (.aload_n 1, 1) := by decide +kernel
theorem dStringUTF16_checkIndex_2 : decode YStringUTF16_checkIndex.2.1 2 = .ok (.invokestatic 48, 3) := by decide +kernel
theorem dStringUTF16_checkIndex_5 : decode YStringUTF16_checkIndex.2.1 5 = .ok (.invokestatic 414, 3) := by decide +kernel
theorem dStringUTF16_checkIndex_8 : decode YStringUTF16_checkIndex.2.1 8 = .ok (.return_, 1) := by decide +kernel
theorem dStringUTF16_length_0 : decode YStringUTF16_length.2.1 0 = .ok (.aload_n 0, 1) := by decide +kernel
theorem dStringUTF16_length_1 : decode YStringUTF16_length.2.1 1 = .ok (.arraylength, 1) := by decide +kernel
theorem dStringUTF16_length_2 : decode YStringUTF16_length.2.1 2 = .ok (.iconst 1, 1) := by decide +kernel
theorem dStringUTF16_length_3 : decode YStringUTF16_length.2.1 3 = .ok (.ishr, 1) := by decide +kernel
theorem dStringUTF16_length_4 : decode YStringUTF16_length.2.1 4 = .ok (.ireturn, 1) := by decide +kernel
theorem dStringUTF16_getChar_0 : decode YStringUTF16_getChar.2.1 0 = .ok (.getstatic 44, 3) := by decide +kernel
theorem dStringUTF16_getChar_3 : decode YStringUTF16_getChar.2.1 3 = .ok (.ifCond .ne 25, 3) := by decide +kernel
theorem dStringUTF16_getChar_6 : decode YStringUTF16_getChar.2.1 6 = .ok (.iload_n 1, 1) := by decide +kernel
theorem dStringUTF16_getChar_7 : decode YStringUTF16_getChar.2.1 7 = .ok (.ifCond .lt 11, 3) := by decide +kernel
theorem dStringUTF16_getChar_10 : decode YStringUTF16_getChar.2.1 10 = .ok (.iload_n 1, 1) := by decide +kernel
theorem dStringUTF16_getChar_11 : decode YStringUTF16_getChar.2.1 11 = .ok (.aload_n 0, 1) := by decide +kernel
theorem dStringUTF16_getChar_12 : decode YStringUTF16_getChar.2.1 12 = .ok (.invokestatic 48, 3) := by decide +kernel
theorem dStringUTF16_getChar_15 : decode YStringUTF16_getChar.2.1 15 = .ok (.if_icmp .lt 13, 3) := by decide +kernel
theorem dStringUTF16_getChar_18 : decode YStringUTF16_getChar.2.1 18 = .ok (.new 52, 3) := by decide +kernel
theorem dStringUTF16_getChar_21 : decode YStringUTF16_getChar.2.1 21 = .ok (.dup, 1) := by decide +kernel
theorem dStringUTF16_getChar_22 : decode YStringUTF16_getChar.2.1 22 = .ok (.ldc 54, 2) := by decide +kernel
theorem dStringUTF16_getChar_24 : decode YStringUTF16_getChar.2.1 24 = .ok (.invokespecial 56, 3) := by decide +kernel
theorem dStringUTF16_getChar_27 : decode YStringUTF16_getChar.2.1 27 = .ok (.athrow, 1) := by decide +kernel
theorem dStringUTF16_getChar_28 : decode YStringUTF16_getChar.2.1 28 = .ok (.iload_n 1, 1) := by decide +kernel
theorem dStringUTF16_getChar_29 : decode YStringUTF16_getChar.2.1 29 = .ok (.iconst 1, 1) := by decide +kernel
theorem dStringUTF16_getChar_30 : decode YStringUTF16_getChar.2.1 30 = .ok (.ishl, 1) := by decide +kernel
theorem dStringUTF16_getChar_31 : decode YStringUTF16_getChar.2.1 31 = .ok (.istore_n 1, 1) := by decide +kernel
theorem dStringUTF16_getChar_32 : decode YStringUTF16_getChar.2.1 32 = .ok (.aload_n 0, 1) := by decide +kernel
theorem dStringUTF16_getChar_33 : decode YStringUTF16_getChar.2.1 33 = .ok (.iload_n 1, 1) := by decide +kernel
theorem dStringUTF16_getChar_34 : decode YStringUTF16_getChar.2.1 34 = .ok (.iinc 1 1, 3) := by decide +kernel
theorem dStringUTF16_getChar_37 : decode YStringUTF16_getChar.2.1 37 = .ok (.baload, 1) := by decide +kernel
theorem dStringUTF16_getChar_38 : decode YStringUTF16_getChar.2.1 38 = .ok (.sipush 255, 3) := by decide +kernel
theorem dStringUTF16_getChar_41 : decode YStringUTF16_getChar.2.1 41 = .ok (.iand, 1) := by decide +kernel
theorem dStringUTF16_getChar_42 : decode YStringUTF16_getChar.2.1 42 = .ok (.getstatic 59, 3) := by decide +kernel
theorem dStringUTF16_getChar_45 : decode YStringUTF16_getChar.2.1 45 = .ok (.ishl, 1) := by decide +kernel
theorem dStringUTF16_getChar_46 : decode YStringUTF16_getChar.2.1 46 = .ok (.aload_n 0, 1) := by decide +kernel
theorem dStringUTF16_getChar_47 : decode YStringUTF16_getChar.2.1 47 = .ok (.iload_n 1, 1) := by decide +kernel
theorem dStringUTF16_getChar_48 : decode YStringUTF16_getChar.2.1 48 = .ok (.baload, 1) := by decide +kernel
theorem dStringUTF16_getChar_49 : decode YStringUTF16_getChar.2.1 49 = .ok (.sipush 255, 3) := by decide +kernel
theorem dStringUTF16_getChar_52 : decode YStringUTF16_getChar.2.1 52 = .ok (.iand, 1) := by decide +kernel
theorem dStringUTF16_getChar_53 : decode YStringUTF16_getChar.2.1 53 = .ok (.getstatic 63, 3) := by decide +kernel
theorem dStringUTF16_getChar_56 : decode YStringUTF16_getChar.2.1 56 = .ok (.ishl, 1) := by decide +kernel
theorem dStringUTF16_getChar_57 : decode YStringUTF16_getChar.2.1 57 = .ok (.ior, 1) := by decide +kernel
theorem dStringUTF16_getChar_58 : decode YStringUTF16_getChar.2.1 58 = .ok (.i2c, 1) := by decide +kernel
theorem dStringUTF16_getChar_59 : decode YStringUTF16_getChar.2.1 59 = .ok (.ireturn, 1) := by decide +kernel
theorem dInteger_compare_0 : decode YInteger_compare.2.1 0 = .ok (.iload_n 0, 1) := by decide +kernel
theorem dInteger_compare_1 : decode YInteger_compare.2.1 1 = .ok (.iload_n 1, 1) := by decide +kernel
theorem dInteger_compare_2 : decode YInteger_compare.2.1 2 = .ok (.if_icmp .ge 7, 3) := by decide +kernel
theorem dInteger_compare_5 : decode YInteger_compare.2.1 5 = .ok (.iconst (-1), 1) := by decide +kernel
theorem dInteger_compare_6 : decode YInteger_compare.2.1 6 = .ok (.goto 13, 3) := by decide +kernel
theorem dInteger_compare_9 : decode YInteger_compare.2.1 9 = .ok (.iload_n 0, 1) := by decide +kernel
theorem dInteger_compare_10 : decode YInteger_compare.2.1 10 = .ok (.iload_n 1, 1) := by decide +kernel
theorem dInteger_compare_11 : decode YInteger_compare.2.1 11 = .ok (.if_icmp .ne 7, 3) := by decide +kernel
theorem dInteger_compare_14 : decode YInteger_compare.2.1 14 = .ok (.iconst 0, 1) := by decide +kernel
theorem dInteger_compare_15 : decode YInteger_compare.2.1 15 = .ok (.goto 4, 3) := by decide +kernel
theorem dInteger_compare_18 : decode YInteger_compare.2.1 18 = .ok (.iconst 1, 1) := by decide +kernel
theorem dInteger_compare_19 : decode YInteger_compare.2.1 19 = .ok (.ireturn, 1) := by decide +kernel
theorem dInteger_bitCount_0 : decode YInteger_bitCount.2.1 0 = .ok (.iload_n 0, 1) := by decide +kernel
theorem dInteger_bitCount_1 : decode YInteger_bitCount.2.1 1 = .ok (.iload_n 0, 1) := by decide +kernel
theorem dInteger_bitCount_2 : decode YInteger_bitCount.2.1 2 = .ok (.iconst 1, 1) := by decide +kernel
theorem dInteger_bitCount_3 : decode YInteger_bitCount.2.1 3 = .ok (.iushr, 1) := by decide +kernel
theorem dInteger_bitCount_4 : decode YInteger_bitCount.2.1 4 = .ok (.ldc_w 265, 3) := by decide +kernel
theorem dInteger_bitCount_7 : decode YInteger_bitCount.2.1 7 = .ok (.iand, 1) := by decide +kernel
theorem dInteger_bitCount_8 : decode YInteger_bitCount.2.1 8 = .ok (.isub, 1) := by decide +kernel
theorem dInteger_bitCount_9 : decode YInteger_bitCount.2.1 9 = .ok (.istore_n 0, 1) := by decide +kernel
theorem dInteger_bitCount_10 : decode YInteger_bitCount.2.1 10 = .ok (.iload_n 0, 1) := by decide +kernel
theorem dInteger_bitCount_11 : decode YInteger_bitCount.2.1 11 = .ok (.ldc_w 266, 3) := by decide +kernel
theorem dInteger_bitCount_14 : decode YInteger_bitCount.2.1 14 = .ok (.iand, 1) := by decide +kernel
theorem dInteger_bitCount_15 : decode YInteger_bitCount.2.1 15 = .ok (.iload_n 0, 1) := by decide +kernel
theorem dInteger_bitCount_16 : decode YInteger_bitCount.2.1 16 = .ok (.iconst 2, 1) := by decide +kernel
theorem dInteger_bitCount_17 : decode YInteger_bitCount.2.1 17 = .ok (.iushr, 1) := by decide +kernel
theorem dInteger_bitCount_18 : decode YInteger_bitCount.2.1 18 = .ok (.ldc_w 266, 3) := by decide +kernel
theorem dInteger_bitCount_21 : decode YInteger_bitCount.2.1 21 = .ok (.iand, 1) := by decide +kernel
theorem dInteger_bitCount_22 : decode YInteger_bitCount.2.1 22 = .ok (.iadd, 1) := by decide +kernel
theorem dInteger_bitCount_23 : decode YInteger_bitCount.2.1 23 = .ok (.istore_n 0, 1) := by decide +kernel
theorem dInteger_bitCount_24 : decode YInteger_bitCount.2.1 24 = .ok (.iload_n 0, 1) := by decide +kernel
theorem dInteger_bitCount_25 : decode YInteger_bitCount.2.1 25 = .ok (.iload_n 0, 1) := by decide +kernel
theorem dInteger_bitCount_26 : decode YInteger_bitCount.2.1 26 = .ok (.iconst 4, 1) := by decide +kernel
theorem dInteger_bitCount_27 : decode YInteger_bitCount.2.1 27 = .ok (.iushr, 1) := by decide +kernel
theorem dInteger_bitCount_28 : decode YInteger_bitCount.2.1 28 = .ok (.iadd, 1) := by decide +kernel
theorem dInteger_bitCount_29 : decode YInteger_bitCount.2.1 29 = .ok (.ldc_w 267, 3) := by decide +kernel
theorem dInteger_bitCount_32 : decode YInteger_bitCount.2.1 32 = .ok (.iand, 1) := by decide +kernel
theorem dInteger_bitCount_33 : decode YInteger_bitCount.2.1 33 = .ok (.istore_n 0, 1) := by decide +kernel
theorem dInteger_bitCount_34 : decode YInteger_bitCount.2.1 34 = .ok (.iload_n 0, 1) := by decide +kernel
theorem dInteger_bitCount_35 : decode YInteger_bitCount.2.1 35 = .ok (.iload_n 0, 1) := by decide +kernel
theorem dInteger_bitCount_36 : decode YInteger_bitCount.2.1 36 = .ok (.bipush 8, 2) := by decide +kernel
theorem dInteger_bitCount_38 : decode YInteger_bitCount.2.1 38 = .ok (.iushr, 1) := by decide +kernel
theorem dInteger_bitCount_39 : decode YInteger_bitCount.2.1 39 = .ok (.iadd, 1) := by decide +kernel
theorem dInteger_bitCount_40 : decode YInteger_bitCount.2.1 40 = .ok (.istore_n 0, 1) := by decide +kernel
theorem dInteger_bitCount_41 : decode YInteger_bitCount.2.1 41 = .ok (.iload_n 0, 1) := by decide +kernel
theorem dInteger_bitCount_42 : decode YInteger_bitCount.2.1 42 = .ok (.iload_n 0, 1) := by decide +kernel
theorem dInteger_bitCount_43 : decode YInteger_bitCount.2.1 43 = .ok (.bipush 16, 2) := by decide +kernel
theorem dInteger_bitCount_45 : decode YInteger_bitCount.2.1 45 = .ok (.iushr, 1) := by decide +kernel
theorem dInteger_bitCount_46 : decode YInteger_bitCount.2.1 46 = .ok (.iadd, 1) := by decide +kernel
theorem dInteger_bitCount_47 : decode YInteger_bitCount.2.1 47 = .ok (.istore_n 0, 1) := by decide +kernel
theorem dInteger_bitCount_48 : decode YInteger_bitCount.2.1 48 = .ok (.iload_n 0, 1) := by decide +kernel
theorem dInteger_bitCount_49 : decode YInteger_bitCount.2.1 49 = .ok (.bipush 63, 2) := by decide +kernel
theorem dInteger_bitCount_51 : decode YInteger_bitCount.2.1 51 = .ok (.iand, 1) := by decide +kernel
theorem dInteger_bitCount_52 : decode YInteger_bitCount.2.1 52 = .ok (.ireturn, 1) := by decide +kernel
theorem dMath_abs_0 : decode YMath_abs.2.1 0 = .ok (.lload_n 0, 1) := by decide +kernel
theorem dMath_abs_1 : decode YMath_abs.2.1 1 = .ok (.lconst 0, 1) := by decide +kernel
theorem dMath_abs_2 : decode YMath_abs.2.1 2 = .ok (.lcmp, 1) := by decide +kernel
theorem dMath_abs_3 : decode YMath_abs.2.1 3 = .ok (.ifCond .ge 8, 3) := by decide +kernel
theorem dMath_abs_6 : decode YMath_abs.2.1 6 = .ok (.lload_n 0, 1) := by decide +kernel
theorem dMath_abs_7 : decode YMath_abs.2.1 7 = .ok (.lneg, 1) := by decide +kernel
theorem dMath_abs_8 : decode YMath_abs.2.1 8 = .ok (.goto 4, 3) := by decide +kernel
theorem dMath_abs_11 : decode YMath_abs.2.1 11 = .ok (.lload_n 0, 1) := by decide +kernel
theorem dMath_abs_12 : decode YMath_abs.2.1 12 = .ok (.lreturn, 1) := by decide +kernel
theorem dMath_abs2_0 : decode YMath_abs2.2.1 0 = .ok (.iload_n 0, 1) := by decide +kernel
theorem dMath_abs2_1 : decode YMath_abs2.2.1 1 = .ok (.ifCond .ge 8, 3) := by decide +kernel
theorem dMath_abs2_4 : decode YMath_abs2.2.1 4 = .ok (.iload_n 0, 1) := by decide +kernel
theorem dMath_abs2_5 : decode YMath_abs2.2.1 5 = .ok (.ineg, 1) := by decide +kernel
theorem dMath_abs2_6 : decode YMath_abs2.2.1 6 = .ok (.goto 4, 3) := by decide +kernel
theorem dMath_abs2_9 : decode YMath_abs2.2.1 9 = .ok (.iload_n 0, 1) := by decide +kernel
theorem dMath_abs2_10 : decode YMath_abs2.2.1 10 = .ok (.ireturn, 1) := by decide +kernel
