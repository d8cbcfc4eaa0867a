theorem dOffice_lowestUntil_13 : decode YOffice_lowestUntil.2.1 13 = .ok (.iconst 0, 1) := by decide +kernel
theorem dOffice_lowestUntil_14 : decode YOffice_lowestUntil.2.1 14 = .ok (.istore 6, 2) := by decide +kernel
theorem dOffice_lowestUntil_16 : decode YOffice_lowestUntil.2.1 16 = .ok (.iload 6, 2) := by decide +kernel
theorem dOffice_lowestUntil_18 : decode YOffice_lowestUntil.2.1 18 = .ok (.aload_n 0, 1) := by decide +kernel
theorem dOffice_lowestUntil_19 : decode YOffice_lowestUntil.2.1 19 = .ok (.getfield 40, 3) := by decide +kernel
theorem dOffice_lowestUntil_22 : decode YOffice_lowestUntil.2.1 22 = .ok (.if_icmp .ge 47, 3) := by decide +kernel
theorem dOffice_lowestUntil_25 : decode YOffice_lowestUntil.2.1 25 = .ok (.iload_n 2, 1) := by decide +kernel
theorem dOffice_lowestUntil_26 : decode YOffice_lowestUntil.2.1 26 = .ok (.iload 6, 2) := by decide +kernel
theorem dOffice_lowestUntil_28 : decode YOffice_lowestUntil.2.1 28 = .ok (.ishr, 1) := by decide +kernel
theorem dOffice_lowestUntil_29 : decode YOffice_lowestUntil.2.1 29 = .ok (.iconst 1, 1) := by decide +kernel
theorem dOffice_lowestUntil_30 : decode YOffice_lowestUntil.2.1 30 = .ok (.iand, 1) := by decide +kernel
theorem dOffice_lowestUntil_31 : decode YOffice_lowestUntil.2.1 31 = .ok (.iconst 1, 1) := by decide +kernel
theorem dOffice_lowestUntil_32 : decode YOffice_lowestUntil.2.1 32 = .ok (.if_icmp .ne 31, 3) := by decide +kernel
theorem dOffice_lowestUntil_35 : decode YOffice_lowestUntil.2.1 35 = .ok (.iload_n 3, 1) := by decide +kernel
theorem dOffice_lowestUntil_36 : decode YOffice_lowestUntil.2.1 36 = .ok (.aload_n 0, 1) := by decide +kernel
theorem dOffice_lowestUntil_37 : decode YOffice_lowestUntil.2.1 37 = .ok (.iload 6, 2) := by decide +kernel
theorem dOffice_lowestUntil_39 : decode YOffice_lowestUntil.2.1 39 = .ok (.iload 5, 2) := by decide +kernel
theorem dOffice_lowestUntil_41 : decode YOffice_lowestUntil.2.1 41 = .ok (.invokevirtual 76, 3) := by decide +kernel
theorem dOffice_lowestUntil_44 : decode YOffice_lowestUntil.2.1 44 = .ok (.iadd, 1) := by decide +kernel
theorem dOffice_lowestUntil_45 : decode YOffice_lowestUntil.2.1 45 = .ok (.istore_n 3, 1) := by decide +kernel
theorem dOffice_lowestUntil_46 : decode YOffice_lowestUntil.2.1 46 = .ok (.aload_n 0, 1) := by decide +kernel
theorem dOffice_lowestUntil_47 : decode YOffice_lowestUntil.2.1 47 = .ok (.getfield 18, 3) := by decide +kernel
theorem dOffice_lowestUntil_50 : decode YOffice_lowestUntil.2.1 50 = .ok (.iload 6, 2) := by decide +kernel
theorem dOffice_lowestUntil_52 : decode YOffice_lowestUntil.2.1 52 = .ok (.iaload, 1) := by decide +kernel
theorem dOffice_lowestUntil_53 : decode YOffice_lowestUntil.2.1 53 = .ok (.istore 5, 2) := by decide +kernel
theorem dOffice_lowestUntil_55 : decode YOffice_lowestUntil.2.1 55 = .ok (.iload 4, 2) := by decide +kernel
theorem dOffice_lowestUntil_57 : decode YOffice_lowestUntil.2.1 57 = .ok (.iload_n 3, 1) := by decide +kernel
theorem dOffice_lowestUntil_58 : decode YOffice_lowestUntil.2.1 58 = .ok (.invokestatic 79, 3) := by decide +kernel
theorem dOffice_lowestUntil_61 : decode YOffice_lowestUntil.2.1 61 = .ok (.istore 4, 2) := by decide +kernel
theorem dOffice_lowestUntil_63 : decode YOffice_lowestUntil.2.1 63 = .ok (.iinc 6 1, 3) := by decide +kernel
theorem dOffice_lowestUntil_66 : decode YOffice_lowestUntil.2.1 66 = .ok (.goto (-50), 3) := by decide +kernel
theorem dOffice_lowestUntil_69 : decode YOffice_lowestUntil.2.1 69 = .ok (.iload 4, 2) := by decide +kernel
theorem dOffice_lowestUntil_71 : decode YOffice_lowestUntil.2.1 71 = .ok (.ireturn, 1) := by decide +kernel
theorem dOffice_calmedBy_0 : decode YOffice_calmedBy.2.1 0 = .ok (.aload_n 0, 1) := by decide +kernel
theorem dOffice_calmedBy_1 : decode YOffice_calmedBy.2.1 1 = .ok (.iload_n 1, 1) := by decide +kernel
theorem dOffice_calmedBy_2 : decode YOffice_calmedBy.2.1 2 = .ok (.invokevirtual 84, 3) := by decide +kernel
theorem dOffice_calmedBy_5 : decode YOffice_calmedBy.2.1 5 = .ok (.istore_n 3, 1) := by decide +kernel
theorem dOffice_calmedBy_6 : decode YOffice_calmedBy.2.1 6 = .ok (.iconst (-1), 1) := by decide +kernel
theorem dOffice_calmedBy_7 : decode YOffice_calmedBy.2.1 7 = .ok (.istore 4, 2) := by decide +kernel
theorem dOffice_calmedBy_9 : decode YOffice_calmedBy.2.1 9 = .ok (.iconst 0, 1) := by decide +kernel
theorem dOffice_calmedBy_10 : decode YOffice_calmedBy.2.1 10 = .ok (.istore 5, 2) := by decide +kernel
theorem dOffice_calmedBy_12 : decode YOffice_calmedBy.2.1 12 = .ok (.iload 5, 2) := by decide +kernel
theorem dOffice_calmedBy_14 : decode YOffice_calmedBy.2.1 14 = .ok (.iconst 1, 1) := by decide +kernel
theorem dOffice_calmedBy_15 : decode YOffice_calmedBy.2.1 15 = .ok (.aload_n 0, 1) := by decide +kernel
theorem dOffice_calmedBy_16 : decode YOffice_calmedBy.2.1 16 = .ok (.getfield 40, 3) := by decide +kernel
theorem dOffice_calmedBy_19 : decode YOffice_calmedBy.2.1 19 = .ok (.ishl, 1) := by decide +kernel
theorem dOffice_calmedBy_20 : decode YOffice_calmedBy.2.1 20 = .ok (.if_icmp .ge 68, 3) := by decide +kernel
theorem dOffice_calmedBy_23 : decode YOffice_calmedBy.2.1 23 = .ok (.iload 4, 2) := by decide +kernel
theorem dOffice_calmedBy_25 : decode YOffice_calmedBy.2.1 25 = .ok (.iconst (-1), 1) := by decide +kernel
theorem dOffice_calmedBy_26 : decode YOffice_calmedBy.2.1 26 = .ok (.if_icmp .eq 16, 3) := by decide +kernel
theorem dOffice_calmedBy_29 : decode YOffice_calmedBy.2.1 29 = .ok (.iload 5, 2) := by decide +kernel
theorem dOffice_calmedBy_31 : decode YOffice_calmedBy.2.1 31 = .ok (.invokestatic 87, 3) := by decide +kernel
theorem dOffice_calmedBy_34 : decode YOffice_calmedBy.2.1 34 = .ok (.iload 4, 2) := by decide +kernel
theorem dOffice_calmedBy_36 : decode YOffice_calmedBy.2.1 36 = .ok (.invokestatic 87, 3) := by decide +kernel
theorem dOffice_calmedBy_39 : decode YOffice_calmedBy.2.1 39 = .ok (.if_icmp .ge 7, 3) := by decide +kernel
theorem dOffice_calmedBy_42 : decode YOffice_calmedBy.2.1 42 = .ok (.iconst 1, 1) := by decide +kernel
theorem dOffice_calmedBy_43 : decode YOffice_calmedBy.2.1 43 = .ok (.goto 4, 3) := by decide +kernel
theorem dOffice_calmedBy_46 : decode YOffice_calmedBy.2.1 46 = .ok (.iconst 0, 1) := by decide +kernel
theorem dOffice_calmedBy_47 : decode YOffice_calmedBy.2.1 47 = .ok (.istore 6, 2) := by decide +kernel
theorem dOffice_calmedBy_49 : decode YOffice_calmedBy.2.1 49 = .ok (.iload 5, 2) := by decide +kernel
theorem dOffice_calmedBy_51 : decode YOffice_calmedBy.2.1 51 = .ok (.iload_n 3, 1) := by decide +kernel
theorem dOffice_calmedBy_52 : decode YOffice_calmedBy.2.1 52 = .ok (.iconst (-1), 1) := by decide +kernel
theorem dOffice_calmedBy_53 : decode YOffice_calmedBy.2.1 53 = .ok (.ixor, 1) := by decide +kernel
theorem dOffice_calmedBy_54 : decode YOffice_calmedBy.2.1 54 = .ok (.iand, 1) := by decide +kernel
theorem dOffice_calmedBy_55 : decode YOffice_calmedBy.2.1 55 = .ok (.ifCond .ne 27, 3) := by decide +kernel
theorem dOffice_calmedBy_58 : decode YOffice_calmedBy.2.1 58 = .ok (.iload 6, 2) := by decide +kernel
theorem dOffice_calmedBy_60 : decode YOffice_calmedBy.2.1 60 = .ok (.ifCond .eq 22, 3) := by decide +kernel
theorem dOffice_calmedBy_63 : decode YOffice_calmedBy.2.1 63 = .ok (.aload_n 0, 1) := by decide +kernel
theorem dOffice_calmedBy_64 : decode YOffice_calmedBy.2.1 64 = .ok (.iload_n 1, 1) := by decide +kernel
theorem dOffice_calmedBy_65 : decode YOffice_calmedBy.2.1 65 = .ok (.iload_n 3, 1) := by decide +kernel
theorem dOffice_calmedBy_66 : decode YOffice_calmedBy.2.1 66 = .ok (.iload 5, 2) := by decide +kernel
theorem dOffice_calmedBy_68 : decode YOffice_calmedBy.2.1 68 = .ok (.iconst (-1), 1) := by decide +kernel
theorem dOffice_calmedBy_69 : decode YOffice_calmedBy.2.1 69 = .ok (.ixor, 1) := by decide +kernel
theorem dOffice_calmedBy_70 : decode YOffice_calmedBy.2.1 70 = .ok (.iand, 1) := by decide +kernel
theorem dOffice_calmedBy_71 : decode YOffice_calmedBy.2.1 71 = .ok (.invokevirtual 92, 3) := by decide +kernel
theorem dOffice_calmedBy_74 : decode YOffice_calmedBy.2.1 74 = .ok (.iload_n 2, 1) := by decide +kernel
theorem dOffice_calmedBy_75 : decode YOffice_calmedBy.2.1 75 = .ok (.if_icmp .lt 7, 3) := by decide +kernel
theorem dOffice_calmedBy_78 : decode YOffice_calmedBy.2.1 78 = .ok (.iload 5, 2) := by decide +kernel
theorem dOffice_calmedBy_80 : decode YOffice_calmedBy.2.1 80 = .ok (.istore 4, 2) := by decide +kernel
theorem dOffice_calmedBy_82 : decode YOffice_calmedBy.2.1 82 = .ok (.iinc 5 1, 3) := by decide +kernel
theorem dOffice_calmedBy_85 : decode YOffice_calmedBy.2.1 85 = .ok (.goto (-73), 3) := by decide +kernel
theorem dOffice_calmedBy_88 : decode YOffice_calmedBy.2.1 88 = .ok (.iload 4, 2) := by decide +kernel
theorem dOffice_calmedBy_90 : decode YOffice_calmedBy.2.1 90 = .ok (.ireturn, 1) := by decide +kernel
theorem dOffice_ruledCouples_0 : decode YOffice_ruledCouples.2.1 0 = .ok (.iconst 0, 1) := by decide +kernel
theorem dOffice_ruledCouples_1 : decode YOffice_ruledCouples.2.1 1 = .ok (.istore_n 1, 1) := by decide +kernel
theorem dOffice_ruledCouples_2 : decode YOffice_ruledCouples.2.1 2 = .ok (.iconst 0, 1) := by decide +kernel
theorem dOffice_ruledCouples_3 : decode YOffice_ruledCouples.2.1 3 = .ok (.istore_n 2, 1) := by decide +kernel
theorem dOffice_ruledCouples_4 : decode YOffice_ruledCouples.2.1 4 = .ok (.iload_n 2, 1) := by decide +kernel
theorem dOffice_ruledCouples_5 : decode YOffice_ruledCouples.2.1 5 = .ok (.aload_n 0, 1) := by decide +kernel
theorem dOffice_ruledCouples_6 : decode YOffice_ruledCouples.2.1 6 = .ok (.getfield 40, 3) := by decide +kernel
theorem dOffice_ruledCouples_9 : decode YOffice_ruledCouples.2.1 9 = .ok (.if_icmp .ge 69, 3) := by decide +kernel
theorem dOffice_ruledCouples_12 : decode YOffice_ruledCouples.2.1 12 = .ok (.iload_n 2, 1) := by decide +kernel
theorem dOffice_ruledCouples_13 : decode YOffice_ruledCouples.2.1 13 = .ok (.iconst 1, 1) := by decide +kernel
theorem dOffice_ruledCouples_14 : decode YOffice_ruledCouples.2.1 14 = .ok (.iadd, 1) := by decide +kernel
theorem dOffice_ruledCouples_15 : decode YOffice_ruledCouples.2.1 15 = .ok (.istore_n 3, 1) := by decide +kernel
theorem dOffice_ruledCouples_16 : decode YOffice_ruledCouples.2.1 16 = .ok (.iload_n 3, 1) := by decide +kernel
theorem dOffice_ruledCouples_17 : decode YOffice_ruledCouples.2.1 17 = .ok (.aload_n 0, 1) := by decide +kernel
theorem dOffice_ruledCouples_18 : decode YOffice_ruledCouples.2.1 18 = .ok (.getfield 40, 3) := by decide +kernel
theorem dOffice_ruledCouples_21 : decode YOffice_ruledCouples.2.1 21 = .ok (.if_icmp .ge 51, 3) := by decide +kernel
theorem dOffice_ruledCouples_24 : decode YOffice_ruledCouples.2.1 24 = .ok (.aload_n 0, 1) := by decide +kernel
theorem dOffice_ruledCouples_25 : decode YOffice_ruledCouples.2.1 25 = .ok (.getfield 15, 3) := by decide +kernel
theorem dOffice_ruledCouples_28 : decode YOffice_ruledCouples.2.1 28 = .ok (.iload_n 2, 1) := by decide +kernel
theorem dOffice_ruledCouples_29 : decode YOffice_ruledCouples.2.1 29 = .ok (.iaload, 1) := by decide +kernel
theorem dOffice_ruledCouples_30 : decode YOffice_ruledCouples.2.1 30 = .ok (.aload_n 0, 1) := by decide +kernel
theorem dOffice_ruledCouples_31 : decode YOffice_ruledCouples.2.1 31 = .ok (.getfield 15, 3) := by decide +kernel
theorem dOffice_ruledCouples_34 : decode YOffice_ruledCouples.2.1 34 = .ok (.iload_n 3, 1) := by decide +kernel
theorem dOffice_ruledCouples_35 : decode YOffice_ruledCouples.2.1 35 = .ok (.iaload, 1) := by decide +kernel
theorem dOffice_ruledCouples_36 : decode YOffice_ruledCouples.2.1 36 = .ok (.if_icmp .ne 30, 3) := by decide +kernel
theorem dOffice_ruledCouples_39 : decode YOffice_ruledCouples.2.1 39 = .ok (.aload_n 0, 1) := by decide +kernel
theorem dOffice_ruledCouples_40 : decode YOffice_ruledCouples.2.1 40 = .ok (.getfield 33, 3) := by decide +kernel
theorem dOffice_ruledCouples_43 : decode YOffice_ruledCouples.2.1 43 = .ok (.iconst 4, 1) := by decide +kernel
theorem dOffice_ruledCouples_44 : decode YOffice_ruledCouples.2.1 44 = .ok (.aload_n 0, 1) := by decide +kernel
theorem dOffice_ruledCouples_45 : decode YOffice_ruledCouples.2.1 45 = .ok (.getfield 18, 3) := by decide +kernel
theorem dOffice_ruledCouples_48 : decode YOffice_ruledCouples.2.1 48 = .ok (.iload_n 2, 1) := by decide +kernel
theorem dOffice_ruledCouples_49 : decode YOffice_ruledCouples.2.1 49 = .ok (.iaload, 1) := by decide +kernel
theorem dOffice_ruledCouples_50 : decode YOffice_ruledCouples.2.1 50 = .ok (.imul, 1) := by decide +kernel
theorem dOffice_ruledCouples_51 : decode YOffice_ruledCouples.2.1 51 = .ok (.aload_n 0, 1) := by decide +kernel
theorem dOffice_ruledCouples_52 : decode YOffice_ruledCouples.2.1 52 = .ok (.getfield 18, 3) := by decide +kernel
theorem dOffice_ruledCouples_55 : decode YOffice_ruledCouples.2.1 55 = .ok (.iload_n 3, 1) := by decide +kernel
theorem dOffice_ruledCouples_56 : decode YOffice_ruledCouples.2.1 56 = .ok (.iaload, 1) := by decide +kernel
theorem dOffice_ruledCouples_57 : decode YOffice_ruledCouples.2.1 57 = .ok (.iadd, 1) := by decide +kernel
theorem dOffice_ruledCouples_58 : decode YOffice_ruledCouples.2.1 58 = .ok (.iaload, 1) := by decide +kernel
theorem dOffice_ruledCouples_59 : decode YOffice_ruledCouples.2.1 59 = .ok (.iconst (-1), 1) := by decide +kernel
theorem dOffice_ruledCouples_60 : decode YOffice_ruledCouples.2.1 60 = .ok (.if_icmp .eq 6, 3) := by decide +kernel
theorem dOffice_ruledCouples_63 : decode YOffice_ruledCouples.2.1 63 = .ok (.iinc 1 1, 3) := by decide +kernel
theorem dOffice_ruledCouples_66 : decode YOffice_ruledCouples.2.1 66 = .ok (.iinc 3 1, 3) := by decide +kernel
theorem dOffice_ruledCouples_69 : decode YOffice_ruledCouples.2.1 69 = .ok (.goto (-53), 3) := by decide +kernel
theorem dOffice_ruledCouples_72 : decode YOffice_ruledCouples.2.1 72 = .ok (.iinc 2 1, 3) := by decide +kernel
theorem dOffice_ruledCouples_75 : decode YOffice_ruledCouples.2.1 75 = .ok (.goto (-71), 3) := by decide +kernel
theorem dOffice_ruledCouples_78 : decode YOffice_ruledCouples.2.1 78 = .ok (.iload_n 1, 1) := by decide +kernel
theorem dOffice_ruledCouples_79 : decode YOffice_ruledCouples.2.1 79 = .ok (.ireturn, 1) := by decide +kernel
theorem dOrders_init_0 : decode YOrders_init.2.1 0 = .ok (.aload_n 0, 1) := by decide +kernel
theorem dOrders_init_1 : decode YOrders_init.2.1 1 = .ok (.invokespecial 3, 3) := by decide +kernel
theorem dOrders_init_4 : decode YOrders_init.2.1 4 = .ok (.aload_n 0, 1) := by decide +kernel
theorem dOrders_init_5 : decode YOrders_init.2.1 5 = .ok (.bipush 10, 2) := by decide +kernel
theorem dOrders_init_7 : decode YOrders_init.2.1 7 = .ok (.newarray .int, 2) := by decide +kernel
theorem dOrders_init_9 : decode YOrders_init.2.1 9 = .ok (.putfield 9, 3) := by decide +kernel
theorem dOrders_init_12 : decode YOrders_init.2.1 12 = .ok (.aload_n 0, 1) := by decide +kernel
theorem dOrders_init_13 : decode YOrders_init.2.1 13 = .ok (.bipush 10, 2) := by decide +kernel
theorem dOrders_init_15 : decode YOrders_init.2.1 15 = .ok (.newarray .int, 2) := by decide +kernel
theorem dOrders_init_17 : decode YOrders_init.2.1 17 = .ok (.putfield 15, 3) := by decide +kernel
theorem dOrders_init_20 : decode YOrders_init.2.1 20 = .ok (.aload_n 0, 1) := by decide +kernel
theorem dOrders_init_21 : decode YOrders_init.2.1 21 = .ok (.bipush 50, 2) := by decide +kernel
theorem dOrders_init_23 : decode YOrders_init.2.1 23 = .ok (.newarray .int, 2) := by decide +kernel
theorem dOrders_init_25 : decode YOrders_init.2.1 25 = .ok (.putfield 18, 3) := by decide +kernel
theorem dOrders_init_28 : decode YOrders_init.2.1 28 = .ok (.aload_n 0, 1) := by decide +kernel
theorem dOrders_init_29 : decode YOrders_init.2.1 29 = .ok (.sipush 5120, 3) := by decide +kernel
theorem dOrders_init_32 : decode YOrders_init.2.1 32 = .ok (.newarray .int, 2) := by decide +kernel
theorem dOrders_init_34 : decode YOrders_init.2.1 34 = .ok (.putfield 21, 3) := by decide +kernel
theorem dOrders_init_37 : decode YOrders_init.2.1 37 = .ok (.aload_n 0, 1) := by decide +kernel
theorem dOrders_init_38 : decode YOrders_init.2.1 38 = .ok (.bipush 6, 2) := by decide +kernel
theorem dOrders_init_40 : decode YOrders_init.2.1 40 = .ok (.newarray .int, 2) := by decide +kernel
theorem dOrders_init_42 : decode YOrders_init.2.1 42 = .ok (.putfield 24, 3) := by decide +kernel
theorem dOrders_init_45 : decode YOrders_init.2.1 45 = .ok (.aload_n 0, 1) := by decide +kernel
theorem dOrders_init_46 : decode YOrders_init.2.1 46 = .ok (.bipush 10, 2) := by decide +kernel
theorem dOrders_init_48 : decode YOrders_init.2.1 48 = .ok (.newarray .int, 2) := by decide +kernel
theorem dOrders_init_50 : decode YOrders_init.2.1 50 = .ok (.putfield 27, 3) := by decide +kernel
theorem dOrders_init_53 : decode YOrders_init.2.1 53 = .ok (.aload_n 0, 1) := by decide +kernel
theorem dOrders_init_54 : decode YOrders_init.2.1 54 = .ok (.new 30, 3) := by decide +kernel
theorem dOrders_init_57 : decode YOrders_init.2.1 57 = .ok (.dup, 1) := by decide +kernel
theorem dOrders_init_58 : decode YOrders_init.2.1 58 = .ok (.invokespecial 32, 3) := by decide +kernel
theorem dOrders_init_61 : decode YOrders_init.2.1 61 = .ok (.putfield 33, 3) := by decide +kernel
theorem dOrders_init_64 : decode YOrders_init.2.1 64 = .ok (.return_, 1) := by decide +kernel
theorem dOrders_moodOf_0 : decode YOrders_moodOf.2.1 0 = .ok (.iload 4, 2) := by decide +kernel
theorem dOrders_moodOf_2 : decode YOrders_moodOf.2.1 2 = .ok (.ifCond .eq 7, 3) := by decide +kernel
theorem dOrders_moodOf_5 : decode YOrders_moodOf.2.1 5 = .ok (.iconst (-1), 1) := by decide +kernel
theorem dOrders_moodOf_6 : decode YOrders_moodOf.2.1 6 = .ok (.goto 4, 3) := by decide +kernel
theorem dOrders_moodOf_9 : decode YOrders_moodOf.2.1 9 = .ok (.iconst 1, 1) := by decide +kernel
theorem dOrders_moodOf_10 : decode YOrders_moodOf.2.1 10 = .ok (.istore 5, 2) := by decide +kernel
theorem dOrders_moodOf_12 : decode YOrders_moodOf.2.1 12 = .ok (.aload_n 0, 1) := by decide +kernel
theorem dOrders_moodOf_13 : decode YOrders_moodOf.2.1 13 = .ok (.iconst 0, 1) := by decide +kernel
theorem dOrders_moodOf_14 : decode YOrders_moodOf.2.1 14 = .ok (.putfield 37, 3) := by decide +kernel
theorem dOrders_moodOf_17 : decode YOrders_moodOf.2.1 17 = .ok (.iconst 0, 1) := by decide +kernel
theorem dOrders_moodOf_18 : decode YOrders_moodOf.2.1 18 = .ok (.istore 6, 2) := by decide +kernel
theorem dOrders_moodOf_20 : decode YOrders_moodOf.2.1 20 = .ok (.iload 6, 2) := by decide +kernel
theorem dOrders_moodOf_22 : decode YOrders_moodOf.2.1 22 = .ok (.aload_n 1, 1) := by decide +kernel
theorem dOrders_moodOf_23 : decode YOrders_moodOf.2.1 23 = .ok (.getfield 41, 3) := by decide +kernel
theorem dOrders_moodOf_26 : decode YOrders_moodOf.2.1 26 = .ok (.if_icmp .ge 35, 3) := by decide +kernel
theorem dOrders_moodOf_29 : decode YOrders_moodOf.2.1 29 = .ok (.aload_n 1, 1) := by decide +kernel
theorem dOrders_moodOf_30 : decode YOrders_moodOf.2.1 30 = .ok (.getfield 44, 3) := by decide +kernel
theorem dOrders_moodOf_33 : decode YOrders_moodOf.2.1 33 = .ok (.iload 6, 2) := by decide +kernel
theorem dOrders_moodOf_35 : decode YOrders_moodOf.2.1 35 = .ok (.iaload, 1) := by decide +kernel
theorem dOrders_moodOf_36 : decode YOrders_moodOf.2.1 36 = .ok (.iload_n 2, 1) := by decide +kernel
theorem dOrders_moodOf_37 : decode YOrders_moodOf.2.1 37 = .ok (.if_icmp .ne 18, 3) := by decide +kernel
theorem dOrders_moodOf_40 : decode YOrders_moodOf.2.1 40 = .ok (.iload 6, 2) := by decide +kernel
theorem dOrders_moodOf_42 : decode YOrders_moodOf.2.1 42 = .ok (.iload_n 3, 1) := by decide +kernel
theorem dOrders_moodOf_43 : decode YOrders_moodOf.2.1 43 = .ok (.if_icmp .eq 12, 3) := by decide +kernel
theorem dOrders_moodOf_46 : decode YOrders_moodOf.2.1 46 = .ok (.aload_n 0, 1) := by decide +kernel
theorem dOrders_moodOf_47 : decode YOrders_moodOf.2.1 47 = .ok (.aload_n 1, 1) := by decide +kernel
theorem dOrders_moodOf_48 : decode YOrders_moodOf.2.1 48 = .ok (.iload 6, 2) := by decide +kernel
theorem dOrders_moodOf_50 : decode YOrders_moodOf.2.1 50 = .ok (.iload 5, 2) := by decide +kernel
theorem dOrders_moodOf_52 : decode YOrders_moodOf.2.1 52 = .ok (.invokevirtual 47, 3) := by decide +kernel
theorem dOrders_moodOf_55 : decode YOrders_moodOf.2.1 55 = .ok (.iinc 6 1, 3) := by decide +kernel
theorem dOrders_moodOf_58 : decode YOrders_moodOf.2.1 58 = .ok (.goto (-38), 3) := by decide +kernel
theorem dOrders_moodOf_61 : decode YOrders_moodOf.2.1 61 = .ok (.iconst 1, 1) := by decide +kernel
theorem dOrders_moodOf_62 : decode YOrders_moodOf.2.1 62 = .ok (.istore 6, 2) := by decide +kernel
theorem dOrders_moodOf_64 : decode YOrders_moodOf.2.1 64 = .ok (.iload 6, 2) := by decide +kernel
theorem dOrders_moodOf_66 : decode YOrders_moodOf.2.1 66 = .ok (.iconst 1, 1) := by decide +kernel
theorem dOrders_moodOf_67 : decode YOrders_moodOf.2.1 67 = .ok (.aload_n 0, 1) := by decide +kernel
theorem dOrders_moodOf_68 : decode YOrders_moodOf.2.1 68 = .ok (.getfield 37, 3) := by decide +kernel
theorem dOrders_moodOf_71 : decode YOrders_moodOf.2.1 71 = .ok (.ishl, 1) := by decide +kernel
theorem dOrders_moodOf_72 : decode YOrders_moodOf.2.1 72 = .ok (.if_icmp .ge 15, 3) := by decide +kernel
theorem dOrders_moodOf_75 : decode YOrders_moodOf.2.1 75 = .ok (.aload_n 0, 1) := by decide +kernel
theorem dOrders_moodOf_76 : decode YOrders_moodOf.2.1 76 = .ok (.iload 6, 2) := by decide +kernel
theorem dOrders_moodOf_78 : decode YOrders_moodOf.2.1 78 = .ok (.invokevirtual 51, 3) := by decide +kernel
theorem dOrders_moodOf_81 : decode YOrders_moodOf.2.1 81 = .ok (.iinc 6 1, 3) := by decide +kernel
theorem dOrders_moodOf_84 : decode YOrders_moodOf.2.1 84 = .ok (.goto (-20), 3) := by decide +kernel
theorem dOrders_moodOf_87 : decode YOrders_moodOf.2.1 87 = .ok (.aload_n 1, 1) := by decide +kernel
theorem dOrders_moodOf_88 : decode YOrders_moodOf.2.1 88 = .ok (.getfield 55, 3) := by decide +kernel
theorem dOrders_moodOf_91 : decode YOrders_moodOf.2.1 91 = .ok (.iload_n 2, 1) := by decide +kernel
theorem dOrders_moodOf_92 : decode YOrders_moodOf.2.1 92 = .ok (.iaload, 1) := by decide +kernel
theorem dOrders_moodOf_93 : decode YOrders_moodOf.2.1 93 = .ok (.iload 5, 2) := by decide +kernel
theorem dOrders_moodOf_95 : decode YOrders_moodOf.2.1 95 = .ok (.aload_n 0, 1) := by decide +kernel
theorem dOrders_moodOf_96 : decode YOrders_moodOf.2.1 96 = .ok (.getfield 21, 3) := by decide +kernel
theorem dOrders_moodOf_99 : decode YOrders_moodOf.2.1 99 = .ok (.iconst 5, 1) := by decide +kernel
theorem dOrders_moodOf_100 : decode YOrders_moodOf.2.1 100 = .ok (.iconst 1, 1) := by decide +kernel
theorem dOrders_moodOf_101 : decode YOrders_moodOf.2.1 101 = .ok (.aload_n 0, 1) := by decide +kernel
theorem dOrders_moodOf_102 : decode YOrders_moodOf.2.1 102 = .ok (.getfield 37, 3) := by decide +kernel
theorem dOrders_moodOf_105 : decode YOrders_moodOf.2.1 105 = .ok (.ishl, 1) := by decide +kernel
theorem dOrders_moodOf_106 : decode YOrders_moodOf.2.1 106 = .ok (.iconst 1, 1) := by decide +kernel
theorem dOrders_moodOf_107 : decode YOrders_moodOf.2.1 107 = .ok (.isub, 1) := by decide +kernel
theorem dOrders_moodOf_108 : decode YOrders_moodOf.2.1 108 = .ok (.imul, 1) := by decide +kernel
theorem dOrders_moodOf_109 : decode YOrders_moodOf.2.1 109 = .ok (.iconst 4, 1) := by decide +kernel
theorem dOrders_moodOf_110 : decode YOrders_moodOf.2.1 110 = .ok (.iadd, 1) := by decide +kernel
theorem dOrders_moodOf_111 : decode YOrders_moodOf.2.1 111 = .ok (.iaload, 1) := by decide +kernel
theorem dOrders_moodOf_112 : decode YOrders_moodOf.2.1 112 = .ok (.imul, 1) := by decide +kernel
theorem dOrders_moodOf_113 : decode YOrders_moodOf.2.1 113 = .ok (.iadd, 1) := by decide +kernel
theorem dOrders_moodOf_114 : decode YOrders_moodOf.2.1 114 = .ok (.ireturn, 1) := by decide +kernel
theorem dOrders_addToGroup_0 : decode YOrders_addToGroup.2.1 0 = .ok (.aload_n 0, 1) := by decide +kernel
theorem dOrders_addToGroup_1 : decode YOrders_addToGroup.2.1 1 = .ok (.getfield 9, 3) := by decide +kernel
theorem dOrders_addToGroup_4 : decode YOrders_addToGroup.2.1 4 = .ok (.aload_n 0, 1) := by decide +kernel
theorem dOrders_addToGroup_5 : decode YOrders_addToGroup.2.1 5 = .ok (.getfield 37, 3) := by decide +kernel
theorem dOrders_addToGroup_8 : decode YOrders_addToGroup.2.1 8 = .ok (.iload_n 2, 1) := by decide +kernel
theorem dOrders_addToGroup_9 : decode YOrders_addToGroup.2.1 9 = .ok (.iastore, 1) := by decide +kernel
theorem dOrders_addToGroup_10 : decode YOrders_addToGroup.2.1 10 = .ok (.aload_n 0, 1) := by decide +kernel
theorem dOrders_addToGroup_11 : decode YOrders_addToGroup.2.1 11 = .ok (.getfield 15, 3) := by decide +kernel
theorem dOrders_addToGroup_14 : decode YOrders_addToGroup.2.1 14 = .ok (.aload_n 0, 1) := by decide +kernel
theorem dOrders_addToGroup_15 : decode YOrders_addToGroup.2.1 15 = .ok (.getfield 37, 3) := by decide +kernel
theorem dOrders_addToGroup_18 : decode YOrders_addToGroup.2.1 18 = .ok (.aload_n 1, 1) := by decide +kernel
theorem dOrders_addToGroup_19 : decode YOrders_addToGroup.2.1 19 = .ok (.getfield 58, 3) := by decide +kernel
theorem dOrders_addToGroup_22 : decode YOrders_addToGroup.2.1 22 = .ok (.iload_n 2, 1) := by decide +kernel
theorem dOrders_addToGroup_23 : decode YOrders_addToGroup.2.1 23 = .ok (.iaload, 1) := by decide +kernel
theorem dOrders_addToGroup_24 : decode YOrders_addToGroup.2.1 24 = .ok (.iastore, 1) := by decide +kernel
theorem dOrders_addToGroup_25 : decode YOrders_addToGroup.2.1 25 = .ok (.iconst 0, 1) := by decide +kernel
theorem dOrders_addToGroup_26 : decode YOrders_addToGroup.2.1 26 = .ok (.istore 4, 2) := by decide +kernel
theorem dOrders_addToGroup_28 : decode YOrders_addToGroup.2.1 28 = .ok (.iload 4, 2) := by decide +kernel
theorem dOrders_addToGroup_30 : decode YOrders_addToGroup.2.1 30 = .ok (.iconst 5, 1) := by decide +kernel
theorem dOrders_addToGroup_31 : decode YOrders_addToGroup.2.1 31 = .ok (.if_icmp .ge 46, 3) := by decide +kernel
theorem dOrders_addToGroup_34 : decode YOrders_addToGroup.2.1 34 = .ok (.iload 4, 2) := by decide +kernel
theorem dOrders_addToGroup_36 : decode YOrders_addToGroup.2.1 36 = .ok (.iconst 4, 1) := by decide +kernel
theorem dOrders_addToGroup_37 : decode YOrders_addToGroup.2.1 37 = .ok (.if_icmp .ne 7, 3) := by decide +kernel
theorem dOrders_addToGroup_40 : decode YOrders_addToGroup.2.1 40 = .ok (.iconst (-1), 1) := by decide +kernel
theorem dOrders_addToGroup_41 : decode YOrders_addToGroup.2.1 41 = .ok (.goto 5, 3) := by decide +kernel
theorem dOrders_addToGroup_44 : decode YOrders_addToGroup.2.1 44 = .ok (.iload 4, 2) := by decide +kernel
theorem dOrders_addToGroup_46 : decode YOrders_addToGroup.2.1 46 = .ok (.istore 5, 2) := by decide +kernel
theorem dOrders_addToGroup_48 : decode YOrders_addToGroup.2.1 48 = .ok (.aload_n 0, 1) := by decide +kernel
theorem dOrders_addToGroup_49 : decode YOrders_addToGroup.2.1 49 = .ok (.getfield 18, 3) := by decide +kernel
theorem dOrders_addToGroup_52 : decode YOrders_addToGroup.2.1 52 = .ok (.iconst 5, 1) := by decide +kernel
theorem dOrders_addToGroup_53 : decode YOrders_addToGroup.2.1 53 = .ok (.aload_n 0, 1) := by decide +kernel
theorem dOrders_addToGroup_54 : decode YOrders_addToGroup.2.1 54 = .ok (.getfield 37, 3) := by decide +kernel
theorem dOrders_addToGroup_57 : decode YOrders_addToGroup.2.1 57 = .ok (.imul, 1) := by decide +kernel
theorem dOrders_addToGroup_58 : decode YOrders_addToGroup.2.1 58 = .ok (.iload 4, 2) := by decide +kernel
theorem dOrders_addToGroup_60 : decode YOrders_addToGroup.2.1 60 = .ok (.iadd, 1) := by decide +kernel
theorem dOrders_addToGroup_61 : decode YOrders_addToGroup.2.1 61 = .ok (.iload_n 3, 1) := by decide +kernel
theorem dOrders_addToGroup_62 : decode YOrders_addToGroup.2.1 62 = .ok (.aload_n 1, 1) := by decide +kernel
theorem dOrders_addToGroup_63 : decode YOrders_addToGroup.2.1 63 = .ok (.iload_n 2, 1) := by decide +kernel
theorem dOrders_addToGroup_64 : decode YOrders_addToGroup.2.1 64 = .ok (.iload 5, 2) := by decide +kernel
theorem dOrders_addToGroup_66 : decode YOrders_addToGroup.2.1 66 = .ok (.invokevirtual 59, 3) := by decide +kernel
theorem dOrders_addToGroup_69 : decode YOrders_addToGroup.2.1 69 = .ok (.imul, 1) := by decide +kernel
theorem dOrders_addToGroup_70 : decode YOrders_addToGroup.2.1 70 = .ok (.iastore, 1) := by decide +kernel
theorem dOrders_addToGroup_71 : decode YOrders_addToGroup.2.1 71 = .ok (.iinc 4 1, 3) := by decide +kernel
theorem dOrders_addToGroup_74 : decode YOrders_addToGroup.2.1 74 = .ok (.goto (-46), 3) := by decide +kernel
theorem dOrders_addToGroup_77 : decode YOrders_addToGroup.2.1 77 = .ok (.aload_n 0, 1) := by decide +kernel
theorem dOrders_addToGroup_78 : decode YOrders_addToGroup.2.1 78 = .ok (.dup, 1) := by decide +kernel
theorem dOrders_addToGroup_79 : decode YOrders_addToGroup.2.1 79 = .ok (.getfield 37, 3) := by decide +kernel
theorem dOrders_addToGroup_82 : decode YOrders_addToGroup.2.1 82 = .ok (.iconst 1, 1) := by decide +kernel
theorem dOrders_addToGroup_83 : decode YOrders_addToGroup.2.1 83 = .ok (.iadd, 1) := by decide +kernel
theorem dOrders_addToGroup_84 : decode YOrders_addToGroup.2.1 84 = .ok (.putfield 37, 3) := by decide +kernel
theorem dOrders_addToGroup_87 : decode YOrders_addToGroup.2.1 87 = .ok (.return_, 1) := by decide +kernel
theorem dOrders_fillGains_0 : decode YOrders_fillGains.2.1 0 = .ok (.iconst 5, 1) := by decide +kernel
theorem dOrders_fillGains_1 : decode YOrders_fillGains.2.1 1 = .ok (.iload_n 1, 1) := by decide +kernel
theorem dOrders_fillGains_2 : decode YOrders_fillGains.2.1 2 = .ok (.imul, 1) := by decide +kernel
theorem dOrders_fillGains_3 : decode YOrders_fillGains.2.1 3 = .ok (.istore_n 2, 1) := by decide +kernel
theorem dOrders_fillGains_4 : decode YOrders_fillGains.2.1 4 = .ok (.iconst 0, 1) := by decide +kernel
theorem dOrders_fillGains_5 : decode YOrders_fillGains.2.1 5 = .ok (.istore_n 3, 1) := by decide +kernel
theorem dOrders_fillGains_6 : decode YOrders_fillGains.2.1 6 = .ok (.iconst 0, 1) := by decide +kernel
theorem dOrders_fillGains_7 : decode YOrders_fillGains.2.1 7 = .ok (.istore 4, 2) := by decide +kernel
theorem dOrders_fillGains_9 : decode YOrders_fillGains.2.1 9 = .ok (.iload 4, 2) := by decide +kernel
theorem dOrders_fillGains_11 : decode YOrders_fillGains.2.1 11 = .ok (.aload_n 0, 1) := by decide +kernel
theorem dOrders_fillGains_12 : decode YOrders_fillGains.2.1 12 = .ok (.getfield 37, 3) := by decide +kernel
theorem dOrders_fillGains_15 : decode YOrders_fillGains.2.1 15 = .ok (.if_icmp .ge 107, 3) := by decide +kernel
theorem dOrders_fillGains_18 : decode YOrders_fillGains.2.1 18 = .ok (.iload_n 1, 1) := by decide +kernel
theorem dOrders_fillGains_19 : decode YOrders_fillGains.2.1 19 = .ok (.iload 4, 2) := by decide +kernel
theorem dOrders_fillGains_21 : decode YOrders_fillGains.2.1 21 = .ok (.ishr, 1) := by decide +kernel
theorem dOrders_fillGains_22 : decode YOrders_fillGains.2.1 22 = .ok (.iconst 1, 1) := by decide +kernel
theorem dOrders_fillGains_23 : decode YOrders_fillGains.2.1 23 = .ok (.iand, 1) := by decide +kernel
theorem dOrders_fillGains_24 : decode YOrders_fillGains.2.1 24 = .ok (.iconst 1, 1) := by decide +kernel
theorem dOrders_fillGains_25 : decode YOrders_fillGains.2.1 25 = .ok (.if_icmp .ne 91, 3) := by decide +kernel
theorem dOrders_fillGains_28 : decode YOrders_fillGains.2.1 28 = .ok (.aload_n 0, 1) := by decide +kernel
theorem dOrders_fillGains_29 : decode YOrders_fillGains.2.1 29 = .ok (.getfield 21, 3) := by decide +kernel
theorem dOrders_fillGains_32 : decode YOrders_fillGains.2.1 32 = .ok (.iconst 5, 1) := by decide +kernel
theorem dOrders_fillGains_33 : decode YOrders_fillGains.2.1 33 = .ok (.iload_n 1, 1) := by decide +kernel
theorem dOrders_fillGains_34 : decode YOrders_fillGains.2.1 34 = .ok (.iconst 1, 1) := by decide +kernel
theorem dOrders_fillGains_35 : decode YOrders_fillGains.2.1 35 = .ok (.iload 4, 2) := by decide +kernel
theorem dOrders_fillGains_37 : decode YOrders_fillGains.2.1 37 = .ok (.ishl, 1) := by decide +kernel
theorem dOrders_fillGains_38 : decode YOrders_fillGains.2.1 38 = .ok (.iconst (-1), 1) := by decide +kernel
theorem dOrders_fillGains_39 : decode YOrders_fillGains.2.1 39 = .ok (.ixor, 1) := by decide +kernel
theorem dOrders_fillGains_40 : decode YOrders_fillGains.2.1 40 = .ok (.iand, 1) := by decide +kernel
theorem dOrders_fillGains_41 : decode YOrders_fillGains.2.1 41 = .ok (.imul, 1) := by decide +kernel
theorem dOrders_fillGains_42 : decode YOrders_fillGains.2.1 42 = .ok (.aload_n 0, 1) := by decide +kernel
theorem dOrders_fillGains_43 : decode YOrders_fillGains.2.1 43 = .ok (.getfield 15, 3) := by decide +kernel
theorem dOrders_fillGains_46 : decode YOrders_fillGains.2.1 46 = .ok (.iload 4, 2) := by decide +kernel
theorem dOrders_fillGains_48 : decode YOrders_fillGains.2.1 48 = .ok (.iaload, 1) := by decide +kernel
theorem dOrders_fillGains_49 : decode YOrders_fillGains.2.1 49 = .ok (.iadd, 1) := by decide +kernel
theorem dOrders_fillGains_50 : decode YOrders_fillGains.2.1 50 = .ok (.iaload, 1) := by decide +kernel
theorem dOrders_fillGains_51 : decode YOrders_fillGains.2.1 51 = .ok (.istore 5, 2) := by decide +kernel
theorem dOrders_fillGains_53 : decode YOrders_fillGains.2.1 53 = .ok (.iconst 0, 1) := by decide +kernel
theorem dOrders_fillGains_54 : decode YOrders_fillGains.2.1 54 = .ok (.istore 6, 2) := by decide +kernel
theorem dOrders_fillGains_56 : decode YOrders_fillGains.2.1 56 = .ok (.iload 6, 2) := by decide +kernel
theorem dOrders_fillGains_58 : decode YOrders_fillGains.2.1 58 = .ok (.iconst 5, 1) := by decide +kernel
theorem dOrders_fillGains_59 : decode YOrders_fillGains.2.1 59 = .ok (.if_icmp .ge 55, 3) := by decide +kernel
theorem dOrders_fillGains_62 : decode YOrders_fillGains.2.1 62 = .ok (.aload_n 0, 1) := by decide +kernel
theorem dOrders_fillGains_63 : decode YOrders_fillGains.2.1 63 = .ok (.getfield 18, 3) := by decide +kernel
theorem dOrders_fillGains_66 : decode YOrders_fillGains.2.1 66 = .ok (.iconst 5, 1) := by decide +kernel
theorem dOrders_fillGains_67 : decode YOrders_fillGains.2.1 67 = .ok (.iload 4, 2) := by decide +kernel
theorem dOrders_fillGains_69 : decode YOrders_fillGains.2.1 69 = .ok (.imul, 1) := by decide +kernel
theorem dOrders_fillGains_70 : decode YOrders_fillGains.2.1 70 = .ok (.iload 6, 2) := by decide +kernel
theorem dOrders_fillGains_72 : decode YOrders_fillGains.2.1 72 = .ok (.iadd, 1) := by decide +kernel
theorem dOrders_fillGains_73 : decode YOrders_fillGains.2.1 73 = .ok (.iaload, 1) := by decide +kernel
theorem dOrders_fillGains_74 : decode YOrders_fillGains.2.1 74 = .ok (.iload 5, 2) := by decide +kernel
theorem dOrders_fillGains_76 : decode YOrders_fillGains.2.1 76 = .ok (.iadd, 1) := by decide +kernel
theorem dOrders_fillGains_77 : decode YOrders_fillGains.2.1 77 = .ok (.istore 7, 2) := by decide +kernel
theorem dOrders_fillGains_79 : decode YOrders_fillGains.2.1 79 = .ok (.iload_n 3, 1) := by decide +kernel
theorem dOrders_fillGains_80 : decode YOrders_fillGains.2.1 80 = .ok (.ifCond .eq 17, 3) := by decide +kernel
theorem dOrders_fillGains_83 : decode YOrders_fillGains.2.1 83 = .ok (.iload 7, 2) := by decide +kernel
theorem dOrders_fillGains_85 : decode YOrders_fillGains.2.1 85 = .ok (.aload_n 0, 1) := by decide +kernel
theorem dOrders_fillGains_86 : decode YOrders_fillGains.2.1 86 = .ok (.getfield 21, 3) := by decide +kernel
theorem dOrders_fillGains_89 : decode YOrders_fillGains.2.1 89 = .ok (.iload_n 2, 1) := by decide +kernel
theorem dOrders_fillGains_90 : decode YOrders_fillGains.2.1 90 = .ok (.iload 6, 2) := by decide +kernel
theorem dOrders_fillGains_92 : decode YOrders_fillGains.2.1 92 = .ok (.iadd, 1) := by decide +kernel
theorem dOrders_fillGains_93 : decode YOrders_fillGains.2.1 93 = .ok (.iaload, 1) := by decide +kernel
theorem dOrders_fillGains_94 : decode YOrders_fillGains.2.1 94 = .ok (.if_icmp .le 14, 3) := by decide +kernel
theorem dOrders_fillGains_97 : decode YOrders_fillGains.2.1 97 = .ok (.aload_n 0, 1) := by decide +kernel
theorem dOrders_fillGains_98 : decode YOrders_fillGains.2.1 98 = .ok (.getfield 21, 3) := by decide +kernel
theorem dOrders_fillGains_101 : decode YOrders_fillGains.2.1 101 = .ok (.iload_n 2, 1) := by decide +kernel
theorem dOrders_fillGains_102 : decode YOrders_fillGains.2.1 102 = .ok (.iload 6, 2) := by decide +kernel
theorem dOrders_fillGains_104 : decode YOrders_fillGains.2.1 104 = .ok (.iadd, 1) := by decide +kernel
theorem dOrders_fillGains_105 : decode YOrders_fillGains.2.1 105 = .ok (.iload 7, 2) := by decide +kernel
theorem dOrders_fillGains_107 : decode YOrders_fillGains.2.1 107 = .ok (.iastore, 1) := by decide +kernel
theorem dOrders_fillGains_108 : decode YOrders_fillGains.2.1 108 = .ok (.iinc 6 1, 3) := by decide +kernel
theorem dOrders_fillGains_111 : decode YOrders_fillGains.2.1 111 = .ok (.goto (-55), 3) := by decide +kernel
theorem dOrders_fillGains_114 : decode YOrders_fillGains.2.1 114 = .ok (.iconst 1, 1) := by decide +kernel
theorem dOrders_fillGains_115 : decode YOrders_fillGains.2.1 115 = .ok (.istore_n 3, 1) := by decide +kernel
theorem dOrders_fillGains_116 : decode YOrders_fillGains.2.1 116 = .ok (.iinc 4 1, 3) := by decide +kernel
theorem dOrders_fillGains_119 : decode YOrders_fillGains.2.1 119 = .ok (.goto (-110), 3) := by decide +kernel
theorem dOrders_fillGains_122 : decode YOrders_fillGains.2.1 122 = .ok (.return_, 1) := by decide +kernel
theorem dOrders_letterAt_0 : decode YOrders_letterAt.2.1 0 = .ok (.iconst 1, 1) := by decide +kernel
theorem dOrders_letterAt_1 : decode YOrders_letterAt.2.1 1 = .ok (.aload_n 0, 1) := by decide +kernel
theorem dOrders_letterAt_2 : decode YOrders_letterAt.2.1 2 = .ok (.getfield 37, 3) := by decide +kernel
theorem dOrders_letterAt_5 : decode YOrders_letterAt.2.1 5 = .ok (.ishl, 1) := by decide +kernel
theorem dOrders_letterAt_6 : decode YOrders_letterAt.2.1 6 = .ok (.iconst 1, 1) := by decide +kernel
theorem dOrders_letterAt_7 : decode YOrders_letterAt.2.1 7 = .ok (.isub, 1) := by decide +kernel
theorem dOrders_letterAt_8 : decode YOrders_letterAt.2.1 8 = .ok (.istore_n 2, 1) := by decide +kernel
theorem dOrders_letterAt_9 : decode YOrders_letterAt.2.1 9 = .ok (.iconst 4, 1) := by decide +kernel
theorem dOrders_letterAt_10 : decode YOrders_letterAt.2.1 10 = .ok (.istore_n 3, 1) := by decide +kernel
theorem dOrders_letterAt_11 : decode YOrders_letterAt.2.1 11 = .ok (.iconst 0, 1) := by decide +kernel
theorem dOrders_letterAt_12 : decode YOrders_letterAt.2.1 12 = .ok (.istore 4, 2) := by decide +kernel
theorem dOrders_letterAt_14 : decode YOrders_letterAt.2.1 14 = .ok (.iload 4, 2) := by decide +kernel
theorem dOrders_letterAt_16 : decode YOrders_letterAt.2.1 16 = .ok (.aload_n 0, 1) := by decide +kernel
theorem dOrders_letterAt_17 : decode YOrders_letterAt.2.1 17 = .ok (.getfield 37, 3) := by decide +kernel
theorem dOrders_letterAt_20 : decode YOrders_letterAt.2.1 20 = .ok (.if_icmp .ge 48, 3) := by decide +kernel
theorem dOrders_letterAt_23 : decode YOrders_letterAt.2.1 23 = .ok (.aload_n 0, 1) := by decide +kernel
theorem dOrders_letterAt_24 : decode YOrders_letterAt.2.1 24 = .ok (.iload_n 2, 1) := by decide +kernel
theorem dOrders_letterAt_25 : decode YOrders_letterAt.2.1 25 = .ok (.iload_n 3, 1) := by decide +kernel
theorem dOrders_letterAt_26 : decode YOrders_letterAt.2.1 26 = .ok (.invokevirtual 63, 3) := by decide +kernel
theorem dOrders_letterAt_29 : decode YOrders_letterAt.2.1 29 = .ok (.istore 5, 2) := by decide +kernel
theorem dOrders_letterAt_31 : decode YOrders_letterAt.2.1 31 = .ok (.iload 4, 2) := by decide +kernel
theorem dOrders_letterAt_33 : decode YOrders_letterAt.2.1 33 = .ok (.iload_n 1, 1) := by decide +kernel
theorem dOrders_letterAt_34 : decode YOrders_letterAt.2.1 34 = .ok (.if_icmp .ne 11, 3) := by decide +kernel
theorem dOrders_letterAt_37 : decode YOrders_letterAt.2.1 37 = .ok (.aload_n 0, 1) := by decide +kernel
theorem dOrders_letterAt_38 : decode YOrders_letterAt.2.1 38 = .ok (.getfield 9, 3) := by decide +kernel
theorem dOrders_letterAt_41 : decode YOrders_letterAt.2.1 41 = .ok (.iload 5, 2) := by decide +kernel
theorem dOrders_letterAt_43 : decode YOrders_letterAt.2.1 43 = .ok (.iaload, 1) := by decide +kernel
theorem dOrders_letterAt_44 : decode YOrders_letterAt.2.1 44 = .ok (.ireturn, 1) := by decide +kernel
theorem dOrders_letterAt_45 : decode YOrders_letterAt.2.1 45 = .ok (.iload_n 2, 1) := by decide +kernel
theorem dOrders_letterAt_46 : decode YOrders_letterAt.2.1 46 = .ok (.iconst 1, 1) := by decide +kernel
theorem dOrders_letterAt_47 : decode YOrders_letterAt.2.1 47 = .ok (.iload 5, 2) := by decide +kernel
theorem dOrders_letterAt_49 : decode YOrders_letterAt.2.1 49 = .ok (.ishl, 1) := by decide +kernel
theorem dOrders_letterAt_50 : decode YOrders_letterAt.2.1 50 = .ok (.iconst (-1), 1) := by decide +kernel
theorem dOrders_letterAt_51 : decode YOrders_letterAt.2.1 51 = .ok (.ixor, 1) := by decide +kernel
theorem dOrders_letterAt_52 : decode YOrders_letterAt.2.1 52 = .ok (.iand, 1) := by decide +kernel
theorem dOrders_letterAt_53 : decode YOrders_letterAt.2.1 53 = .ok (.istore_n 2, 1) := by decide +kernel
theorem dOrders_letterAt_54 : decode YOrders_letterAt.2.1 54 = .ok (.aload_n 0, 1) := by decide +kernel
theorem dOrders_letterAt_55 : decode YOrders_letterAt.2.1 55 = .ok (.getfield 15, 3) := by decide +kernel
theorem dOrders_letterAt_58 : decode YOrders_letterAt.2.1 58 = .ok (.iload 5, 2) := by decide +kernel
theorem dOrders_letterAt_60 : decode YOrders_letterAt.2.1 60 = .ok (.iaload, 1) := by decide +kernel
theorem dOrders_letterAt_61 : decode YOrders_letterAt.2.1 61 = .ok (.istore_n 3, 1) := by decide +kernel
theorem dOrders_letterAt_62 : decode YOrders_letterAt.2.1 62 = .ok (.iinc 4 1, 3) := by decide +kernel
theorem dOrders_letterAt_65 : decode YOrders_letterAt.2.1 65 = .ok (.goto (-51), 3) := by decide +kernel
theorem dOrders_letterAt_68 : decode YOrders_letterAt.2.1 68 = .ok (.sipush (-1000), 3) := by decide +kernel
theorem dOrders_letterAt_71 : decode YOrders_letterAt.2.1 71 = .ok (.ireturn, 1) := by decide +kernel
theorem dOrders_firstPlace_0 : decode YOrders_firstPlace.2.1 0 = .ok (.iconst 0, 1) := by decide +kernel
theorem dOrders_firstPlace_1 : decode YOrders_firstPlace.2.1 1 = .ok (.istore_n 3, 1) := by decide +kernel
theorem dOrders_firstPlace_2 : decode YOrders_firstPlace.2.1 2 = .ok (.iload_n 3, 1) := by decide +kernel
theorem dOrders_firstPlace_3 : decode YOrders_firstPlace.2.1 3 = .ok (.aload_n 0, 1) := by decide +kernel
theorem dOrders_firstPlace_4 : decode YOrders_firstPlace.2.1 4 = .ok (.getfield 37, 3) := by decide +kernel
theorem dOrders_firstPlace_7 : decode YOrders_firstPlace.2.1 7 = .ok (.if_icmp .ge 69, 3) := by decide +kernel
theorem dOrders_firstPlace_10 : decode YOrders_firstPlace.2.1 10 = .ok (.iload_n 1, 1) := by decide +kernel
theorem dOrders_firstPlace_11 : decode YOrders_firstPlace.2.1 11 = .ok (.iload_n 3, 1) := by decide +kernel
theorem dOrders_firstPlace_12 : decode YOrders_firstPlace.2.1 12 = .ok (.ishr, 1) := by decide +kernel
theorem dOrders_firstPlace_13 : decode YOrders_firstPlace.2.1 13 = .ok (.iconst 1, 1) := by decide +kernel
theorem dOrders_firstPlace_14 : decode YOrders_firstPlace.2.1 14 = .ok (.iand, 1) := by decide +kernel
theorem dOrders_firstPlace_15 : decode YOrders_firstPlace.2.1 15 = .ok (.iconst 1, 1) := by decide +kernel
theorem dOrders_firstPlace_16 : decode YOrders_firstPlace.2.1 16 = .ok (.if_icmp .ne 54, 3) := by decide +kernel
theorem dOrders_firstPlace_19 : decode YOrders_firstPlace.2.1 19 = .ok (.aload_n 0, 1) := by decide +kernel
theorem dOrders_firstPlace_20 : decode YOrders_firstPlace.2.1 20 = .ok (.getfield 21, 3) := by decide +kernel
theorem dOrders_firstPlace_23 : decode YOrders_firstPlace.2.1 23 = .ok (.iconst 5, 1) := by decide +kernel
theorem dOrders_firstPlace_24 : decode YOrders_firstPlace.2.1 24 = .ok (.iload_n 1, 1) := by decide +kernel
theorem dOrders_firstPlace_25 : decode YOrders_firstPlace.2.1 25 = .ok (.iconst 1, 1) := by decide +kernel
theorem dOrders_firstPlace_26 : decode YOrders_firstPlace.2.1 26 = .ok (.iload_n 3, 1) := by decide +kernel
theorem dOrders_firstPlace_27 : decode YOrders_firstPlace.2.1 27 = .ok (.ishl, 1) := by decide +kernel
theorem dOrders_firstPlace_28 : decode YOrders_firstPlace.2.1 28 = .ok (.iconst (-1), 1) := by decide +kernel
theorem dOrders_firstPlace_29 : decode YOrders_firstPlace.2.1 29 = .ok (.ixor, 1) := by decide +kernel
theorem dOrders_firstPlace_30 : decode YOrders_firstPlace.2.1 30 = .ok (.iand, 1) := by decide +kernel
theorem dOrders_firstPlace_31 : decode YOrders_firstPlace.2.1 31 = .ok (.imul, 1) := by decide +kernel
theorem dOrders_firstPlace_32 : decode YOrders_firstPlace.2.1 32 = .ok (.aload_n 0, 1) := by decide +kernel
theorem dOrders_firstPlace_33 : decode YOrders_firstPlace.2.1 33 = .ok (.getfield 15, 3) := by decide +kernel
theorem dOrders_firstPlace_36 : decode YOrders_firstPlace.2.1 36 = .ok (.iload_n 3, 1) := by decide +kernel
theorem dOrders_firstPlace_37 : decode YOrders_firstPlace.2.1 37 = .ok (.iaload, 1) := by decide +kernel
theorem dOrders_firstPlace_38 : decode YOrders_firstPlace.2.1 38 = .ok (.iadd, 1) := by decide +kernel
theorem dOrders_firstPlace_39 : decode YOrders_firstPlace.2.1 39 = .ok (.iaload, 1) := by decide +kernel
theorem dOrders_firstPlace_40 : decode YOrders_firstPlace.2.1 40 = .ok (.istore 4, 2) := by decide +kernel
theorem dOrders_firstPlace_42 : decode YOrders_firstPlace.2.1 42 = .ok (.aload_n 0, 1) := by decide +kernel
theorem dOrders_firstPlace_43 : decode YOrders_firstPlace.2.1 43 = .ok (.getfield 18, 3) := by decide +kernel
theorem dOrders_firstPlace_46 : decode YOrders_firstPlace.2.1 46 = .ok (.iconst 5, 1) := by decide +kernel
theorem dOrders_firstPlace_47 : decode YOrders_firstPlace.2.1 47 = .ok (.iload_n 3, 1) := by decide +kernel
theorem dOrders_firstPlace_48 : decode YOrders_firstPlace.2.1 48 = .ok (.imul, 1) := by decide +kernel
theorem dOrders_firstPlace_49 : decode YOrders_firstPlace.2.1 49 = .ok (.iload_n 2, 1) := by decide +kernel
theorem dOrders_firstPlace_50 : decode YOrders_firstPlace.2.1 50 = .ok (.iadd, 1) := by decide +kernel
theorem dOrders_firstPlace_51 : decode YOrders_firstPlace.2.1 51 = .ok (.iaload, 1) := by decide +kernel
theorem dOrders_firstPlace_52 : decode YOrders_firstPlace.2.1 52 = .ok (.iload 4, 2) := by decide +kernel
theorem dOrders_firstPlace_54 : decode YOrders_firstPlace.2.1 54 = .ok (.iadd, 1) := by decide +kernel
theorem dOrders_firstPlace_55 : decode YOrders_firstPlace.2.1 55 = .ok (.aload_n 0, 1) := by decide +kernel
theorem dOrders_firstPlace_56 : decode YOrders_firstPlace.2.1 56 = .ok (.getfield 21, 3) := by decide +kernel
theorem dOrders_firstPlace_59 : decode YOrders_firstPlace.2.1 59 = .ok (.iconst 5, 1) := by decide +kernel
theorem dOrders_firstPlace_60 : decode YOrders_firstPlace.2.1 60 = .ok (.iload_n 1, 1) := by decide +kernel
theorem dOrders_firstPlace_61 : decode YOrders_firstPlace.2.1 61 = .ok (.imul, 1) := by decide +kernel
theorem dOrders_firstPlace_62 : decode YOrders_firstPlace.2.1 62 = .ok (.iload_n 2, 1) := by decide +kernel
theorem dOrders_firstPlace_63 : decode YOrders_firstPlace.2.1 63 = .ok (.iadd, 1) := by decide +kernel
theorem dOrders_firstPlace_64 : decode YOrders_firstPlace.2.1 64 = .ok (.iaload, 1) := by decide +kernel
theorem dOrders_firstPlace_65 : decode YOrders_firstPlace.2.1 65 = .ok (.if_icmp .ne 5, 3) := by decide +kernel
theorem dOrders_firstPlace_68 : decode YOrders_firstPlace.2.1 68 = .ok (.iload_n 3, 1) := by decide +kernel
theorem dOrders_firstPlace_69 : decode YOrders_firstPlace.2.1 69 = .ok (.ireturn, 1) := by decide +kernel
theorem dOrders_firstPlace_70 : decode YOrders_firstPlace.2.1 70 = .ok (.iinc 3 1, 3) := by decide +kernel
theorem dOrders_firstPlace_73 : decode YOrders_firstPlace.2.1 73 = .ok (.goto (-71), 3) := by decide +kernel
theorem dOrders_firstPlace_76 : decode YOrders_firstPlace.2.1 76 = .ok (.iconst 0, 1) := by decide +kernel
theorem dOrders_firstPlace_77 : decode YOrders_firstPlace.2.1 77 = .ok (.ireturn, 1) := by decide +kernel
theorem dOrders_together_0 : decode YOrders_together.2.1 0 = .ok (.iconst 0, 1) := by decide +kernel
theorem dOrders_together_1 : decode YOrders_together.2.1 1 = .ok (.istore_n 2, 1) := by decide +kernel
theorem dOrders_together_2 : decode YOrders_together.2.1 2 = .ok (.iconst 0, 1) := by decide +kernel
theorem dOrders_together_3 : decode YOrders_together.2.1 3 = .ok (.istore_n 3, 1) := by decide +kernel
theorem dOrders_together_4 : decode YOrders_together.2.1 4 = .ok (.iload_n 3, 1) := by decide +kernel
theorem dOrders_together_5 : decode YOrders_together.2.1 5 = .ok (.aload_n 1, 1) := by decide +kernel
theorem dOrders_together_6 : decode YOrders_together.2.1 6 = .ok (.getfield 66, 3) := by decide +kernel
theorem dOrders_together_9 : decode YOrders_together.2.1 9 = .ok (.if_icmp .ge 20, 3) := by decide +kernel
theorem dOrders_together_12 : decode YOrders_together.2.1 12 = .ok (.iload_n 2, 1) := by decide +kernel
theorem dOrders_together_13 : decode YOrders_together.2.1 13 = .ok (.aload_n 0, 1) := by decide +kernel
theorem dOrders_together_14 : decode YOrders_together.2.1 14 = .ok (.aload_n 1, 1) := by decide +kernel
theorem dOrders_together_15 : decode YOrders_together.2.1 15 = .ok (.iload_n 3, 1) := by decide +kernel
theorem dOrders_together_16 : decode YOrders_together.2.1 16 = .ok (.iconst (-1), 1) := by decide +kernel
theorem dOrders_together_17 : decode YOrders_together.2.1 17 = .ok (.iconst 0, 1) := by decide +kernel
theorem dOrders_together_18 : decode YOrders_together.2.1 18 = .ok (.invokevirtual 69, 3) := by decide +kernel
theorem dOrders_together_21 : decode YOrders_together.2.1 21 = .ok (.iadd, 1) := by decide +kernel
theorem dOrders_together_22 : decode YOrders_together.2.1 22 = .ok (.istore_n 2, 1) := by decide +kernel
theorem dOrders_together_23 : decode YOrders_together.2.1 23 = .ok (.iinc 3 1, 3) := by decide +kernel
theorem dOrders_together_26 : decode YOrders_together.2.1 26 = .ok (.goto (-22), 3) := by decide +kernel
theorem dOrders_together_29 : decode YOrders_together.2.1 29 = .ok (.iload_n 2, 1) := by decide +kernel
theorem dOrders_together_30 : decode YOrders_together.2.1 30 = .ok (.ireturn, 1) := by decide +kernel
theorem dOrders_findStrongest_0 : decode YOrders_findStrongest.2.1 0 = .ok (.aload_n 0, 1) := by decide +kernel
theorem dOrders_findStrongest_1 : decode YOrders_findStrongest.2.1 1 = .ok (.aload_n 1, 1) := by decide +kernel
theorem dOrders_findStrongest_2 : decode YOrders_findStrongest.2.1 2 = .ok (.invokevirtual 73, 3) := by decide +kernel
theorem dOrders_findStrongest_5 : decode YOrders_findStrongest.2.1 5 = .ok (.istore_n 2, 1) := by decide +kernel
theorem dOrders_findStrongest_6 : decode YOrders_findStrongest.2.1 6 = .ok (.aload_n 0, 1) := by decide +kernel
theorem dOrders_findStrongest_7 : decode YOrders_findStrongest.2.1 7 = .ok (.getfield 33, 3) := by decide +kernel
theorem dOrders_findStrongest_10 : decode YOrders_findStrongest.2.1 10 = .ok (.aload_n 1, 1) := by decide +kernel
theorem dOrders_findStrongest_11 : decode YOrders_findStrongest.2.1 11 = .ok (.invokevirtual 77, 3) := by decide +kernel
theorem dOrders_findStrongest_14 : decode YOrders_findStrongest.2.1 14 = .ok (.aload_n 0, 1) := by decide +kernel
theorem dOrders_findStrongest_15 : decode YOrders_findStrongest.2.1 15 = .ok (.iconst (-1), 1) := by decide +kernel
theorem dOrders_findStrongest_16 : decode YOrders_findStrongest.2.1 16 = .ok (.putfield 81, 3) := by decide +kernel
theorem dOrders_findStrongest_19 : decode YOrders_findStrongest.2.1 19 = .ok (.aload_n 0, 1) := by decide +kernel
theorem dOrders_findStrongest_20 : decode YOrders_findStrongest.2.1 20 = .ok (.iconst (-1), 1) := by decide +kernel
theorem dOrders_findStrongest_21 : decode YOrders_findStrongest.2.1 21 = .ok (.putfield 84, 3) := by decide +kernel
theorem dOrders_findStrongest_24 : decode YOrders_findStrongest.2.1 24 = .ok (.iconst 0, 1) := by decide +kernel
theorem dOrders_findStrongest_25 : decode YOrders_findStrongest.2.1 25 = .ok (.istore_n 3, 1) := by decide +kernel
theorem dOrders_findStrongest_26 : decode YOrders_findStrongest.2.1 26 = .ok (.iload_n 3, 1) := by decide +kernel
theorem dOrders_findStrongest_27 : decode YOrders_findStrongest.2.1 27 = .ok (.bipush 16, 2) := by decide +kernel
theorem dOrders_findStrongest_29 : decode YOrders_findStrongest.2.1 29 = .ok (.if_icmp .ge 82, 3) := by decide +kernel
theorem dOrders_findStrongest_32 : decode YOrders_findStrongest.2.1 32 = .ok (.aload_n 1, 1) := by decide +kernel
theorem dOrders_findStrongest_33 : decode YOrders_findStrongest.2.1 33 = .ok (.getfield 87, 3) := by decide +kernel
theorem dOrders_findStrongest_36 : decode YOrders_findStrongest.2.1 36 = .ok (.iload_n 3, 1) := by decide +kernel
theorem dOrders_findStrongest_37 : decode YOrders_findStrongest.2.1 37 = .ok (.iaload, 1) := by decide +kernel
theorem dOrders_findStrongest_38 : decode YOrders_findStrongest.2.1 38 = .ok (.iconst (-1), 1) := by decide +kernel
theorem dOrders_findStrongest_39 : decode YOrders_findStrongest.2.1 39 = .ok (.if_icmp .eq 66, 3) := by decide +kernel
theorem dOrders_findStrongest_42 : decode YOrders_findStrongest.2.1 42 = .ok (.aload_n 0, 1) := by decide +kernel
theorem dOrders_findStrongest_43 : decode YOrders_findStrongest.2.1 43 = .ok (.getfield 33, 3) := by decide +kernel
theorem dOrders_findStrongest_46 : decode YOrders_findStrongest.2.1 46 = .ok (.getfield 87, 3) := by decide +kernel
theorem dOrders_findStrongest_49 : decode YOrders_findStrongest.2.1 49 = .ok (.iload_n 3, 1) := by decide +kernel
theorem dOrders_findStrongest_50 : decode YOrders_findStrongest.2.1 50 = .ok (.iconst (-1), 1) := by decide +kernel
theorem dOrders_findStrongest_51 : decode YOrders_findStrongest.2.1 51 = .ok (.iastore, 1) := by decide +kernel
theorem dOrders_findStrongest_52 : decode YOrders_findStrongest.2.1 52 = .ok (.aload_n 0, 1) := by decide +kernel
theorem dOrders_findStrongest_53 : decode YOrders_findStrongest.2.1 53 = .ok (.aload_n 0, 1) := by decide +kernel
theorem dOrders_findStrongest_54 : decode YOrders_findStrongest.2.1 54 = .ok (.getfield 33, 3) := by decide +kernel
theorem dOrders_findStrongest_57 : decode YOrders_findStrongest.2.1 57 = .ok (.invokevirtual 73, 3) := by decide +kernel
theorem dOrders_findStrongest_60 : decode YOrders_findStrongest.2.1 60 = .ok (.iload_n 2, 1) := by decide +kernel
theorem dOrders_findStrongest_61 : decode YOrders_findStrongest.2.1 61 = .ok (.isub, 1) := by decide +kernel
theorem dOrders_findStrongest_62 : decode YOrders_findStrongest.2.1 62 = .ok (.invokestatic 90, 3) := by decide +kernel
theorem dOrders_findStrongest_65 : decode YOrders_findStrongest.2.1 65 = .ok (.istore 4, 2) := by decide +kernel
theorem dOrders_findStrongest_67 : decode YOrders_findStrongest.2.1 67 = .ok (.aload_n 0, 1) := by decide +kernel
theorem dOrders_findStrongest_68 : decode YOrders_findStrongest.2.1 68 = .ok (.getfield 33, 3) := by decide +kernel
theorem dOrders_findStrongest_71 : decode YOrders_findStrongest.2.1 71 = .ok (.getfield 87, 3) := by decide +kernel
theorem dOrders_findStrongest_74 : decode YOrders_findStrongest.2.1 74 = .ok (.iload_n 3, 1) := by decide +kernel
theorem dOrders_findStrongest_75 : decode YOrders_findStrongest.2.1 75 = .ok (.aload_n 1, 1) := by decide +kernel
theorem dOrders_findStrongest_76 : decode YOrders_findStrongest.2.1 76 = .ok (.getfield 87, 3) := by decide +kernel
theorem dOrders_findStrongest_79 : decode YOrders_findStrongest.2.1 79 = .ok (.iload_n 3, 1) := by decide +kernel
theorem dOrders_findStrongest_80 : decode YOrders_findStrongest.2.1 80 = .ok (.iaload, 1) := by decide +kernel
theorem dOrders_findStrongest_81 : decode YOrders_findStrongest.2.1 81 = .ok (.iastore, 1) := by decide +kernel
theorem dOrders_findStrongest_82 : decode YOrders_findStrongest.2.1 82 = .ok (.iload 4, 2) := by decide +kernel
theorem dOrders_findStrongest_84 : decode YOrders_findStrongest.2.1 84 = .ok (.aload_n 0, 1) := by decide +kernel
theorem dOrders_findStrongest_85 : decode YOrders_findStrongest.2.1 85 = .ok (.getfield 84, 3) := by decide +kernel
theorem dOrders_findStrongest_88 : decode YOrders_findStrongest.2.1 88 = .ok (.if_icmp .le 17, 3) := by decide +kernel
theorem dOrders_findStrongest_91 : decode YOrders_findStrongest.2.1 91 = .ok (.aload_n 0, 1) := by decide +kernel
theorem dOrders_findStrongest_92 : decode YOrders_findStrongest.2.1 92 = .ok (.bipush 100, 2) := by decide +kernel
theorem dOrders_findStrongest_94 : decode YOrders_findStrongest.2.1 94 = .ok (.iload_n 3, 1) := by decide +kernel
theorem dOrders_findStrongest_95 : decode YOrders_findStrongest.2.1 95 = .ok (.iadd, 1) := by decide +kernel
theorem dOrders_findStrongest_96 : decode YOrders_findStrongest.2.1 96 = .ok (.putfield 81, 3) := by decide +kernel
theorem dOrders_findStrongest_99 : decode YOrders_findStrongest.2.1 99 = .ok (.aload_n 0, 1) := by decide +kernel
theorem dOrders_findStrongest_100 : decode YOrders_findStrongest.2.1 100 = .ok (.iload 4, 2) := by decide +kernel
theorem dOrders_findStrongest_102 : decode YOrders_findStrongest.2.1 102 = .ok (.putfield 84, 3) := by decide +kernel
theorem dOrders_findStrongest_105 : decode YOrders_findStrongest.2.1 105 = .ok (.iinc 3 1, 3) := by decide +kernel
theorem dOrders_findStrongest_108 : decode YOrders_findStrongest.2.1 108 = .ok (.goto (-82), 3) := by decide +kernel
theorem dOrders_findStrongest_111 : decode YOrders_findStrongest.2.1 111 = .ok (.return_, 1) := by decide +kernel
theorem dOrders_findSwapped_0 : decode YOrders_findSwapped.2.1 0 = .ok (.aload_n 0, 1) := by decide +kernel
theorem dOrders_findSwapped_1 : decode YOrders_findSwapped.2.1 1 = .ok (.iconst (-1), 1) := by decide +kernel
theorem dOrders_findSwapped_2 : decode YOrders_findSwapped.2.1 2 = .ok (.putfield 81, 3) := by decide +kernel
theorem dOrders_findSwapped_5 : decode YOrders_findSwapped.2.1 5 = .ok (.aload_n 0, 1) := by decide +kernel
theorem dOrders_findSwapped_6 : decode YOrders_findSwapped.2.1 6 = .ok (.aload_n 0, 1) := by decide +kernel
theorem dOrders_findSwapped_7 : decode YOrders_findSwapped.2.1 7 = .ok (.aload_n 1, 1) := by decide +kernel
theorem dOrders_findSwapped_8 : decode YOrders_findSwapped.2.1 8 = .ok (.invokevirtual 73, 3) := by decide +kernel
theorem dOrders_findSwapped_11 : decode YOrders_findSwapped.2.1 11 = .ok (.putfield 84, 3) := by decide +kernel
theorem dOrders_findSwapped_14 : decode YOrders_findSwapped.2.1 14 = .ok (.aload_n 0, 1) := by decide +kernel
theorem dOrders_findSwapped_15 : decode YOrders_findSwapped.2.1 15 = .ok (.getfield 33, 3) := by decide +kernel
theorem dOrders_findSwapped_18 : decode YOrders_findSwapped.2.1 18 = .ok (.aload_n 1, 1) := by decide +kernel
theorem dOrders_findSwapped_19 : decode YOrders_findSwapped.2.1 19 = .ok (.invokevirtual 77, 3) := by decide +kernel
theorem dOrders_findSwapped_22 : decode YOrders_findSwapped.2.1 22 = .ok (.iconst 0, 1) := by decide +kernel
theorem dOrders_findSwapped_23 : decode YOrders_findSwapped.2.1 23 = .ok (.istore_n 2, 1) := by decide +kernel
theorem dOrders_findSwapped_24 : decode YOrders_findSwapped.2.1 24 = .ok (.iload_n 2, 1) := by decide +kernel
theorem dOrders_findSwapped_25 : decode YOrders_findSwapped.2.1 25 = .ok (.aload_n 1, 1) := by decide +kernel
theorem dOrders_findSwapped_26 : decode YOrders_findSwapped.2.1 26 = .ok (.getfield 41, 3) := by decide +kernel
theorem dOrders_findSwapped_29 : decode YOrders_findSwapped.2.1 29 = .ok (.if_icmp .ge 49, 3) := by decide +kernel
theorem dOrders_findSwapped_32 : decode YOrders_findSwapped.2.1 32 = .ok (.iload_n 2, 1) := by decide +kernel
theorem dOrders_findSwapped_33 : decode YOrders_findSwapped.2.1 33 = .ok (.iconst 1, 1) := by decide +kernel
theorem dOrders_findSwapped_34 : decode YOrders_findSwapped.2.1 34 = .ok (.iadd, 1) := by decide +kernel
theorem dOrders_findSwapped_35 : decode YOrders_findSwapped.2.1 35 = .ok (.istore_n 3, 1) := by decide +kernel
theorem dOrders_findSwapped_36 : decode YOrders_findSwapped.2.1 36 = .ok (.iload_n 3, 1) := by decide +kernel
theorem dOrders_findSwapped_37 : decode YOrders_findSwapped.2.1 37 = .ok (.aload_n 1, 1) := by decide +kernel
theorem dOrders_findSwapped_38 : decode YOrders_findSwapped.2.1 38 = .ok (.getfield 41, 3) := by decide +kernel
theorem dOrders_findSwapped_41 : decode YOrders_findSwapped.2.1 41 = .ok (.if_icmp .ge 31, 3) := by decide +kernel
theorem dOrders_findSwapped_44 : decode YOrders_findSwapped.2.1 44 = .ok (.aload_n 1, 1) := by decide +kernel
theorem dOrders_findSwapped_45 : decode YOrders_findSwapped.2.1 45 = .ok (.getfield 44, 3) := by decide +kernel
theorem dOrders_findSwapped_48 : decode YOrders_findSwapped.2.1 48 = .ok (.iload_n 2, 1) := by decide +kernel
theorem dOrders_findSwapped_49 : decode YOrders_findSwapped.2.1 49 = .ok (.iaload, 1) := by decide +kernel
theorem dOrders_findSwapped_50 : decode YOrders_findSwapped.2.1 50 = .ok (.aload_n 1, 1) := by decide +kernel
theorem dOrders_findSwapped_51 : decode YOrders_findSwapped.2.1 51 = .ok (.getfield 44, 3) := by decide +kernel
theorem dOrders_findSwapped_54 : decode YOrders_findSwapped.2.1 54 = .ok (.iload_n 3, 1) := by decide +kernel
theorem dOrders_findSwapped_55 : decode YOrders_findSwapped.2.1 55 = .ok (.iaload, 1) := by decide +kernel
theorem dOrders_findSwapped_56 : decode YOrders_findSwapped.2.1 56 = .ok (.if_icmp .eq 10, 3) := by decide +kernel
theorem dOrders_findSwapped_59 : decode YOrders_findSwapped.2.1 59 = .ok (.aload_n 0, 1) := by decide +kernel
theorem dOrders_findSwapped_60 : decode YOrders_findSwapped.2.1 60 = .ok (.aload_n 1, 1) := by decide +kernel
theorem dOrders_findSwapped_61 : decode YOrders_findSwapped.2.1 61 = .ok (.iload_n 2, 1) := by decide +kernel
theorem dOrders_findSwapped_62 : decode YOrders_findSwapped.2.1 62 = .ok (.iload_n 3, 1) := by decide +kernel
theorem dOrders_findSwapped_63 : decode YOrders_findSwapped.2.1 63 = .ok (.invokevirtual 96, 3) := by decide +kernel
theorem dOrders_findSwapped_66 : decode YOrders_findSwapped.2.1 66 = .ok (.iinc 3 1, 3) := by decide +kernel
theorem dOrders_findSwapped_69 : decode YOrders_findSwapped.2.1 69 = .ok (.goto (-33), 3) := by decide +kernel
theorem dOrders_findSwapped_72 : decode YOrders_findSwapped.2.1 72 = .ok (.iinc 2 1, 3) := by decide +kernel
theorem dOrders_findSwapped_75 : decode YOrders_findSwapped.2.1 75 = .ok (.goto (-51), 3) := by decide +kernel
theorem dOrders_findSwapped_78 : decode YOrders_findSwapped.2.1 78 = .ok (.return_, 1) := by decide +kernel
theorem dOrders_trySwap_0 : decode YOrders_trySwap.2.1 0 = .ok (.aload_n 0, 1) := by decide +kernel
theorem dOrders_trySwap_1 : decode YOrders_trySwap.2.1 1 = .ok (.getfield 33, 3) := by decide +kernel
theorem dOrders_trySwap_4 : decode YOrders_trySwap.2.1 4 = .ok (.getfield 44, 3) := by decide +kernel
theorem dOrders_trySwap_7 : decode YOrders_trySwap.2.1 7 = .ok (.iload_n 2, 1) := by decide +kernel
theorem dOrders_trySwap_8 : decode YOrders_trySwap.2.1 8 = .ok (.aload_n 1, 1) := by decide +kernel
theorem dOrders_trySwap_9 : decode YOrders_trySwap.2.1 9 = .ok (.getfield 44, 3) := by decide +kernel
theorem dOrders_trySwap_12 : decode YOrders_trySwap.2.1 12 = .ok (.iload_n 3, 1) := by decide +kernel
theorem dOrders_trySwap_13 : decode YOrders_trySwap.2.1 13 = .ok (.iaload, 1) := by decide +kernel
theorem dOrders_trySwap_14 : decode YOrders_trySwap.2.1 14 = .ok (.iastore, 1) := by decide +kernel
theorem dOrders_trySwap_15 : decode YOrders_trySwap.2.1 15 = .ok (.aload_n 0, 1) := by decide +kernel
theorem dOrders_trySwap_16 : decode YOrders_trySwap.2.1 16 = .ok (.getfield 33, 3) := by decide +kernel
theorem dOrders_trySwap_19 : decode YOrders_trySwap.2.1 19 = .ok (.getfield 44, 3) := by decide +kernel
theorem dOrders_trySwap_22 : decode YOrders_trySwap.2.1 22 = .ok (.iload_n 3, 1) := by decide +kernel
theorem dOrders_trySwap_23 : decode YOrders_trySwap.2.1 23 = .ok (.aload_n 1, 1) := by decide +kernel
theorem dOrders_trySwap_24 : decode YOrders_trySwap.2.1 24 = .ok (.getfield 44, 3) := by decide +kernel
theorem dOrders_trySwap_27 : decode YOrders_trySwap.2.1 27 = .ok (.iload_n 2, 1) := by decide +kernel
theorem dOrders_trySwap_28 : decode YOrders_trySwap.2.1 28 = .ok (.iaload, 1) := by decide +kernel
theorem dOrders_trySwap_29 : decode YOrders_trySwap.2.1 29 = .ok (.iastore, 1) := by decide +kernel
theorem dOrders_trySwap_30 : decode YOrders_trySwap.2.1 30 = .ok (.aload_n 0, 1) := by decide +kernel
theorem dOrders_trySwap_31 : decode YOrders_trySwap.2.1 31 = .ok (.aload_n 0, 1) := by decide +kernel
theorem dOrders_trySwap_32 : decode YOrders_trySwap.2.1 32 = .ok (.getfield 33, 3) := by decide +kernel
theorem dOrders_trySwap_35 : decode YOrders_trySwap.2.1 35 = .ok (.invokevirtual 73, 3) := by decide +kernel
theorem dOrders_trySwap_38 : decode YOrders_trySwap.2.1 38 = .ok (.istore 4, 2) := by decide +kernel
theorem dOrders_trySwap_40 : decode YOrders_trySwap.2.1 40 = .ok (.aload_n 0, 1) := by decide +kernel
theorem dOrders_trySwap_41 : decode YOrders_trySwap.2.1 41 = .ok (.getfield 33, 3) := by decide +kernel
theorem dOrders_trySwap_44 : decode YOrders_trySwap.2.1 44 = .ok (.getfield 44, 3) := by decide +kernel
theorem dOrders_trySwap_47 : decode YOrders_trySwap.2.1 47 = .ok (.iload_n 2, 1) := by decide +kernel
theorem dOrders_trySwap_48 : decode YOrders_trySwap.2.1 48 = .ok (.aload_n 1, 1) := by decide +kernel
theorem dOrders_trySwap_49 : decode YOrders_trySwap.2.1 49 = .ok (.getfield 44, 3) := by decide +kernel
theorem dOrders_trySwap_52 : decode YOrders_trySwap.2.1 52 = .ok (.iload_n 2, 1) := by decide +kernel
theorem dOrders_trySwap_53 : decode YOrders_trySwap.2.1 53 = .ok (.iaload, 1) := by decide +kernel
theorem dOrders_trySwap_54 : decode YOrders_trySwap.2.1 54 = .ok (.iastore, 1) := by decide +kernel
theorem dOrders_trySwap_55 : decode YOrders_trySwap.2.1 55 = .ok (.aload_n 0, 1) := by decide +kernel
theorem dOrders_trySwap_56 : decode YOrders_trySwap.2.1 56 = .ok (.getfield 33, 3) := by decide +kernel
theorem dOrders_trySwap_59 : decode YOrders_trySwap.2.1 59 = .ok (.getfield 44, 3) := by decide +kernel
theorem dOrders_trySwap_62 : decode YOrders_trySwap.2.1 62 = .ok (.iload_n 3, 1) := by decide +kernel
theorem dOrders_trySwap_63 : decode YOrders_trySwap.2.1 63 = .ok (.aload_n 1, 1) := by decide +kernel
theorem dOrders_trySwap_64 : decode YOrders_trySwap.2.1 64 = .ok (.getfield 44, 3) := by decide +kernel
theorem dOrders_trySwap_67 : decode YOrders_trySwap.2.1 67 = .ok (.iload_n 3, 1) := by decide +kernel
theorem dOrders_trySwap_68 : decode YOrders_trySwap.2.1 68 = .ok (.iaload, 1) := by decide +kernel
theorem dOrders_trySwap_69 : decode YOrders_trySwap.2.1 69 = .ok (.iastore, 1) := by decide +kernel
theorem dOrders_trySwap_70 : decode YOrders_trySwap.2.1 70 = .ok (.iload 4, 2) := by decide +kernel
theorem dOrders_trySwap_72 : decode YOrders_trySwap.2.1 72 = .ok (.aload_n 0, 1) := by decide +kernel
theorem dOrders_trySwap_73 : decode YOrders_trySwap.2.1 73 = .ok (.getfield 84, 3) := by decide +kernel
theorem dOrders_trySwap_76 : decode YOrders_trySwap.2.1 76 = .ok (.if_icmp .le 19, 3) := by decide +kernel
theorem dOrders_trySwap_79 : decode YOrders_trySwap.2.1 79 = .ok (.aload_n 0, 1) := by decide +kernel
theorem dOrders_trySwap_80 : decode YOrders_trySwap.2.1 80 = .ok (.bipush 10, 2) := by decide +kernel
theorem dOrders_trySwap_82 : decode YOrders_trySwap.2.1 82 = .ok (.iload_n 2, 1) := by decide +kernel
theorem dOrders_trySwap_83 : decode YOrders_trySwap.2.1 83 = .ok (.imul, 1) := by decide +kernel
theorem dOrders_trySwap_84 : decode YOrders_trySwap.2.1 84 = .ok (.iload_n 3, 1) := by decide +kernel
theorem dOrders_trySwap_85 : decode YOrders_trySwap.2.1 85 = .ok (.iadd, 1) := by decide +kernel
theorem dOrders_trySwap_86 : decode YOrders_trySwap.2.1 86 = .ok (.putfield 81, 3) := by decide +kernel
theorem dOrders_trySwap_89 : decode YOrders_trySwap.2.1 89 = .ok (.aload_n 0, 1) := by decide +kernel
theorem dOrders_trySwap_90 : decode YOrders_trySwap.2.1 90 = .ok (.iload 4, 2) := by decide +kernel
theorem dOrders_trySwap_92 : decode YOrders_trySwap.2.1 92 = .ok (.putfield 84, 3) := by decide +kernel
theorem dOrders_trySwap_95 : decode YOrders_trySwap.2.1 95 = .ok (.return_, 1) := by decide +kernel
theorem dOrders_touched_0 : decode YOrders_touched.2.1 0 = .ok (.iconst 0, 1) := by decide +kernel
theorem dOrders_touched_1 : decode YOrders_touched.2.1 1 = .ok (.istore_n 2, 1) := by decide +kernel
theorem dOrders_touched_2 : decode YOrders_touched.2.1 2 = .ok (.iconst 0, 1) := by decide +kernel
theorem dOrders_touched_3 : decode YOrders_touched.2.1 3 = .ok (.istore_n 3, 1) := by decide +kernel
theorem dOrders_touched_4 : decode YOrders_touched.2.1 4 = .ok (.iload_n 3, 1) := by decide +kernel
theorem dOrders_touched_5 : decode YOrders_touched.2.1 5 = .ok (.aload_n 1, 1) := by decide +kernel
theorem dOrders_touched_6 : decode YOrders_touched.2.1 6 = .ok (.getfield 66, 3) := by decide +kernel
theorem dOrders_touched_9 : decode YOrders_touched.2.1 9 = .ok (.if_icmp .ge 31, 3) := by decide +kernel
theorem dOrders_touched_12 : decode YOrders_touched.2.1 12 = .ok (.aload_n 0, 1) := by decide +kernel
theorem dOrders_touched_13 : decode YOrders_touched.2.1 13 = .ok (.aload_n 1, 1) := by decide +kernel
theorem dOrders_touched_14 : decode YOrders_touched.2.1 14 = .ok (.iload_n 3, 1) := by decide +kernel
theorem dOrders_touched_15 : decode YOrders_touched.2.1 15 = .ok (.iconst (-1), 1) := by decide +kernel
theorem dOrders_touched_16 : decode YOrders_touched.2.1 16 = .ok (.iconst 0, 1) := by decide +kernel
theorem dOrders_touched_17 : decode YOrders_touched.2.1 17 = .ok (.invokevirtual 69, 3) := by decide +kernel
theorem dOrders_touched_20 : decode YOrders_touched.2.1 20 = .ok (.aload_n 0, 1) := by decide +kernel
theorem dOrders_touched_21 : decode YOrders_touched.2.1 21 = .ok (.aload_n 1, 1) := by decide +kernel
theorem dOrders_touched_22 : decode YOrders_touched.2.1 22 = .ok (.iload_n 3, 1) := by decide +kernel
theorem dOrders_touched_23 : decode YOrders_touched.2.1 23 = .ok (.iconst (-1), 1) := by decide +kernel
theorem dOrders_touched_24 : decode YOrders_touched.2.1 24 = .ok (.iconst 1, 1) := by decide +kernel
theorem dOrders_touched_25 : decode YOrders_touched.2.1 25 = .ok (.invokevirtual 69, 3) := by decide +kernel
theorem dOrders_touched_28 : decode YOrders_touched.2.1 28 = .ok (.if_icmp .eq 6, 3) := by decide +kernel
theorem dOrders_touched_31 : decode YOrders_touched.2.1 31 = .ok (.iinc 2 1, 3) := by decide +kernel
theorem dOrders_touched_34 : decode YOrders_touched.2.1 34 = .ok (.iinc 3 1, 3) := by decide +kernel
theorem dOrders_touched_37 : decode YOrders_touched.2.1 37 = .ok (.goto (-33), 3) := by decide +kernel
theorem dOrders_touched_40 : decode YOrders_touched.2.1 40 = .ok (.iload_n 2, 1) := by decide +kernel
theorem dOrders_touched_41 : decode YOrders_touched.2.1 41 = .ok (.ireturn, 1) := by decide +kernel
theorem dOrders_ranked_0 : decode YOrders_ranked.2.1 0 = .ok (.iconst 0, 1) := by decide +kernel
theorem dOrders_ranked_1 : decode YOrders_ranked.2.1 1 = .ok (.istore_n 3, 1) := by decide +kernel
theorem dOrders_ranked_2 : decode YOrders_ranked.2.1 2 = .ok (.iload_n 3, 1) := by decide +kernel
theorem dOrders_ranked_3 : decode YOrders_ranked.2.1 3 = .ok (.aload_n 1, 1) := by decide +kernel
theorem dOrders_ranked_4 : decode YOrders_ranked.2.1 4 = .ok (.getfield 66, 3) := by decide +kernel
theorem dOrders_ranked_7 : decode YOrders_ranked.2.1 7 = .ok (.if_icmp .ge 23, 3) := by decide +kernel
theorem dOrders_ranked_10 : decode YOrders_ranked.2.1 10 = .ok (.aload_n 0, 1) := by decide +kernel
theorem dOrders_ranked_11 : decode YOrders_ranked.2.1 11 = .ok (.getfield 24, 3) := by decide +kernel
theorem dOrders_ranked_14 : decode YOrders_ranked.2.1 14 = .ok (.iload_n 3, 1) := by decide +kernel
theorem dOrders_ranked_15 : decode YOrders_ranked.2.1 15 = .ok (.aload_n 0, 1) := by decide +kernel
theorem dOrders_ranked_16 : decode YOrders_ranked.2.1 16 = .ok (.aload_n 1, 1) := by decide +kernel
theorem dOrders_ranked_17 : decode YOrders_ranked.2.1 17 = .ok (.iload_n 3, 1) := by decide +kernel
theorem dOrders_ranked_18 : decode YOrders_ranked.2.1 18 = .ok (.iconst (-1), 1) := by decide +kernel
theorem dOrders_ranked_19 : decode YOrders_ranked.2.1 19 = .ok (.iconst 0, 1) := by decide +kernel
theorem dOrders_ranked_20 : decode YOrders_ranked.2.1 20 = .ok (.invokevirtual 69, 3) := by decide +kernel
theorem dOrders_ranked_23 : decode YOrders_ranked.2.1 23 = .ok (.iastore, 1) := by decide +kernel
theorem dOrders_ranked_24 : decode YOrders_ranked.2.1 24 = .ok (.iinc 3 1, 3) := by decide +kernel
theorem dOrders_ranked_27 : decode YOrders_ranked.2.1 27 = .ok (.goto (-25), 3) := by decide +kernel
theorem dOrders_ranked_30 : decode YOrders_ranked.2.1 30 = .ok (.iconst 0, 1) := by decide +kernel
theorem dOrders_ranked_31 : decode YOrders_ranked.2.1 31 = .ok (.istore_n 3, 1) := by decide +kernel
theorem dOrders_ranked_32 : decode YOrders_ranked.2.1 32 = .ok (.iload_n 3, 1) := by decide +kernel
theorem dOrders_ranked_33 : decode YOrders_ranked.2.1 33 = .ok (.aload_n 1, 1) := by decide +kernel
theorem dOrders_ranked_34 : decode YOrders_ranked.2.1 34 = .ok (.getfield 66, 3) := by decide +kernel
theorem dOrders_ranked_37 : decode YOrders_ranked.2.1 37 = .ok (.if_icmp .ge 21, 3) := by decide +kernel
theorem dOrders_ranked_40 : decode YOrders_ranked.2.1 40 = .ok (.aload_n 0, 1) := by decide +kernel
theorem dOrders_ranked_41 : decode YOrders_ranked.2.1 41 = .ok (.aload_n 1, 1) := by decide +kernel
theorem dOrders_ranked_42 : decode YOrders_ranked.2.1 42 = .ok (.iload_n 3, 1) := by decide +kernel
theorem dOrders_ranked_43 : decode YOrders_ranked.2.1 43 = .ok (.invokevirtual 99, 3) := by decide +kernel
theorem dOrders_ranked_46 : decode YOrders_ranked.2.1 46 = .ok (.iload_n 2, 1) := by decide +kernel
theorem dOrders_ranked_47 : decode YOrders_ranked.2.1 47 = .ok (.if_icmp .ne 5, 3) := by decide +kernel
theorem dOrders_ranked_50 : decode YOrders_ranked.2.1 50 = .ok (.iload_n 3, 1) := by decide +kernel
theorem dOrders_ranked_51 : decode YOrders_ranked.2.1 51 = .ok (.ireturn, 1) := by decide +kernel
theorem dOrders_ranked_52 : decode YOrders_ranked.2.1 52 = .ok (.iinc 3 1, 3) := by decide +kernel
theorem dOrders_ranked_55 : decode YOrders_ranked.2.1 55 = .ok (.goto (-23), 3) := by decide +kernel
theorem dOrders_ranked_58 : decode YOrders_ranked.2.1 58 = .ok (.iconst (-1), 1) := by decide +kernel
theorem dOrders_ranked_59 : decode YOrders_ranked.2.1 59 = .ok (.ireturn, 1) := by decide +kernel
theorem dOrders_rankOf_0 : decode YOrders_rankOf.2.1 0 = .ok (.iconst 0, 1) := by decide +kernel
theorem dOrders_rankOf_1 : decode YOrders_rankOf.2.1 1 = .ok (.istore_n 3, 1) := by decide +kernel
theorem dOrders_rankOf_2 : decode YOrders_rankOf.2.1 2 = .ok (.iconst 0, 1) := by decide +kernel
theorem dOrders_rankOf_3 : decode YOrders_rankOf.2.1 3 = .ok (.istore 4, 2) := by decide +kernel
theorem dOrders_rankOf_5 : decode YOrders_rankOf.2.1 5 = .ok (.iload 4, 2) := by decide +kernel
theorem dOrders_rankOf_7 : decode YOrders_rankOf.2.1 7 = .ok (.aload_n 1, 1) := by decide +kernel
theorem dOrders_rankOf_8 : decode YOrders_rankOf.2.1 8 = .ok (.getfield 66, 3) := by decide +kernel
theorem dOrders_rankOf_11 : decode YOrders_rankOf.2.1 11 = .ok (.if_icmp .ge 50, 3) := by decide +kernel
theorem dOrders_rankOf_14 : decode YOrders_rankOf.2.1 14 = .ok (.aload_n 0, 1) := by decide +kernel
theorem dOrders_rankOf_15 : decode YOrders_rankOf.2.1 15 = .ok (.getfield 24, 3) := by decide +kernel
theorem dOrders_rankOf_18 : decode YOrders_rankOf.2.1 18 = .ok (.iload 4, 2) := by decide +kernel
theorem dOrders_rankOf_20 : decode YOrders_rankOf.2.1 20 = .ok (.iaload, 1) := by decide +kernel
theorem dOrders_rankOf_21 : decode YOrders_rankOf.2.1 21 = .ok (.aload_n 0, 1) := by decide +kernel
theorem dOrders_rankOf_22 : decode YOrders_rankOf.2.1 22 = .ok (.getfield 24, 3) := by decide +kernel
theorem dOrders_rankOf_25 : decode YOrders_rankOf.2.1 25 = .ok (.iload_n 2, 1) := by decide +kernel
theorem dOrders_rankOf_26 : decode YOrders_rankOf.2.1 26 = .ok (.iaload, 1) := by decide +kernel
theorem dOrders_rankOf_27 : decode YOrders_rankOf.2.1 27 = .ok (.if_icmp .gt 25, 3) := by decide +kernel
theorem dOrders_rankOf_30 : decode YOrders_rankOf.2.1 30 = .ok (.aload_n 0, 1) := by decide +kernel
theorem dOrders_rankOf_31 : decode YOrders_rankOf.2.1 31 = .ok (.getfield 24, 3) := by decide +kernel
theorem dOrders_rankOf_34 : decode YOrders_rankOf.2.1 34 = .ok (.iload 4, 2) := by decide +kernel
theorem dOrders_rankOf_36 : decode YOrders_rankOf.2.1 36 = .ok (.iaload, 1) := by decide +kernel
theorem dOrders_rankOf_37 : decode YOrders_rankOf.2.1 37 = .ok (.aload_n 0, 1) := by decide +kernel
theorem dOrders_rankOf_38 : decode YOrders_rankOf.2.1 38 = .ok (.getfield 24, 3) := by decide +kernel
theorem dOrders_rankOf_41 : decode YOrders_rankOf.2.1 41 = .ok (.iload_n 2, 1) := by decide +kernel
theorem dOrders_rankOf_42 : decode YOrders_rankOf.2.1 42 = .ok (.iaload, 1) := by decide +kernel
theorem dOrders_rankOf_43 : decode YOrders_rankOf.2.1 43 = .ok (.if_icmp .ne 12, 3) := by decide +kernel
theorem dOrders_rankOf_46 : decode YOrders_rankOf.2.1 46 = .ok (.iload 4, 2) := by decide +kernel
theorem dOrders_rankOf_48 : decode YOrders_rankOf.2.1 48 = .ok (.iload_n 2, 1) := by decide +kernel
theorem dOrders_rankOf_49 : decode YOrders_rankOf.2.1 49 = .ok (.if_icmp .ge 6, 3) := by decide +kernel
theorem dOrders_rankOf_52 : decode YOrders_rankOf.2.1 52 = .ok (.iinc 3 1, 3) := by decide +kernel
theorem dOrders_rankOf_55 : decode YOrders_rankOf.2.1 55 = .ok (.iinc 4 1, 3) := by decide +kernel
theorem dOrders_rankOf_58 : decode YOrders_rankOf.2.1 58 = .ok (.goto (-53), 3) := by decide +kernel
theorem dOrders_rankOf_61 : decode YOrders_rankOf.2.1 61 = .ok (.iload_n 3, 1) := by decide +kernel
theorem dOrders_rankOf_62 : decode YOrders_rankOf.2.1 62 = .ok (.ireturn, 1) := by decide +kernel
theorem dOrders_lead_0 : decode YOrders_lead.2.1 0 = .ok (.aload_n 1, 1) := by decide +kernel
theorem dOrders_lead_1 : decode YOrders_lead.2.1 1 = .ok (.getfield 41, 3) := by decide +kernel
theorem dOrders_lead_4 : decode YOrders_lead.2.1 4 = .ok (.istore_n 3, 1) := by decide +kernel
theorem dOrders_lead_5 : decode YOrders_lead.2.1 5 = .ok (.iload_n 3, 1) := by decide +kernel
theorem dOrders_lead_6 : decode YOrders_lead.2.1 6 = .ok (.ifCond .ne 13, 3) := by decide +kernel
theorem dOrders_lead_9 : decode YOrders_lead.2.1 9 = .ok (.iload_n 2, 1) := by decide +kernel
theorem dOrders_lead_10 : decode YOrders_lead.2.1 10 = .ok (.ifCond .eq 7, 3) := by decide +kernel
theorem dOrders_lead_13 : decode YOrders_lead.2.1 13 = .ok (.iconst (-1), 1) := by decide +kernel
theorem dOrders_lead_14 : decode YOrders_lead.2.1 14 = .ok (.goto 4, 3) := by decide +kernel
theorem dOrders_lead_17 : decode YOrders_lead.2.1 17 = .ok (.iconst 0, 1) := by decide +kernel
theorem dOrders_lead_18 : decode YOrders_lead.2.1 18 = .ok (.ireturn, 1) := by decide +kernel
theorem dOrders_lead_19 : decode YOrders_lead.2.1 19 = .ok (.aload_n 0, 1) := by decide +kernel
theorem dOrders_lead_20 : decode YOrders_lead.2.1 20 = .ok (.getfield 27, 3) := by decide +kernel
theorem dOrders_lead_23 : decode YOrders_lead.2.1 23 = .ok (.iconst 0, 1) := by decide +kernel
theorem dOrders_lead_24 : decode YOrders_lead.2.1 24 = .ok (.invokestatic 103, 3) := by decide +kernel
theorem dOrders_lead_27 : decode YOrders_lead.2.1 27 = .ok (.aload_n 1, 1) := by decide +kernel
theorem dOrders_lead_28 : decode YOrders_lead.2.1 28 = .ok (.getfield 109, 3) := by decide +kernel
theorem dOrders_lead_31 : decode YOrders_lead.2.1 31 = .ok (.iconst 0, 1) := by decide +kernel
theorem dOrders_lead_32 : decode YOrders_lead.2.1 32 = .ok (.iaload, 1) := by decide +kernel
theorem dOrders_lead_33 : decode YOrders_lead.2.1 33 = .ok (.istore 4, 2) := by decide +kernel
theorem dOrders_lead_35 : decode YOrders_lead.2.1 35 = .ok (.iload 4, 2) := by decide +kernel
theorem dOrders_lead_37 : decode YOrders_lead.2.1 37 = .ok (.istore 5, 2) := by decide +kernel
theorem dOrders_lead_39 : decode YOrders_lead.2.1 39 = .ok (.iconst 1, 1) := by decide +kernel
theorem dOrders_lead_40 : decode YOrders_lead.2.1 40 = .ok (.istore 6, 2) := by decide +kernel
theorem dOrders_lead_42 : decode YOrders_lead.2.1 42 = .ok (.iload 6, 2) := by decide +kernel
theorem dOrders_lead_44 : decode YOrders_lead.2.1 44 = .ok (.iload_n 3, 1) := by decide +kernel
theorem dOrders_lead_45 : decode YOrders_lead.2.1 45 = .ok (.if_icmp .gt 106, 3) := by decide +kernel
theorem dOrders_lead_48 : decode YOrders_lead.2.1 48 = .ok (.iconst 0, 1) := by decide +kernel
theorem dOrders_lead_49 : decode YOrders_lead.2.1 49 = .ok (.istore 7, 2) := by decide +kernel
theorem dOrders_lead_51 : decode YOrders_lead.2.1 51 = .ok (.iload 7, 2) := by decide +kernel
theorem dOrders_lead_53 : decode YOrders_lead.2.1 53 = .ok (.iload 6, 2) := by decide +kernel
theorem dOrders_lead_55 : decode YOrders_lead.2.1 55 = .ok (.iadd, 1) := by decide +kernel
theorem dOrders_lead_56 : decode YOrders_lead.2.1 56 = .ok (.iload_n 3, 1) := by decide +kernel
theorem dOrders_lead_57 : decode YOrders_lead.2.1 57 = .ok (.if_icmp .gt 88, 3) := by decide +kernel
theorem dOrders_lead_60 : decode YOrders_lead.2.1 60 = .ok (.iload 7, 2) := by decide +kernel
theorem dOrders_lead_62 : decode YOrders_lead.2.1 62 = .ok (.iload 6, 2) := by decide +kernel
theorem dOrders_lead_64 : decode YOrders_lead.2.1 64 = .ok (.iadd, 1) := by decide +kernel
theorem dOrders_lead_65 : decode YOrders_lead.2.1 65 = .ok (.iconst 1, 1) := by decide +kernel
theorem dOrders_lead_66 : decode YOrders_lead.2.1 66 = .ok (.isub, 1) := by decide +kernel
theorem dOrders_lead_67 : decode YOrders_lead.2.1 67 = .ok (.istore 8, 2) := by decide +kernel
theorem dOrders_lead_69 : decode YOrders_lead.2.1 69 = .ok (.aload_n 1, 1) := by decide +kernel
theorem dOrders_lead_70 : decode YOrders_lead.2.1 70 = .ok (.getfield 109, 3) := by decide +kernel
theorem dOrders_lead_73 : decode YOrders_lead.2.1 73 = .ok (.iload 7, 2) := by decide +kernel
theorem dOrders_lead_75 : decode YOrders_lead.2.1 75 = .ok (.iaload, 1) := by decide +kernel
theorem dOrders_lead_76 : decode YOrders_lead.2.1 76 = .ok (.iload 6, 2) := by decide +kernel
theorem dOrders_lead_78 : decode YOrders_lead.2.1 78 = .ok (.iconst 1, 1) := by decide +kernel
theorem dOrders_lead_79 : decode YOrders_lead.2.1 79 = .ok (.if_icmp .ne 7, 3) := by decide +kernel
theorem dOrders_lead_82 : decode YOrders_lead.2.1 82 = .ok (.iconst 0, 1) := by decide +kernel
theorem dOrders_lead_83 : decode YOrders_lead.2.1 83 = .ok (.goto 12, 3) := by decide +kernel
theorem dOrders_lead_86 : decode YOrders_lead.2.1 86 = .ok (.aload_n 0, 1) := by decide +kernel
theorem dOrders_lead_87 : decode YOrders_lead.2.1 87 = .ok (.getfield 27, 3) := by decide +kernel
theorem dOrders_lead_90 : decode YOrders_lead.2.1 90 = .ok (.iload 7, 2) := by decide +kernel
theorem dOrders_lead_92 : decode YOrders_lead.2.1 92 = .ok (.iconst 1, 1) := by decide +kernel
theorem dOrders_lead_93 : decode YOrders_lead.2.1 93 = .ok (.iadd, 1) := by decide +kernel
theorem dOrders_lead_94 : decode YOrders_lead.2.1 94 = .ok (.iaload, 1) := by decide +kernel
theorem dOrders_lead_95 : decode YOrders_lead.2.1 95 = .ok (.isub, 1) := by decide +kernel
theorem dOrders_lead_96 : decode YOrders_lead.2.1 96 = .ok (.istore 4, 2) := by decide +kernel
theorem dOrders_lead_98 : decode YOrders_lead.2.1 98 = .ok (.aload_n 1, 1) := by decide +kernel
theorem dOrders_lead_99 : decode YOrders_lead.2.1 99 = .ok (.getfield 109, 3) := by decide +kernel
theorem dOrders_lead_102 : decode YOrders_lead.2.1 102 = .ok (.iload 8, 2) := by decide +kernel
theorem dOrders_lead_104 : decode YOrders_lead.2.1 104 = .ok (.iaload, 1) := by decide +kernel
theorem dOrders_lead_105 : decode YOrders_lead.2.1 105 = .ok (.iload 6, 2) := by decide +kernel
theorem dOrders_lead_107 : decode YOrders_lead.2.1 107 = .ok (.iconst 1, 1) := by decide +kernel
theorem dOrders_lead_108 : decode YOrders_lead.2.1 108 = .ok (.if_icmp .ne 7, 3) := by decide +kernel
theorem dOrders_lead_111 : decode YOrders_lead.2.1 111 = .ok (.iconst 0, 1) := by decide +kernel
theorem dOrders_lead_112 : decode YOrders_lead.2.1 112 = .ok (.goto 10, 3) := by decide +kernel
theorem dOrders_lead_115 : decode YOrders_lead.2.1 115 = .ok (.aload_n 0, 1) := by decide +kernel
theorem dOrders_lead_116 : decode YOrders_lead.2.1 116 = .ok (.getfield 27, 3) := by decide +kernel
theorem dOrders_lead_119 : decode YOrders_lead.2.1 119 = .ok (.iload 7, 2) := by decide +kernel
theorem dOrders_lead_121 : decode YOrders_lead.2.1 121 = .ok (.iaload, 1) := by decide +kernel
theorem dOrders_lead_122 : decode YOrders_lead.2.1 122 = .ok (.isub, 1) := by decide +kernel
theorem dOrders_lead_123 : decode YOrders_lead.2.1 123 = .ok (.istore 5, 2) := by decide +kernel
theorem dOrders_lead_125 : decode YOrders_lead.2.1 125 = .ok (.aload_n 0, 1) := by decide +kernel
theorem dOrders_lead_126 : decode YOrders_lead.2.1 126 = .ok (.getfield 27, 3) := by decide +kernel
theorem dOrders_lead_129 : decode YOrders_lead.2.1 129 = .ok (.iload 7, 2) := by decide +kernel
theorem dOrders_lead_131 : decode YOrders_lead.2.1 131 = .ok (.iload 4, 2) := by decide +kernel
theorem dOrders_lead_133 : decode YOrders_lead.2.1 133 = .ok (.iload 5, 2) := by decide +kernel
theorem dOrders_lead_135 : decode YOrders_lead.2.1 135 = .ok (.invokestatic 112, 3) := by decide +kernel
theorem dOrders_lead_138 : decode YOrders_lead.2.1 138 = .ok (.iastore, 1) := by decide +kernel
theorem dOrders_lead_139 : decode YOrders_lead.2.1 139 = .ok (.iinc 7 1, 3) := by decide +kernel
theorem dOrders_lead_142 : decode YOrders_lead.2.1 142 = .ok (.goto (-91), 3) := by decide +kernel
theorem dOrders_lead_145 : decode YOrders_lead.2.1 145 = .ok (.iinc 6 1, 3) := by decide +kernel
theorem dOrders_lead_148 : decode YOrders_lead.2.1 148 = .ok (.goto (-106), 3) := by decide +kernel
theorem dOrders_lead_151 : decode YOrders_lead.2.1 151 = .ok (.iload_n 2, 1) := by decide +kernel
theorem dOrders_lead_152 : decode YOrders_lead.2.1 152 = .ok (.ifCond .eq 16, 3) := by decide +kernel
theorem dOrders_lead_155 : decode YOrders_lead.2.1 155 = .ok (.iload 4, 2) := by decide +kernel
theorem dOrders_lead_157 : decode YOrders_lead.2.1 157 = .ok (.iload 5, 2) := by decide +kernel
theorem dOrders_lead_159 : decode YOrders_lead.2.1 159 = .ok (.if_icmp .lt 7, 3) := by decide +kernel
theorem dOrders_lead_162 : decode YOrders_lead.2.1 162 = .ok (.iconst 0, 1) := by decide +kernel
theorem dOrders_lead_163 : decode YOrders_lead.2.1 163 = .ok (.goto 4, 3) := by decide +kernel
theorem dOrders_lead_166 : decode YOrders_lead.2.1 166 = .ok (.iconst 1, 1) := by decide +kernel
theorem dOrders_lead_167 : decode YOrders_lead.2.1 167 = .ok (.ireturn, 1) := by decide +kernel
theorem dOrders_lead_168 : decode YOrders_lead.2.1 168 = .ok (.aload_n 0, 1) := by decide +kernel
theorem dOrders_lead_169 : decode YOrders_lead.2.1 169 = .ok (.getfield 27, 3) := by decide +kernel
theorem dOrders_lead_172 : decode YOrders_lead.2.1 172 = .ok (.iconst 0, 1) := by decide +kernel
theorem dOrders_lead_173 : decode YOrders_lead.2.1 173 = .ok (.iaload, 1) := by decide +kernel
theorem dOrders_lead_174 : decode YOrders_lead.2.1 174 = .ok (.ireturn, 1) := by decide +kernel
theorem dRacks_init_0 : decode YRacks_init.2.1 0 = .ok (.aload_n 0, 1) := by decide +kernel
theorem dRacks_init_1 : decode YRacks_init.2.1 1 = .ok (.invokespecial 3, 3) := by decide +kernel
theorem dRacks_init_4 : decode YRacks_init.2.1 4 = .ok (.return_, 1) := by decide +kernel
theorem dRacks_atFirst_0 : decode YRacks_atFirst.2.1 0 = .ok (.iconst 0, 1) := by decide +kernel
theorem dRacks_atFirst_1 : decode YRacks_atFirst.2.1 1 = .ok (.istore_n 1, 1) := by decide +kernel
theorem dRacks_atFirst_2 : decode YRacks_atFirst.2.1 2 = .ok (.iconst 0, 1) := by decide +kernel
theorem dRacks_atFirst_3 : decode YRacks_atFirst.2.1 3 = .ok (.istore_n 2, 1) := by decide +kernel
theorem dRacks_atFirst_4 : decode YRacks_atFirst.2.1 4 = .ok (.iload_n 2, 1) := by decide +kernel
theorem dRacks_atFirst_5 : decode YRacks_atFirst.2.1 5 = .ok (.aload_n 0, 1) := by decide +kernel
theorem dRacks_atFirst_6 : decode YRacks_atFirst.2.1 6 = .ok (.getfield 9, 3) := by decide +kernel
theorem dRacks_atFirst_9 : decode YRacks_atFirst.2.1 9 = .ok (.if_icmp .ge 22, 3) := by decide +kernel
theorem dRacks_atFirst_12 : decode YRacks_atFirst.2.1 12 = .ok (.iload_n 1, 1) := by decide +kernel
theorem dRacks_atFirst_13 : decode YRacks_atFirst.2.1 13 = .ok (.aload_n 0, 1) := by decide +kernel
theorem dRacks_atFirst_14 : decode YRacks_atFirst.2.1 14 = .ok (.getfield 15, 3) := by decide +kernel
theorem dRacks_atFirst_17 : decode YRacks_atFirst.2.1 17 = .ok (.iload_n 2, 1) := by decide +kernel
theorem dRacks_atFirst_18 : decode YRacks_atFirst.2.1 18 = .ok (.iaload, 1) := by decide +kernel
theorem dRacks_atFirst_19 : decode YRacks_atFirst.2.1 19 = .ok (.iconst 2, 1) := by decide +kernel
theorem dRacks_atFirst_20 : decode YRacks_atFirst.2.1 20 = .ok (.iload_n 2, 1) := by decide +kernel
theorem dRacks_atFirst_21 : decode YRacks_atFirst.2.1 21 = .ok (.imul, 1) := by decide +kernel
theorem dRacks_atFirst_22 : decode YRacks_atFirst.2.1 22 = .ok (.ishl, 1) := by decide +kernel
theorem dRacks_atFirst_23 : decode YRacks_atFirst.2.1 23 = .ok (.ior, 1) := by decide +kernel
theorem dRacks_atFirst_24 : decode YRacks_atFirst.2.1 24 = .ok (.istore_n 1, 1) := by decide +kernel
theorem dRacks_atFirst_25 : decode YRacks_atFirst.2.1 25 = .ok (.iinc 2 1, 3) := by decide +kernel
theorem dRacks_atFirst_28 : decode YRacks_atFirst.2.1 28 = .ok (.goto (-24), 3) := by decide +kernel
theorem dRacks_atFirst_31 : decode YRacks_atFirst.2.1 31 = .ok (.iload_n 1, 1) := by decide +kernel
theorem dRacks_atFirst_32 : decode YRacks_atFirst.2.1 32 = .ok (.ireturn, 1) := by decide +kernel
theorem dRacks_behindRound_0 : decode YRacks_behindRound.2.1 0 = .ok (.iconst 0, 1) := by decide +kernel
theorem dRacks_behindRound_1 : decode YRacks_behindRound.2.1 1 = .ok (.istore_n 2, 1) := by decide +kernel
theorem dRacks_behindRound_2 : decode YRacks_behindRound.2.1 2 = .ok (.iconst 0, 1) := by decide +kernel
theorem dRacks_behindRound_3 : decode YRacks_behindRound.2.1 3 = .ok (.istore_n 3, 1) := by decide +kernel
theorem dRacks_behindRound_4 : decode YRacks_behindRound.2.1 4 = .ok (.iload_n 3, 1) := by decide +kernel
theorem dRacks_behindRound_5 : decode YRacks_behindRound.2.1 5 = .ok (.aload_n 0, 1) := by decide +kernel
theorem dRacks_behindRound_6 : decode YRacks_behindRound.2.1 6 = .ok (.getfield 9, 3) := by decide +kernel
theorem dRacks_behindRound_9 : decode YRacks_behindRound.2.1 9 = .ok (.if_icmp .ge 57, 3) := by decide +kernel
theorem dRacks_behindRound_12 : decode YRacks_behindRound.2.1 12 = .ok (.aload_n 0, 1) := by decide +kernel
theorem dRacks_behindRound_13 : decode YRacks_behindRound.2.1 13 = .ok (.getfield 19, 3) := by decide +kernel
theorem dRacks_behindRound_16 : decode YRacks_behindRound.2.1 16 = .ok (.iload_n 3, 1) := by decide +kernel
theorem dRacks_behindRound_17 : decode YRacks_behindRound.2.1 17 = .ok (.iaload, 1) := by decide +kernel
theorem dRacks_behindRound_18 : decode YRacks_behindRound.2.1 18 = .ok (.istore 4, 2) := by decide +kernel
theorem dRacks_behindRound_20 : decode YRacks_behindRound.2.1 20 = .ok (.iload 4, 2) := by decide +kernel
theorem dRacks_behindRound_22 : decode YRacks_behindRound.2.1 22 = .ok (.iconst (-1), 1) := by decide +kernel
theorem dRacks_behindRound_23 : decode YRacks_behindRound.2.1 23 = .ok (.if_icmp .ne 11, 3) := by decide +kernel
theorem dRacks_behindRound_26 : decode YRacks_behindRound.2.1 26 = .ok (.iload_n 1, 1) := by decide +kernel
theorem dRacks_behindRound_27 : decode YRacks_behindRound.2.1 27 = .ok (.iconst 2, 1) := by decide +kernel
theorem dRacks_behindRound_28 : decode YRacks_behindRound.2.1 28 = .ok (.iload_n 3, 1) := by decide +kernel
theorem dRacks_behindRound_29 : decode YRacks_behindRound.2.1 29 = .ok (.imul, 1) := by decide +kernel
theorem dRacks_behindRound_30 : decode YRacks_behindRound.2.1 30 = .ok (.ishr, 1) := by decide +kernel
theorem dRacks_behindRound_31 : decode YRacks_behindRound.2.1 31 = .ok (.goto 16, 3) := by decide +kernel
theorem dRacks_behindRound_34 : decode YRacks_behindRound.2.1 34 = .ok (.iload_n 1, 1) := by decide +kernel
theorem dRacks_behindRound_35 : decode YRacks_behindRound.2.1 35 = .ok (.iconst 2, 1) := by decide +kernel
theorem dRacks_behindRound_36 : decode YRacks_behindRound.2.1 36 = .ok (.iload 4, 2) := by decide +kernel
theorem dRacks_behindRound_38 : decode YRacks_behindRound.2.1 38 = .ok (.imul, 1) := by decide +kernel
theorem dRacks_behindRound_39 : decode YRacks_behindRound.2.1 39 = .ok (.ishr, 1) := by decide +kernel
theorem dRacks_behindRound_40 : decode YRacks_behindRound.2.1 40 = .ok (.aload_n 0, 1) := by decide +kernel
theorem dRacks_behindRound_41 : decode YRacks_behindRound.2.1 41 = .ok (.getfield 22, 3) := by decide +kernel
theorem dRacks_behindRound_44 : decode YRacks_behindRound.2.1 44 = .ok (.iload_n 3, 1) := by decide +kernel
theorem dRacks_behindRound_45 : decode YRacks_behindRound.2.1 45 = .ok (.iaload, 1) := by decide +kernel
theorem dRacks_behindRound_46 : decode YRacks_behindRound.2.1 46 = .ok (.iadd, 1) := by decide +kernel
theorem dRacks_behindRound_47 : decode YRacks_behindRound.2.1 47 = .ok (.istore 5, 2) := by decide +kernel
theorem dRacks_behindRound_49 : decode YRacks_behindRound.2.1 49 = .ok (.iload_n 2, 1) := by decide +kernel
theorem dRacks_behindRound_50 : decode YRacks_behindRound.2.1 50 = .ok (.iload 5, 2) := by decide +kernel
theorem dRacks_behindRound_52 : decode YRacks_behindRound.2.1 52 = .ok (.iconst 3, 1) := by decide +kernel
theorem dRacks_behindRound_53 : decode YRacks_behindRound.2.1 53 = .ok (.iand, 1) := by decide +kernel
theorem dRacks_behindRound_54 : decode YRacks_behindRound.2.1 54 = .ok (.iconst 2, 1) := by decide +kernel
theorem dRacks_behindRound_55 : decode YRacks_behindRound.2.1 55 = .ok (.iload_n 3, 1) := by decide +kernel
theorem dRacks_behindRound_56 : decode YRacks_behindRound.2.1 56 = .ok (.imul, 1) := by decide +kernel
theorem dRacks_behindRound_57 : decode YRacks_behindRound.2.1 57 = .ok (.ishl, 1) := by decide +kernel
theorem dRacks_behindRound_58 : decode YRacks_behindRound.2.1 58 = .ok (.ior, 1) := by decide +kernel
theorem dRacks_behindRound_59 : decode YRacks_behindRound.2.1 59 = .ok (.istore_n 2, 1) := by decide +kernel
theorem dRacks_behindRound_60 : decode YRacks_behindRound.2.1 60 = .ok (.iinc 3 1, 3) := by decide +kernel
theorem dRacks_behindRound_63 : decode YRacks_behindRound.2.1 63 = .ok (.goto (-59), 3) := by decide +kernel
theorem dRacks_behindRound_66 : decode YRacks_behindRound.2.1 66 = .ok (.iload_n 2, 1) := by decide +kernel
theorem dRacks_behindRound_67 : decode YRacks_behindRound.2.1 67 = .ok (.ireturn, 1) := by decide +kernel
theorem dRacks_behindRounds_0 : decode YRacks_behindRounds.2.1 0 = .ok (.aload_n 0, 1) := by decide +kernel
theorem dRacks_behindRounds_1 : decode YRacks_behindRounds.2.1 1 = .ok (.invokestatic 25, 3) := by decide +kernel
theorem dRacks_behindRounds_4 : decode YRacks_behindRounds.2.1 4 = .ok (.istore_n 2, 1) := by decide +kernel
theorem dRacks_behindRounds_5 : decode YRacks_behindRounds.2.1 5 = .ok (.iconst 0, 1) := by decide +kernel
theorem dRacks_behindRounds_6 : decode YRacks_behindRounds.2.1 6 = .ok (.istore_n 3, 1) := by decide +kernel
theorem dRacks_behindRounds_7 : decode YRacks_behindRounds.2.1 7 = .ok (.iload_n 3, 1) := by decide +kernel
theorem dRacks_behindRounds_8 : decode YRacks_behindRounds.2.1 8 = .ok (.iload_n 1, 1) := by decide +kernel
theorem dRacks_behindRounds_9 : decode YRacks_behindRounds.2.1 9 = .ok (.if_icmp .ge 15, 3) := by decide +kernel
theorem dRacks_behindRounds_12 : decode YRacks_behindRounds.2.1 12 = .ok (.aload_n 0, 1) := by decide +kernel
theorem dRacks_behindRounds_13 : decode YRacks_behindRounds.2.1 13 = .ok (.iload_n 2, 1) := by decide +kernel
theorem dRacks_behindRounds_14 : decode YRacks_behindRounds.2.1 14 = .ok (.invokestatic 31, 3) := by decide +kernel
theorem dRacks_behindRounds_17 : decode YRacks_behindRounds.2.1 17 = .ok (.istore_n 2, 1) := by decide +kernel
theorem dRacks_behindRounds_18 : decode YRacks_behindRounds.2.1 18 = .ok (.iinc 3 1, 3) := by decide +kernel
theorem dRacks_behindRounds_21 : decode YRacks_behindRounds.2.1 21 = .ok (.goto (-14), 3) := by decide +kernel
theorem dRacks_behindRounds_24 : decode YRacks_behindRounds.2.1 24 = .ok (.iload_n 2, 1) := by decide +kernel
theorem dRacks_behindRounds_25 : decode YRacks_behindRounds.2.1 25 = .ok (.ireturn, 1) := by decide +kernel
theorem dRacks_rackOf_0 : decode YRacks_rackOf.2.1 0 = .ok (.aload_n 1, 1) := by decide +kernel
theorem dRacks_rackOf_1 : decode YRacks_rackOf.2.1 1 = .ok (.iload_n 3, 1) := by decide +kernel
theorem dRacks_rackOf_2 : decode YRacks_rackOf.2.1 2 = .ok (.invokestatic 35, 3) := by decide +kernel
theorem dRacks_rackOf_5 : decode YRacks_rackOf.2.1 5 = .ok (.iconst 2, 1) := by decide +kernel
theorem dRacks_rackOf_6 : decode YRacks_rackOf.2.1 6 = .ok (.iload_n 2, 1) := by decide +kernel
theorem dRacks_rackOf_7 : decode YRacks_rackOf.2.1 7 = .ok (.imul, 1) := by decide +kernel
theorem dRacks_rackOf_8 : decode YRacks_rackOf.2.1 8 = .ok (.ishr, 1) := by decide +kernel
theorem dRacks_rackOf_9 : decode YRacks_rackOf.2.1 9 = .ok (.iconst 3, 1) := by decide +kernel
theorem dRacks_rackOf_10 : decode YRacks_rackOf.2.1 10 = .ok (.iand, 1) := by decide +kernel
theorem dRacks_rackOf_11 : decode YRacks_rackOf.2.1 11 = .ok (.ireturn, 1) := by decide +kernel
theorem dRacks_settledBehind_0 : decode YRacks_settledBehind.2.1 0 = .ok (.aload_n 1, 1) := by decide +kernel
theorem dRacks_settledBehind_1 : decode YRacks_settledBehind.2.1 1 = .ok (.invokestatic 25, 3) := by decide +kernel
theorem dRacks_settledBehind_4 : decode YRacks_settledBehind.2.1 4 = .ok (.istore_n 2, 1) := by decide +kernel
theorem dRacks_settledBehind_5 : decode YRacks_settledBehind.2.1 5 = .ok (.iconst 0, 1) := by decide +kernel
theorem dRacks_settledBehind_6 : decode YRacks_settledBehind.2.1 6 = .ok (.istore_n 3, 1) := by decide +kernel
theorem dRacks_settledBehind_7 : decode YRacks_settledBehind.2.1 7 = .ok (.iload_n 3, 1) := by decide +kernel
theorem dRacks_settledBehind_8 : decode YRacks_settledBehind.2.1 8 = .ok (.bipush 10, 2) := by decide +kernel
theorem dRacks_settledBehind_10 : decode YRacks_settledBehind.2.1 10 = .ok (.if_icmp .gt 27, 3) := by decide +kernel
theorem dRacks_settledBehind_13 : decode YRacks_settledBehind.2.1 13 = .ok (.aload_n 1, 1) := by decide +kernel
theorem dRacks_settledBehind_14 : decode YRacks_settledBehind.2.1 14 = .ok (.iload_n 2, 1) := by decide +kernel
theorem dRacks_settledBehind_15 : decode YRacks_settledBehind.2.1 15 = .ok (.invokestatic 31, 3) := by decide +kernel
theorem dRacks_settledBehind_18 : decode YRacks_settledBehind.2.1 18 = .ok (.istore 4, 2) := by decide +kernel
theorem dRacks_settledBehind_20 : decode YRacks_settledBehind.2.1 20 = .ok (.iload 4, 2) := by decide +kernel
theorem dRacks_settledBehind_22 : decode YRacks_settledBehind.2.1 22 = .ok (.iload_n 2, 1) := by decide +kernel
theorem dRacks_settledBehind_23 : decode YRacks_settledBehind.2.1 23 = .ok (.if_icmp .ne 5, 3) := by decide +kernel
theorem dRacks_settledBehind_26 : decode YRacks_settledBehind.2.1 26 = .ok (.iload_n 3, 1) := by decide +kernel
theorem dRacks_settledBehind_27 : decode YRacks_settledBehind.2.1 27 = .ok (.ireturn, 1) := by decide +kernel
theorem dRacks_settledBehind_28 : decode YRacks_settledBehind.2.1 28 = .ok (.iload 4, 2) := by decide +kernel
theorem dRacks_settledBehind_30 : decode YRacks_settledBehind.2.1 30 = .ok (.istore_n 2, 1) := by decide +kernel
theorem dRacks_settledBehind_31 : decode YRacks_settledBehind.2.1 31 = .ok (.iinc 3 1, 3) := by decide +kernel
theorem dRacks_settledBehind_34 : decode YRacks_settledBehind.2.1 34 = .ok (.goto (-27), 3) := by decide +kernel
theorem dRacks_settledBehind_37 : decode YRacks_settledBehind.2.1 37 = .ok (.iconst (-1), 1) := by decide +kernel
theorem dRacks_settledBehind_38 : decode YRacks_settledBehind.2.1 38 = .ok (.ireturn, 1) := by decide +kernel
theorem dRacks_findRing_0 : decode YRacks_findRing.2.1 0 = .ok (.aload_n 1, 1) := by decide +kernel
theorem dRacks_findRing_1 : decode YRacks_findRing.2.1 1 = .ok (.bipush 10, 2) := by decide +kernel
theorem dRacks_findRing_3 : decode YRacks_findRing.2.1 3 = .ok (.invokestatic 35, 3) := by decide +kernel
theorem dRacks_findRing_6 : decode YRacks_findRing.2.1 6 = .ok (.istore_n 2, 1) := by decide +kernel
theorem dRacks_findRing_7 : decode YRacks_findRing.2.1 7 = .ok (.iconst 0, 1) := by decide +kernel
theorem dRacks_findRing_8 : decode YRacks_findRing.2.1 8 = .ok (.istore_n 3, 1) := by decide +kernel
theorem dRacks_findRing_9 : decode YRacks_findRing.2.1 9 = .ok (.iload_n 2, 1) := by decide +kernel
theorem dRacks_findRing_10 : decode YRacks_findRing.2.1 10 = .ok (.istore 4, 2) := by decide +kernel
theorem dRacks_findRing_12 : decode YRacks_findRing.2.1 12 = .ok (.aload_n 0, 1) := by decide +kernel
theorem dRacks_findRing_13 : decode YRacks_findRing.2.1 13 = .ok (.iconst 0, 1) := by decide +kernel
theorem dRacks_findRing_14 : decode YRacks_findRing.2.1 14 = .ok (.putfield 38, 3) := by decide +kernel
theorem dRacks_findRing_17 : decode YRacks_findRing.2.1 17 = .ok (.iconst 1, 1) := by decide +kernel
theorem dRacks_findRing_18 : decode YRacks_findRing.2.1 18 = .ok (.istore 5, 2) := by decide +kernel
theorem dRacks_findRing_20 : decode YRacks_findRing.2.1 20 = .ok (.iload 5, 2) := by decide +kernel
theorem dRacks_findRing_22 : decode YRacks_findRing.2.1 22 = .ok (.sipush 1000, 3) := by decide +kernel
theorem dRacks_findRing_25 : decode YRacks_findRing.2.1 25 = .ok (.if_icmp .gt 43, 3) := by decide +kernel
theorem dRacks_findRing_28 : decode YRacks_findRing.2.1 28 = .ok (.aload_n 0, 1) := by decide +kernel
theorem dRacks_findRing_29 : decode YRacks_findRing.2.1 29 = .ok (.getfield 38, 3) := by decide +kernel
theorem dRacks_findRing_32 : decode YRacks_findRing.2.1 32 = .ok (.ifCond .ne 36, 3) := by decide +kernel
theorem dRacks_findRing_35 : decode YRacks_findRing.2.1 35 = .ok (.aload_n 1, 1) := by decide +kernel
theorem dRacks_findRing_36 : decode YRacks_findRing.2.1 36 = .ok (.iload 4, 2) := by decide +kernel
theorem dRacks_findRing_38 : decode YRacks_findRing.2.1 38 = .ok (.invokestatic 31, 3) := by decide +kernel
theorem dRacks_findRing_41 : decode YRacks_findRing.2.1 41 = .ok (.istore 4, 2) := by decide +kernel
theorem dRacks_findRing_43 : decode YRacks_findRing.2.1 43 = .ok (.iload_n 3, 1) := by decide +kernel
theorem dRacks_findRing_44 : decode YRacks_findRing.2.1 44 = .ok (.iload 4, 2) := by decide +kernel
theorem dRacks_findRing_46 : decode YRacks_findRing.2.1 46 = .ok (.iload_n 2, 1) := by decide +kernel
theorem dRacks_findRing_47 : decode YRacks_findRing.2.1 47 = .ok (.ixor, 1) := by decide +kernel
theorem dRacks_findRing_48 : decode YRacks_findRing.2.1 48 = .ok (.ior, 1) := by decide +kernel
theorem dRacks_findRing_49 : decode YRacks_findRing.2.1 49 = .ok (.istore_n 3, 1) := by decide +kernel
theorem dRacks_findRing_50 : decode YRacks_findRing.2.1 50 = .ok (.iload 4, 2) := by decide +kernel
theorem dRacks_findRing_52 : decode YRacks_findRing.2.1 52 = .ok (.iload_n 2, 1) := by decide +kernel
theorem dRacks_findRing_53 : decode YRacks_findRing.2.1 53 = .ok (.if_icmp .ne 9, 3) := by decide +kernel
theorem dRacks_findRing_56 : decode YRacks_findRing.2.1 56 = .ok (.aload_n 0, 1) := by decide +kernel
theorem dRacks_findRing_57 : decode YRacks_findRing.2.1 57 = .ok (.iload 5, 2) := by decide +kernel
theorem dRacks_findRing_59 : decode YRacks_findRing.2.1 59 = .ok (.putfield 38, 3) := by decide +kernel
theorem dRacks_findRing_62 : decode YRacks_findRing.2.1 62 = .ok (.iinc 5 1, 3) := by decide +kernel
theorem dRacks_findRing_65 : decode YRacks_findRing.2.1 65 = .ok (.goto (-45), 3) := by decide +kernel
theorem dRacks_findRing_68 : decode YRacks_findRing.2.1 68 = .ok (.aload_n 0, 1) := by decide +kernel
theorem dRacks_findRing_69 : decode YRacks_findRing.2.1 69 = .ok (.iconst 0, 1) := by decide +kernel
theorem dRacks_findRing_70 : decode YRacks_findRing.2.1 70 = .ok (.putfield 41, 3) := by decide +kernel
theorem dRacks_findRing_73 : decode YRacks_findRing.2.1 73 = .ok (.iconst 0, 1) := by decide +kernel
theorem dRacks_findRing_74 : decode YRacks_findRing.2.1 74 = .ok (.istore 5, 2) := by decide +kernel
theorem dRacks_findRing_76 : decode YRacks_findRing.2.1 76 = .ok (.iload 5, 2) := by decide +kernel
theorem dRacks_findRing_78 : decode YRacks_findRing.2.1 78 = .ok (.aload_n 1, 1) := by decide +kernel
theorem dRacks_findRing_79 : decode YRacks_findRing.2.1 79 = .ok (.getfield 9, 3) := by decide +kernel
theorem dRacks_findRing_82 : decode YRacks_findRing.2.1 82 = .ok (.if_icmp .ge 33, 3) := by decide +kernel
theorem dRacks_findRing_85 : decode YRacks_findRing.2.1 85 = .ok (.iload_n 3, 1) := by decide +kernel
theorem dRacks_findRing_86 : decode YRacks_findRing.2.1 86 = .ok (.iconst 2, 1) := by decide +kernel
theorem dRacks_findRing_87 : decode YRacks_findRing.2.1 87 = .ok (.iload 5, 2) := by decide +kernel
theorem dRacks_findRing_89 : decode YRacks_findRing.2.1 89 = .ok (.imul, 1) := by decide +kernel
theorem dRacks_findRing_90 : decode YRacks_findRing.2.1 90 = .ok (.ishr, 1) := by decide +kernel
theorem dRacks_findRing_91 : decode YRacks_findRing.2.1 91 = .ok (.iconst 3, 1) := by decide +kernel
theorem dRacks_findRing_92 : decode YRacks_findRing.2.1 92 = .ok (.iand, 1) := by decide +kernel
theorem dRacks_findRing_93 : decode YRacks_findRing.2.1 93 = .ok (.ifCond .eq 16, 3) := by decide +kernel
theorem dRacks_findRing_96 : decode YRacks_findRing.2.1 96 = .ok (.aload_n 0, 1) := by decide +kernel
theorem dRacks_findRing_97 : decode YRacks_findRing.2.1 97 = .ok (.dup, 1) := by decide +kernel
theorem dRacks_findRing_98 : decode YRacks_findRing.2.1 98 = .ok (.getfield 41, 3) := by decide +kernel
theorem dRacks_findRing_101 : decode YRacks_findRing.2.1 101 = .ok (.iconst 1, 1) := by decide +kernel
theorem dRacks_findRing_102 : decode YRacks_findRing.2.1 102 = .ok (.iload 5, 2) := by decide +kernel
theorem dRacks_findRing_104 : decode YRacks_findRing.2.1 104 = .ok (.ishl, 1) := by decide +kernel
theorem dRacks_findRing_105 : decode YRacks_findRing.2.1 105 = .ok (.ior, 1) := by decide +kernel
theorem dRacks_findRing_106 : decode YRacks_findRing.2.1 106 = .ok (.putfield 41, 3) := by decide +kernel
theorem dRacks_findRing_109 : decode YRacks_findRing.2.1 109 = .ok (.iinc 5 1, 3) := by decide +kernel
theorem dRacks_findRing_112 : decode YRacks_findRing.2.1 112 = .ok (.goto (-36), 3) := by decide +kernel
theorem dRacks_findRing_115 : decode YRacks_findRing.2.1 115 = .ok (.return_, 1) := by decide +kernel
theorem dRacks_longestRow_0 : decode YRacks_longestRow.2.1 0 = .ok (.iconst 0, 1) := by decide +kernel
theorem dRacks_longestRow_1 : decode YRacks_longestRow.2.1 1 = .ok (.istore_n 2, 1) := by decide +kernel
theorem dRacks_longestRow_2 : decode YRacks_longestRow.2.1 2 = .ok (.iconst 0, 1) := by decide +kernel
theorem dRacks_longestRow_3 : decode YRacks_longestRow.2.1 3 = .ok (.istore_n 3, 1) := by decide +kernel
theorem dRacks_longestRow_4 : decode YRacks_longestRow.2.1 4 = .ok (.iload_n 3, 1) := by decide +kernel
theorem dRacks_longestRow_5 : decode YRacks_longestRow.2.1 5 = .ok (.aload_n 1, 1) := by decide +kernel
theorem dRacks_longestRow_6 : decode YRacks_longestRow.2.1 6 = .ok (.getfield 9, 3) := by decide +kernel
theorem dRacks_longestRow_9 : decode YRacks_longestRow.2.1 9 = .ok (.if_icmp .ge 19, 3) := by decide +kernel
theorem dRacks_longestRow_12 : decode YRacks_longestRow.2.1 12 = .ok (.iload_n 2, 1) := by decide +kernel
theorem dRacks_longestRow_13 : decode YRacks_longestRow.2.1 13 = .ok (.aload_n 1, 1) := by decide +kernel
theorem dRacks_longestRow_14 : decode YRacks_longestRow.2.1 14 = .ok (.iload_n 3, 1) := by decide +kernel
theorem dRacks_longestRow_15 : decode YRacks_longestRow.2.1 15 = .ok (.invokestatic 44, 3) := by decide +kernel
theorem dRacks_longestRow_18 : decode YRacks_longestRow.2.1 18 = .ok (.invokestatic 47, 3) := by decide +kernel
theorem dRacks_longestRow_21 : decode YRacks_longestRow.2.1 21 = .ok (.istore_n 2, 1) := by decide +kernel
theorem dRacks_longestRow_22 : decode YRacks_longestRow.2.1 22 = .ok (.iinc 3 1, 3) := by decide +kernel
theorem dRacks_longestRow_25 : decode YRacks_longestRow.2.1 25 = .ok (.goto (-21), 3) := by decide +kernel
theorem dRacks_longestRow_28 : decode YRacks_longestRow.2.1 28 = .ok (.iload_n 2, 1) := by decide +kernel
theorem dRacks_longestRow_29 : decode YRacks_longestRow.2.1 29 = .ok (.ireturn, 1) := by decide +kernel
theorem dRacks_rowFrom_0 : decode YRacks_rowFrom.2.1 0 = .ok (.iconst 0, 1) := by decide +kernel
theorem dRacks_rowFrom_1 : decode YRacks_rowFrom.2.1 1 = .ok (.istore_n 2, 1) := by decide +kernel
theorem dRacks_rowFrom_2 : decode YRacks_rowFrom.2.1 2 = .ok (.iload_n 1, 1) := by decide +kernel
theorem dRacks_rowFrom_3 : decode YRacks_rowFrom.2.1 3 = .ok (.istore_n 3, 1) := by decide +kernel
theorem dRacks_rowFrom_4 : decode YRacks_rowFrom.2.1 4 = .ok (.iconst 0, 1) := by decide +kernel
theorem dRacks_rowFrom_5 : decode YRacks_rowFrom.2.1 5 = .ok (.istore 4, 2) := by decide +kernel
theorem dRacks_rowFrom_7 : decode YRacks_rowFrom.2.1 7 = .ok (.iload 4, 2) := by decide +kernel
theorem dRacks_rowFrom_9 : decode YRacks_rowFrom.2.1 9 = .ok (.aload_n 0, 1) := by decide +kernel
theorem dRacks_rowFrom_10 : decode YRacks_rowFrom.2.1 10 = .ok (.getfield 9, 3) := by decide +kernel
theorem dRacks_rowFrom_13 : decode YRacks_rowFrom.2.1 13 = .ok (.if_icmp .ge 35, 3) := by decide +kernel
theorem dRacks_rowFrom_16 : decode YRacks_rowFrom.2.1 16 = .ok (.iload_n 3, 1) := by decide +kernel
theorem dRacks_rowFrom_17 : decode YRacks_rowFrom.2.1 17 = .ok (.iconst (-1), 1) := by decide +kernel
theorem dRacks_rowFrom_18 : decode YRacks_rowFrom.2.1 18 = .ok (.if_icmp .eq 30, 3) := by decide +kernel
theorem dRacks_rowFrom_21 : decode YRacks_rowFrom.2.1 21 = .ok (.iload_n 2, 1) := by decide +kernel
theorem dRacks_rowFrom_22 : decode YRacks_rowFrom.2.1 22 = .ok (.iload_n 3, 1) := by decide +kernel
theorem dRacks_rowFrom_23 : decode YRacks_rowFrom.2.1 23 = .ok (.ishr, 1) := by decide +kernel
theorem dRacks_rowFrom_24 : decode YRacks_rowFrom.2.1 24 = .ok (.iconst 1, 1) := by decide +kernel
theorem dRacks_rowFrom_25 : decode YRacks_rowFrom.2.1 25 = .ok (.iand, 1) := by decide +kernel
theorem dRacks_rowFrom_26 : decode YRacks_rowFrom.2.1 26 = .ok (.ifCond .ne 22, 3) := by decide +kernel
theorem dRacks_rowFrom_29 : decode YRacks_rowFrom.2.1 29 = .ok (.iload_n 2, 1) := by decide +kernel
theorem dRacks_rowFrom_30 : decode YRacks_rowFrom.2.1 30 = .ok (.iconst 1, 1) := by decide +kernel
theorem dRacks_rowFrom_31 : decode YRacks_rowFrom.2.1 31 = .ok (.iload_n 3, 1) := by decide +kernel
theorem dRacks_rowFrom_32 : decode YRacks_rowFrom.2.1 32 = .ok (.ishl, 1) := by decide +kernel
theorem dRacks_rowFrom_33 : decode YRacks_rowFrom.2.1 33 = .ok (.ior, 1) := by decide +kernel
theorem dRacks_rowFrom_34 : decode YRacks_rowFrom.2.1 34 = .ok (.istore_n 2, 1) := by decide +kernel
theorem dRacks_rowFrom_35 : decode YRacks_rowFrom.2.1 35 = .ok (.aload_n 0, 1) := by decide +kernel
theorem dRacks_rowFrom_36 : decode YRacks_rowFrom.2.1 36 = .ok (.getfield 19, 3) := by decide +kernel
theorem dRacks_rowFrom_39 : decode YRacks_rowFrom.2.1 39 = .ok (.iload_n 3, 1) := by decide +kernel
theorem dRacks_rowFrom_40 : decode YRacks_rowFrom.2.1 40 = .ok (.iaload, 1) := by decide +kernel
theorem dRacks_rowFrom_41 : decode YRacks_rowFrom.2.1 41 = .ok (.istore_n 3, 1) := by decide +kernel
theorem dRacks_rowFrom_42 : decode YRacks_rowFrom.2.1 42 = .ok (.iinc 4 1, 3) := by decide +kernel
theorem dRacks_rowFrom_45 : decode YRacks_rowFrom.2.1 45 = .ok (.goto (-38), 3) := by decide +kernel
theorem dRacks_rowFrom_48 : decode YRacks_rowFrom.2.1 48 = .ok (.iload 4, 2) := by decide +kernel
theorem dRacks_rowFrom_50 : decode YRacks_rowFrom.2.1 50 = .ok (.ireturn, 1) := by decide +kernel
theorem dRacks_loosened_0 : decode YRacks_loosened.2.1 0 = .ok (.aload_n 0, 1) := by decide +kernel
theorem dRacks_loosened_1 : decode YRacks_loosened.2.1 1 = .ok (.aload_n 1, 1) := by decide +kernel
theorem dRacks_loosened_2 : decode YRacks_loosened.2.1 2 = .ok (.invokevirtual 53, 3) := by decide +kernel
theorem dRacks_loosened_5 : decode YRacks_loosened.2.1 5 = .ok (.iconst 0, 1) := by decide +kernel
theorem dRacks_loosened_6 : decode YRacks_loosened.2.1 6 = .ok (.istore_n 2, 1) := by decide +kernel
theorem dRacks_loosened_7 : decode YRacks_loosened.2.1 7 = .ok (.iconst 0, 1) := by decide +kernel
theorem dRacks_loosened_8 : decode YRacks_loosened.2.1 8 = .ok (.istore_n 3, 1) := by decide +kernel
theorem dRacks_loosened_9 : decode YRacks_loosened.2.1 9 = .ok (.iload_n 3, 1) := by decide +kernel
theorem dRacks_loosened_10 : decode YRacks_loosened.2.1 10 = .ok (.aload_n 1, 1) := by decide +kernel
theorem dRacks_loosened_11 : decode YRacks_loosened.2.1 11 = .ok (.getfield 9, 3) := by decide +kernel
theorem dRacks_loosened_14 : decode YRacks_loosened.2.1 14 = .ok (.if_icmp .ge 36, 3) := by decide +kernel
theorem dRacks_loosened_17 : decode YRacks_loosened.2.1 17 = .ok (.aload_n 0, 1) := by decide +kernel
theorem dRacks_loosened_18 : decode YRacks_loosened.2.1 18 = .ok (.getfield 41, 3) := by decide +kernel
theorem dRacks_loosened_21 : decode YRacks_loosened.2.1 21 = .ok (.iload_n 3, 1) := by decide +kernel
theorem dRacks_loosened_22 : decode YRacks_loosened.2.1 22 = .ok (.ishr, 1) := by decide +kernel
theorem dRacks_loosened_23 : decode YRacks_loosened.2.1 23 = .ok (.iconst 1, 1) := by decide +kernel
theorem dRacks_loosened_24 : decode YRacks_loosened.2.1 24 = .ok (.iand, 1) := by decide +kernel
theorem dRacks_loosened_25 : decode YRacks_loosened.2.1 25 = .ok (.iconst 1, 1) := by decide +kernel
theorem dRacks_loosened_26 : decode YRacks_loosened.2.1 26 = .ok (.if_icmp .ne 18, 3) := by decide +kernel
theorem dRacks_loosened_29 : decode YRacks_loosened.2.1 29 = .ok (.aload_n 1, 1) := by decide +kernel
theorem dRacks_loosened_30 : decode YRacks_loosened.2.1 30 = .ok (.iload_n 3, 1) := by decide +kernel
theorem dRacks_loosened_31 : decode YRacks_loosened.2.1 31 = .ok (.invokestatic 57, 3) := by decide +kernel
theorem dRacks_loosened_34 : decode YRacks_loosened.2.1 34 = .ok (.iload_n 3, 1) := by decide +kernel
theorem dRacks_loosened_35 : decode YRacks_loosened.2.1 35 = .ok (.if_icmp .ne 9, 3) := by decide +kernel
theorem dRacks_loosened_38 : decode YRacks_loosened.2.1 38 = .ok (.iload_n 2, 1) := by decide +kernel
theorem dRacks_loosened_39 : decode YRacks_loosened.2.1 39 = .ok (.iconst 1, 1) := by decide +kernel
theorem dRacks_loosened_40 : decode YRacks_loosened.2.1 40 = .ok (.iload_n 3, 1) := by decide +kernel
theorem dRacks_loosened_41 : decode YRacks_loosened.2.1 41 = .ok (.ishl, 1) := by decide +kernel
theorem dRacks_loosened_42 : decode YRacks_loosened.2.1 42 = .ok (.ior, 1) := by decide +kernel
theorem dRacks_loosened_43 : decode YRacks_loosened.2.1 43 = .ok (.istore_n 2, 1) := by decide +kernel
theorem dRacks_loosened_44 : decode YRacks_loosened.2.1 44 = .ok (.iinc 3 1, 3) := by decide +kernel
theorem dRacks_loosened_47 : decode YRacks_loosened.2.1 47 = .ok (.goto (-38), 3) := by decide +kernel
theorem dRacks_loosened_50 : decode YRacks_loosened.2.1 50 = .ok (.iload_n 2, 1) := by decide +kernel
theorem dRacks_loosened_51 : decode YRacks_loosened.2.1 51 = .ok (.ireturn, 1) := by decide +kernel
theorem dRacks_leastOfRing_0 : decode YRacks_leastOfRing.2.1 0 = .ok (.iload_n 1, 1) := by decide +kernel
theorem dRacks_leastOfRing_1 : decode YRacks_leastOfRing.2.1 1 = .ok (.istore_n 2, 1) := by decide +kernel
theorem dRacks_leastOfRing_2 : decode YRacks_leastOfRing.2.1 2 = .ok (.iload_n 1, 1) := by decide +kernel
theorem dRacks_leastOfRing_3 : decode YRacks_leastOfRing.2.1 3 = .ok (.istore_n 3, 1) := by decide +kernel
theorem dRacks_leastOfRing_4 : decode YRacks_leastOfRing.2.1 4 = .ok (.iconst 0, 1) := by decide +kernel
theorem dRacks_leastOfRing_5 : decode YRacks_leastOfRing.2.1 5 = .ok (.istore 4, 2) := by decide +kernel
theorem dRacks_leastOfRing_7 : decode YRacks_leastOfRing.2.1 7 = .ok (.iload 4, 2) := by decide +kernel
theorem dRacks_leastOfRing_9 : decode YRacks_leastOfRing.2.1 9 = .ok (.aload_n 0, 1) := by decide +kernel
theorem dRacks_leastOfRing_10 : decode YRacks_leastOfRing.2.1 10 = .ok (.getfield 9, 3) := by decide +kernel
theorem dRacks_leastOfRing_13 : decode YRacks_leastOfRing.2.1 13 = .ok (.if_icmp .ge 36, 3) := by decide +kernel
theorem dRacks_leastOfRing_16 : decode YRacks_leastOfRing.2.1 16 = .ok (.aload_n 0, 1) := by decide +kernel
theorem dRacks_leastOfRing_17 : decode YRacks_leastOfRing.2.1 17 = .ok (.getfield 19, 3) := by decide +kernel
theorem dRacks_leastOfRing_20 : decode YRacks_leastOfRing.2.1 20 = .ok (.iload_n 3, 1) := by decide +kernel
theorem dRacks_leastOfRing_21 : decode YRacks_leastOfRing.2.1 21 = .ok (.iaload, 1) := by decide +kernel
theorem dRacks_leastOfRing_22 : decode YRacks_leastOfRing.2.1 22 = .ok (.istore_n 3, 1) := by decide +kernel
theorem dRacks_leastOfRing_23 : decode YRacks_leastOfRing.2.1 23 = .ok (.iload_n 3, 1) := by decide +kernel
theorem dRacks_leastOfRing_24 : decode YRacks_leastOfRing.2.1 24 = .ok (.iconst (-1), 1) := by decide +kernel
theorem dRacks_leastOfRing_25 : decode YRacks_leastOfRing.2.1 25 = .ok (.if_icmp .ne 5, 3) := by decide +kernel
theorem dRacks_leastOfRing_28 : decode YRacks_leastOfRing.2.1 28 = .ok (.iconst (-1), 1) := by decide +kernel
theorem dRacks_leastOfRing_29 : decode YRacks_leastOfRing.2.1 29 = .ok (.ireturn, 1) := by decide +kernel
theorem dRacks_leastOfRing_30 : decode YRacks_leastOfRing.2.1 30 = .ok (.iload_n 3, 1) := by decide +kernel
theorem dRacks_leastOfRing_31 : decode YRacks_leastOfRing.2.1 31 = .ok (.iload_n 1, 1) := by decide +kernel
theorem dRacks_leastOfRing_32 : decode YRacks_leastOfRing.2.1 32 = .ok (.if_icmp .ne 5, 3) := by decide +kernel
theorem dRacks_leastOfRing_35 : decode YRacks_leastOfRing.2.1 35 = .ok (.iload_n 2, 1) := by decide +kernel
theorem dRacks_leastOfRing_36 : decode YRacks_leastOfRing.2.1 36 = .ok (.ireturn, 1) := by decide +kernel
theorem dRacks_leastOfRing_37 : decode YRacks_leastOfRing.2.1 37 = .ok (.iload_n 2, 1) := by decide +kernel
theorem dRacks_leastOfRing_38 : decode YRacks_leastOfRing.2.1 38 = .ok (.iload_n 3, 1) := by decide +kernel
theorem dRacks_leastOfRing_39 : decode YRacks_leastOfRing.2.1 39 = .ok (.invokestatic 60, 3) := by decide +kernel
theorem dRacks_leastOfRing_42 : decode YRacks_leastOfRing.2.1 42 = .ok (.istore_n 2, 1) := by decide +kernel
theorem dRacks_leastOfRing_43 : decode YRacks_leastOfRing.2.1 43 = .ok (.iinc 4 1, 3) := by decide +kernel
theorem dRacks_leastOfRing_46 : decode YRacks_leastOfRing.2.1 46 = .ok (.goto (-39), 3) := by decide +kernel
theorem dRacks_leastOfRing_49 : decode YRacks_leastOfRing.2.1 49 = .ok (.iconst (-1), 1) := by decide +kernel
theorem dRacks_leastOfRing_50 : decode YRacks_leastOfRing.2.1 50 = .ok (.ireturn, 1) := by decide +kernel
theorem dReader_init_0 : decode YReader_init.2.1 0 = .ok (.aload_n 0, 1) := by decide +kernel
theorem dReader_init_1 : decode YReader_init.2.1 1 = .ok (.invokespecial 3, 3) := by decide +kernel
theorem dReader_init_4 : decode YReader_init.2.1 4 = .ok (.aload_n 0, 1) := by decide +kernel
theorem dReader_init_5 : decode YReader_init.2.1 5 = .ok (.new 9, 3) := by decide +kernel
theorem dReader_init_8 : decode YReader_init.2.1 8 = .ok (.dup, 1) := by decide +kernel
theorem dReader_init_9 : decode YReader_init.2.1 9 = .ok (.invokespecial 11, 3) := by decide +kernel
theorem dReader_init_12 : decode YReader_init.2.1 12 = .ok (.putfield 12, 3) := by decide +kernel
theorem dReader_init_15 : decode YReader_init.2.1 15 = .ok (.aload_n 0, 1) := by decide +kernel
theorem dReader_init_16 : decode YReader_init.2.1 16 = .ok (.new 18, 3) := by decide +kernel
theorem dReader_init_19 : decode YReader_init.2.1 19 = .ok (.dup, 1) := by decide +kernel
theorem dReader_init_20 : decode YReader_init.2.1 20 = .ok (.invokespecial 20, 3) := by decide +kernel
theorem dReader_init_23 : decode YReader_init.2.1 23 = .ok (.putfield 21, 3) := by decide +kernel
theorem dReader_init_26 : decode YReader_init.2.1 26 = .ok (.aload_n 0, 1) := by decide +kernel
theorem dReader_init_27 : decode YReader_init.2.1 27 = .ok (.new 25, 3) := by decide +kernel
theorem dReader_init_30 : decode YReader_init.2.1 30 = .ok (.dup, 1) := by decide +kernel
theorem dReader_init_31 : decode YReader_init.2.1 31 = .ok (.invokespecial 27, 3) := by decide +kernel
theorem dReader_init_34 : decode YReader_init.2.1 34 = .ok (.putfield 28, 3) := by decide +kernel
theorem dReader_init_37 : decode YReader_init.2.1 37 = .ok (.aload_n 0, 1) := by decide +kernel
theorem dReader_init_38 : decode YReader_init.2.1 38 = .ok (.iconst 3, 1) := by decide +kernel
theorem dReader_init_39 : decode YReader_init.2.1 39 = .ok (.newarray .int, 2) := by decide +kernel
theorem dReader_init_41 : decode YReader_init.2.1 41 = .ok (.putfield 32, 3) := by decide +kernel
theorem dReader_init_44 : decode YReader_init.2.1 44 = .ok (.aload_n 0, 1) := by decide +kernel
theorem dReader_init_45 : decode YReader_init.2.1 45 = .ok (.iconst 3, 1) := by decide +kernel
theorem dReader_init_46 : decode YReader_init.2.1 46 = .ok (.newarray .int, 2) := by decide +kernel
theorem dReader_init_48 : decode YReader_init.2.1 48 = .ok (.putfield 36, 3) := by decide +kernel
theorem dReader_init_51 : decode YReader_init.2.1 51 = .ok (.aload_n 0, 1) := by decide +kernel
theorem dReader_init_52 : decode YReader_init.2.1 52 = .ok (.iconst 3, 1) := by decide +kernel
theorem dReader_init_53 : decode YReader_init.2.1 53 = .ok (.newarray .int, 2) := by decide +kernel
theorem dReader_init_55 : decode YReader_init.2.1 55 = .ok (.putfield 39, 3) := by decide +kernel
theorem dReader_init_58 : decode YReader_init.2.1 58 = .ok (.return_, 1) := by decide +kernel
theorem dReader_read_0 : decode YReader_read.2.1 0 = .ok (.aload_n 0, 1) := by decide +kernel
theorem dReader_read_1 : decode YReader_read.2.1 1 = .ok (.aload_n 2, 1) := by decide +kernel
theorem dReader_read_2 : decode YReader_read.2.1 2 = .ok (.iload_n 3, 1) := by decide +kernel
theorem dReader_read_3 : decode YReader_read.2.1 3 = .ok (.invokevirtual 42, 3) := by decide +kernel
theorem dReader_read_6 : decode YReader_read.2.1 6 = .ok (.iconst 0, 1) := by decide +kernel
theorem dReader_read_7 : decode YReader_read.2.1 7 = .ok (.istore 4, 2) := by decide +kernel
theorem dReader_read_9 : decode YReader_read.2.1 9 = .ok (.iload 4, 2) := by decide +kernel
theorem dReader_read_11 : decode YReader_read.2.1 11 = .ok (.aload_n 0, 1) := by decide +kernel
theorem dReader_read_12 : decode YReader_read.2.1 12 = .ok (.getfield 46, 3) := by decide +kernel
theorem dReader_read_15 : decode YReader_read.2.1 15 = .ok (.if_icmp .gt 45, 3) := by decide +kernel
theorem dReader_read_18 : decode YReader_read.2.1 18 = .ok (.aload_n 0, 1) := by decide +kernel
theorem dReader_read_19 : decode YReader_read.2.1 19 = .ok (.invokevirtual 50, 3) := by decide +kernel
theorem dReader_read_22 : decode YReader_read.2.1 22 = .ok (.aload_n 0, 1) := by decide +kernel
theorem dReader_read_23 : decode YReader_read.2.1 23 = .ok (.getfield 53, 3) := by decide +kernel
theorem dReader_read_26 : decode YReader_read.2.1 26 = .ok (.ifCond .ne 6, 3) := by decide +kernel
theorem dReader_read_29 : decode YReader_read.2.1 29 = .ok (.goto 31, 3) := by decide +kernel
theorem dReader_read_32 : decode YReader_read.2.1 32 = .ok (.aload_n 0, 1) := by decide +kernel
theorem dReader_read_33 : decode YReader_read.2.1 33 = .ok (.iload_n 1, 1) := by decide +kernel
theorem dReader_read_34 : decode YReader_read.2.1 34 = .ok (.invokevirtual 56, 3) := by decide +kernel
theorem dReader_read_37 : decode YReader_read.2.1 37 = .ok (.ifCond .ne 17, 3) := by decide +kernel
theorem dReader_read_40 : decode YReader_read.2.1 40 = .ok (.aload_n 0, 1) := by decide +kernel
theorem dReader_read_41 : decode YReader_read.2.1 41 = .ok (.iconst 1, 1) := by decide +kernel
theorem dReader_read_42 : decode YReader_read.2.1 42 = .ok (.putfield 60, 3) := by decide +kernel
theorem dReader_read_45 : decode YReader_read.2.1 45 = .ok (.aload_n 0, 1) := by decide +kernel
theorem dReader_read_46 : decode YReader_read.2.1 46 = .ok (.aload_n 0, 1) := by decide +kernel
theorem dReader_read_47 : decode YReader_read.2.1 47 = .ok (.getfield 63, 3) := by decide +kernel
theorem dReader_read_50 : decode YReader_read.2.1 50 = .ok (.putfield 66, 3) := by decide +kernel
theorem dReader_read_53 : decode YReader_read.2.1 53 = .ok (.return_, 1) := by decide +kernel
theorem dReader_read_54 : decode YReader_read.2.1 54 = .ok (.iinc 4 1, 3) := by decide +kernel
theorem dReader_read_57 : decode YReader_read.2.1 57 = .ok (.goto (-48), 3) := by decide +kernel
theorem dReader_read_60 : decode YReader_read.2.1 60 = .ok (.aload_n 0, 1) := by decide +kernel
theorem dReader_read_61 : decode YReader_read.2.1 61 = .ok (.getfield 60, 3) := by decide +kernel
theorem dReader_read_64 : decode YReader_read.2.1 64 = .ok (.ifCond .ne 23, 3) := by decide +kernel
theorem dReader_read_67 : decode YReader_read.2.1 67 = .ok (.iload_n 1, 1) := by decide +kernel
theorem dReader_read_68 : decode YReader_read.2.1 68 = .ok (.ifCond .ne 19, 3) := by decide +kernel
theorem dReader_read_71 : decode YReader_read.2.1 71 = .ok (.aload_n 0, 1) := by decide +kernel
theorem dReader_read_72 : decode YReader_read.2.1 72 = .ok (.invokevirtual 69, 3) := by decide +kernel
theorem dReader_read_75 : decode YReader_read.2.1 75 = .ok (.ifCond .ne 12, 3) := by decide +kernel
theorem dReader_read_78 : decode YReader_read.2.1 78 = .ok (.aload_n 0, 1) := by decide +kernel
theorem dReader_read_79 : decode YReader_read.2.1 79 = .ok (.iconst 4, 1) := by decide +kernel
theorem dReader_read_80 : decode YReader_read.2.1 80 = .ok (.aload_n 0, 1) := by decide +kernel
theorem dReader_read_81 : decode YReader_read.2.1 81 = .ok (.getfield 46, 3) := by decide +kernel
theorem dReader_read_84 : decode YReader_read.2.1 84 = .ok (.invokevirtual 73, 3) := by decide +kernel
theorem dReader_read_87 : decode YReader_read.2.1 87 = .ok (.return_, 1) := by decide +kernel
theorem dReader_begin_0 : decode YReader_begin.2.1 0 = .ok (.aload_n 0, 1) := by decide +kernel
theorem dReader_begin_1 : decode YReader_begin.2.1 1 = .ok (.aload_n 1, 1) := by decide +kernel
theorem dReader_begin_2 : decode YReader_begin.2.1 2 = .ok (.putfield 77, 3) := by decide +kernel
theorem dReader_begin_5 : decode YReader_begin.2.1 5 = .ok (.aload_n 0, 1) := by decide +kernel
theorem dReader_begin_6 : decode YReader_begin.2.1 6 = .ok (.iconst 0, 1) := by decide +kernel
theorem dReader_begin_7 : decode YReader_begin.2.1 7 = .ok (.iload_n 2, 1) := by decide +kernel
theorem dReader_begin_8 : decode YReader_begin.2.1 8 = .ok (.aload_n 1, 1) := by decide +kernel
theorem dReader_begin_9 : decode YReader_begin.2.1 9 = .ok (.arraylength, 1) := by decide +kernel
theorem dReader_begin_10 : decode YReader_begin.2.1 10 = .ok (.invokestatic 81, 3) := by decide +kernel
theorem dReader_begin_13 : decode YReader_begin.2.1 13 = .ok (.invokestatic 87, 3) := by decide +kernel
theorem dReader_begin_16 : decode YReader_begin.2.1 16 = .ok (.putfield 46, 3) := by decide +kernel
theorem dReader_begin_19 : decode YReader_begin.2.1 19 = .ok (.aload_n 0, 1) := by decide +kernel
theorem dReader_begin_20 : decode YReader_begin.2.1 20 = .ok (.iconst 0, 1) := by decide +kernel
theorem dReader_begin_21 : decode YReader_begin.2.1 21 = .ok (.putfield 90, 3) := by decide +kernel
theorem dReader_begin_24 : decode YReader_begin.2.1 24 = .ok (.aload_n 0, 1) := by decide +kernel
theorem dReader_begin_25 : decode YReader_begin.2.1 25 = .ok (.iconst 0, 1) := by decide +kernel
theorem dReader_begin_26 : decode YReader_begin.2.1 26 = .ok (.putfield 60, 3) := by decide +kernel
theorem dReader_begin_29 : decode YReader_begin.2.1 29 = .ok (.aload_n 0, 1) := by decide +kernel
theorem dReader_begin_30 : decode YReader_begin.2.1 30 = .ok (.iconst (-1), 1) := by decide +kernel
theorem dReader_begin_31 : decode YReader_begin.2.1 31 = .ok (.putfield 66, 3) := by decide +kernel
theorem dReader_begin_34 : decode YReader_begin.2.1 34 = .ok (.aload_n 0, 1) := by decide +kernel
theorem dReader_begin_35 : decode YReader_begin.2.1 35 = .ok (.iconst (-1), 1) := by decide +kernel
theorem dReader_begin_36 : decode YReader_begin.2.1 36 = .ok (.putfield 93, 3) := by decide +kernel
theorem dReader_begin_39 : decode YReader_begin.2.1 39 = .ok (.aload_n 0, 1) := by decide +kernel
theorem dReader_begin_40 : decode YReader_begin.2.1 40 = .ok (.iconst (-1), 1) := by decide +kernel
theorem dReader_begin_41 : decode YReader_begin.2.1 41 = .ok (.putfield 96, 3) := by decide +kernel
theorem dReader_begin_44 : decode YReader_begin.2.1 44 = .ok (.aload_n 0, 1) := by decide +kernel
theorem dReader_begin_45 : decode YReader_begin.2.1 45 = .ok (.getfield 12, 3) := by decide +kernel
theorem dReader_begin_48 : decode YReader_begin.2.1 48 = .ok (.invokevirtual 99, 3) := by decide +kernel
theorem dReader_begin_51 : decode YReader_begin.2.1 51 = .ok (.aload_n 0, 1) := by decide +kernel
theorem dReader_begin_52 : decode YReader_begin.2.1 52 = .ok (.getfield 21, 3) := by decide +kernel
theorem dReader_begin_55 : decode YReader_begin.2.1 55 = .ok (.iconst 0, 1) := by decide +kernel
theorem dReader_begin_56 : decode YReader_begin.2.1 56 = .ok (.putfield 102, 3) := by decide +kernel
theorem dReader_begin_59 : decode YReader_begin.2.1 59 = .ok (.aload_n 0, 1) := by decide +kernel
theorem dReader_begin_60 : decode YReader_begin.2.1 60 = .ok (.getfield 28, 3) := by decide +kernel
theorem dReader_begin_63 : decode YReader_begin.2.1 63 = .ok (.iconst 0, 1) := by decide +kernel
theorem dReader_begin_64 : decode YReader_begin.2.1 64 = .ok (.putfield 105, 3) := by decide +kernel
theorem dReader_begin_67 : decode YReader_begin.2.1 67 = .ok (.return_, 1) := by decide +kernel
theorem dReader_allThere_0 : decode YReader_allThere.2.1 0 = .ok (.aload_n 0, 1) := by decide +kernel
theorem dReader_allThere_1 : decode YReader_allThere.2.1 1 = .ok (.getfield 93, 3) := by decide +kernel
theorem dReader_allThere_4 : decode YReader_allThere.2.1 4 = .ok (.aload_n 0, 1) := by decide +kernel
theorem dReader_allThere_5 : decode YReader_allThere.2.1 5 = .ok (.getfield 12, 3) := by decide +kernel
theorem dReader_allThere_8 : decode YReader_allThere.2.1 8 = .ok (.getfield 108, 3) := by decide +kernel
theorem dReader_allThere_11 : decode YReader_allThere.2.1 11 = .ok (.if_icmp .ge 21, 3) := by decide +kernel
theorem dReader_allThere_14 : decode YReader_allThere.2.1 14 = .ok (.aload_n 0, 1) := by decide +kernel
theorem dReader_allThere_15 : decode YReader_allThere.2.1 15 = .ok (.getfield 96, 3) := by decide +kernel
theorem dReader_allThere_18 : decode YReader_allThere.2.1 18 = .ok (.aload_n 0, 1) := by decide +kernel
theorem dReader_allThere_19 : decode YReader_allThere.2.1 19 = .ok (.getfield 12, 3) := by decide +kernel
theorem dReader_allThere_22 : decode YReader_allThere.2.1 22 = .ok (.getfield 111, 3) := by decide +kernel
theorem dReader_allThere_25 : decode YReader_allThere.2.1 25 = .ok (.if_icmp .ge 7, 3) := by decide +kernel
theorem dReader_allThere_28 : decode YReader_allThere.2.1 28 = .ok (.iconst 1, 1) := by decide +kernel
theorem dReader_allThere_29 : decode YReader_allThere.2.1 29 = .ok (.goto 4, 3) := by decide +kernel
theorem dReader_allThere_32 : decode YReader_allThere.2.1 32 = .ok (.iconst 0, 1) := by decide +kernel
theorem dReader_allThere_33 : decode YReader_allThere.2.1 33 = .ok (.ireturn, 1) := by decide +kernel
theorem dReader_note_0 : decode YReader_note.2.1 0 = .ok (.aload_n 0, 1) := by decide +kernel
theorem dReader_note_1 : decode YReader_note.2.1 1 = .ok (.getfield 60, 3) := by decide +kernel
theorem dReader_note_4 : decode YReader_note.2.1 4 = .ok (.ifCond .ne 13, 3) := by decide +kernel
theorem dReader_note_7 : decode YReader_note.2.1 7 = .ok (.aload_n 0, 1) := by decide +kernel
theorem dReader_note_8 : decode YReader_note.2.1 8 = .ok (.iload_n 1, 1) := by decide +kernel
theorem dReader_note_9 : decode YReader_note.2.1 9 = .ok (.putfield 60, 3) := by decide +kernel
theorem dReader_note_12 : decode YReader_note.2.1 12 = .ok (.aload_n 0, 1) := by decide +kernel
theorem dReader_note_13 : decode YReader_note.2.1 13 = .ok (.iload_n 2, 1) := by decide +kernel
theorem dReader_note_14 : decode YReader_note.2.1 14 = .ok (.putfield 66, 3) := by decide +kernel
theorem dReader_note_17 : decode YReader_note.2.1 17 = .ok (.return_, 1) := by decide +kernel
theorem dReader_readLine_0 : decode YReader_readLine.2.1 0 = .ok (.aload_n 0, 1) := by decide +kernel
theorem dReader_readLine_1 : decode YReader_readLine.2.1 1 = .ok (.iload_n 1, 1) := by decide +kernel
theorem dReader_readLine_2 : decode YReader_readLine.2.1 2 = .ok (.invokevirtual 114, 3) := by decide +kernel
theorem dReader_readLine_5 : decode YReader_readLine.2.1 5 = .ok (.istore_n 2, 1) := by decide +kernel
theorem dReader_readLine_6 : decode YReader_readLine.2.1 6 = .ok (.iload_n 2, 1) := by decide +kernel
theorem dReader_readLine_7 : decode YReader_readLine.2.1 7 = .ok (.iconst (-1), 1) := by decide +kernel
theorem dReader_readLine_8 : decode YReader_readLine.2.1 8 = .ok (.if_icmp .ne 5, 3) := by decide +kernel
theorem dReader_readLine_11 : decode YReader_readLine.2.1 11 = .ok (.iconst 0, 1) := by decide +kernel
theorem dReader_readLine_12 : decode YReader_readLine.2.1 12 = .ok (.ireturn, 1) := by decide +kernel
theorem dReader_readLine_13 : decode YReader_readLine.2.1 13 = .ok (.aload_n 0, 1) := by decide +kernel
theorem dReader_readLine_14 : decode YReader_readLine.2.1 14 = .ok (.aload_n 0, 1) := by decide +kernel
theorem dReader_readLine_15 : decode YReader_readLine.2.1 15 = .ok (.getfield 63, 3) := by decide +kernel
theorem dReader_readLine_18 : decode YReader_readLine.2.1 18 = .ok (.putfield 118, 3) := by decide +kernel
theorem dReader_readLine_21 : decode YReader_readLine.2.1 21 = .ok (.aload_n 0, 1) := by decide +kernel
theorem dReader_readLine_22 : decode YReader_readLine.2.1 22 = .ok (.iconst 0, 1) := by decide +kernel
theorem dReader_readLine_23 : decode YReader_readLine.2.1 23 = .ok (.putfield 121, 3) := by decide +kernel
theorem dReader_readLine_26 : decode YReader_readLine.2.1 26 = .ok (.aload_n 0, 1) := by decide +kernel
theorem dReader_readLine_27 : decode YReader_readLine.2.1 27 = .ok (.iconst 0, 1) := by decide +kernel
theorem dReader_readLine_28 : decode YReader_readLine.2.1 28 = .ok (.putfield 124, 3) := by decide +kernel
theorem dReader_readLine_31 : decode YReader_readLine.2.1 31 = .ok (.iload_n 2, 1) := by decide +kernel
theorem dReader_readLine_32 : decode YReader_readLine.2.1 32 = .ok (.invokestatic 127, 3) := by decide +kernel
theorem dReader_readLine_35 : decode YReader_readLine.2.1 35 = .ok (.astore_n 3, 1) := by decide +kernel
theorem dReader_readLine_36 : decode YReader_readLine.2.1 36 = .ok (.iconst 0, 1) := by decide +kernel
theorem dReader_readLine_37 : decode YReader_readLine.2.1 37 = .ok (.istore 4, 2) := by decide +kernel
theorem dReader_readLine_39 : decode YReader_readLine.2.1 39 = .ok (.iload 4, 2) := by decide +kernel
theorem dReader_readLine_41 : decode YReader_readLine.2.1 41 = .ok (.aload_n 3, 1) := by decide +kernel
theorem dReader_readLine_42 : decode YReader_readLine.2.1 42 = .ok (.invokevirtual 131, 3) := by decide +kernel
theorem dReader_readLine_45 : decode YReader_readLine.2.1 45 = .ok (.if_icmp .ge 43, 3) := by decide +kernel
theorem dReader_readLine_48 : decode YReader_readLine.2.1 48 = .ok (.aload_n 0, 1) := by decide +kernel
theorem dReader_readLine_49 : decode YReader_readLine.2.1 49 = .ok (.invokevirtual 50, 3) := by decide +kernel
theorem dReader_readLine_52 : decode YReader_readLine.2.1 52 = .ok (.aload_n 3, 1) := by decide +kernel
theorem dReader_readLine_53 : decode YReader_readLine.2.1 53 = .ok (.iload 4, 2) := by decide +kernel
theorem dReader_readLine_55 : decode YReader_readLine.2.1 55 = .ok (.invokevirtual 136, 3) := by decide +kernel
theorem dReader_readLine_58 : decode YReader_readLine.2.1 58 = .ok (.bipush 107, 2) := by decide +kernel
theorem dReader_readLine_60 : decode YReader_readLine.2.1 60 = .ok (.if_icmp .ne 13, 3) := by decide +kernel
theorem dReader_readLine_63 : decode YReader_readLine.2.1 63 = .ok (.aload_n 0, 1) := by decide +kernel
theorem dReader_readLine_64 : decode YReader_readLine.2.1 64 = .ok (.invokevirtual 140, 3) := by decide +kernel
theorem dReader_readLine_67 : decode YReader_readLine.2.1 67 = .ok (.ifCond .eq 13, 3) := by decide +kernel
theorem dReader_readLine_70 : decode YReader_readLine.2.1 70 = .ok (.goto 12, 3) := by decide +kernel
theorem dReader_readLine_73 : decode YReader_readLine.2.1 73 = .ok (.aload_n 0, 1) := by decide +kernel
theorem dReader_readLine_74 : decode YReader_readLine.2.1 74 = .ok (.invokevirtual 143, 3) := by decide +kernel
theorem dReader_readLine_77 : decode YReader_readLine.2.1 77 = .ok (.ifCond .ne 5, 3) := by decide +kernel
theorem dReader_readLine_80 : decode YReader_readLine.2.1 80 = .ok (.iconst 0, 1) := by decide +kernel
theorem dReader_readLine_81 : decode YReader_readLine.2.1 81 = .ok (.ireturn, 1) := by decide +kernel
theorem dReader_readLine_82 : decode YReader_readLine.2.1 82 = .ok (.iinc 4 1, 3) := by decide +kernel
theorem dReader_readLine_85 : decode YReader_readLine.2.1 85 = .ok (.goto (-46), 3) := by decide +kernel
theorem dReader_readLine_88 : decode YReader_readLine.2.1 88 = .ok (.aload_n 0, 1) := by decide +kernel
theorem dReader_readLine_89 : decode YReader_readLine.2.1 89 = .ok (.invokevirtual 50, 3) := by decide +kernel
theorem dReader_readLine_92 : decode YReader_readLine.2.1 92 = .ok (.aload_n 0, 1) := by decide +kernel
theorem dReader_readLine_93 : decode YReader_readLine.2.1 93 = .ok (.getfield 53, 3) := by decide +kernel
theorem dReader_readLine_96 : decode YReader_readLine.2.1 96 = .ok (.iconst 3, 1) := by decide +kernel
theorem dReader_readLine_97 : decode YReader_readLine.2.1 97 = .ok (.if_icmp .eq 5, 3) := by decide +kernel
theorem dReader_readLine_100 : decode YReader_readLine.2.1 100 = .ok (.iconst 0, 1) := by decide +kernel
theorem dReader_readLine_101 : decode YReader_readLine.2.1 101 = .ok (.ireturn, 1) := by decide +kernel
theorem dReader_readLine_102 : decode YReader_readLine.2.1 102 = .ok (.aload_n 0, 1) := by decide +kernel
theorem dReader_readLine_103 : decode YReader_readLine.2.1 103 = .ok (.iload_n 2, 1) := by decide +kernel
theorem dReader_readLine_104 : decode YReader_readLine.2.1 104 = .ok (.invokevirtual 146, 3) := by decide +kernel
theorem dReader_readLine_107 : decode YReader_readLine.2.1 107 = .ok (.aload_n 0, 1) := by decide +kernel
theorem dReader_readLine_108 : decode YReader_readLine.2.1 108 = .ok (.getfield 60, 3) := by decide +kernel
theorem dReader_readLine_111 : decode YReader_readLine.2.1 111 = .ok (.ifCond .ne 8, 3) := by decide +kernel
theorem dReader_readLine_114 : decode YReader_readLine.2.1 114 = .ok (.aload_n 0, 1) := by decide +kernel
theorem dReader_readLine_115 : decode YReader_readLine.2.1 115 = .ok (.iload_n 2, 1) := by decide +kernel
theorem dReader_readLine_116 : decode YReader_readLine.2.1 116 = .ok (.invokevirtual 150, 3) := by decide +kernel
theorem dReader_readLine_119 : decode YReader_readLine.2.1 119 = .ok (.iconst 1, 1) := by decide +kernel
theorem dReader_readLine_120 : decode YReader_readLine.2.1 120 = .ok (.ireturn, 1) := by decide +kernel
theorem dReader_lineAtHand_0 : decode YReader_lineAtHand.2.1 0 = .ok (.iload_n 1, 1) := by decide +kernel
theorem dReader_lineAtHand_1 : decode YReader_lineAtHand.2.1 1 = .ok (.ifCond .ne 8, 3) := by decide +kernel
theorem dReader_lineAtHand_4 : decode YReader_lineAtHand.2.1 4 = .ok (.aload_n 0, 1) := by decide +kernel
theorem dReader_lineAtHand_5 : decode YReader_lineAtHand.2.1 5 = .ok (.invokevirtual 153, 3) := by decide +kernel
theorem dReader_lineAtHand_8 : decode YReader_lineAtHand.2.1 8 = .ok (.ireturn, 1) := by decide +kernel
theorem dReader_lineAtHand_9 : decode YReader_lineAtHand.2.1 9 = .ok (.iload_n 1, 1) := by decide +kernel
theorem dReader_lineAtHand_10 : decode YReader_lineAtHand.2.1 10 = .ok (.iconst 1, 1) := by decide +kernel
theorem dReader_lineAtHand_11 : decode YReader_lineAtHand.2.1 11 = .ok (.if_icmp .ne 10, 3) := by decide +kernel
theorem dReader_lineAtHand_14 : decode YReader_lineAtHand.2.1 14 = .ok (.aload_n 0, 1) := by decide +kernel
theorem dReader_lineAtHand_15 : decode YReader_lineAtHand.2.1 15 = .ok (.invokevirtual 156, 3) := by decide +kernel
theorem dReader_lineAtHand_18 : decode YReader_lineAtHand.2.1 18 = .ok (.goto 7, 3) := by decide +kernel
theorem dReader_lineAtHand_21 : decode YReader_lineAtHand.2.1 21 = .ok (.aload_n 0, 1) := by decide +kernel
theorem dReader_lineAtHand_22 : decode YReader_lineAtHand.2.1 22 = .ok (.invokevirtual 159, 3) := by decide +kernel
theorem dReader_lineAtHand_25 : decode YReader_lineAtHand.2.1 25 = .ok (.ireturn, 1) := by decide +kernel
theorem dReader_officeLine_0 : decode YReader_officeLine.2.1 0 = .ok (.aload_n 0, 1) := by decide +kernel
theorem dReader_officeLine_1 : decode YReader_officeLine.2.1 1 = .ok (.ldc 162, 2) := by decide +kernel
theorem dReader_officeLine_3 : decode YReader_officeLine.2.1 3 = .ok (.invokevirtual 163, 3) := by decide +kernel
theorem dReader_officeLine_6 : decode YReader_officeLine.2.1 6 = .ok (.ifCond .eq 5, 3) := by decide +kernel
theorem dReader_officeLine_9 : decode YReader_officeLine.2.1 9 = .ok (.iconst 0, 1) := by decide +kernel
theorem dReader_officeLine_10 : decode YReader_officeLine.2.1 10 = .ok (.ireturn, 1) := by decide +kernel
theorem dReader_officeLine_11 : decode YReader_officeLine.2.1 11 = .ok (.aload_n 0, 1) := by decide +kernel
theorem dReader_officeLine_12 : decode YReader_officeLine.2.1 12 = .ok (.ldc 167, 2) := by decide +kernel
theorem dReader_officeLine_14 : decode YReader_officeLine.2.1 14 = .ok (.invokevirtual 163, 3) := by decide +kernel
theorem dReader_officeLine_17 : decode YReader_officeLine.2.1 17 = .ok (.ifCond .eq 5, 3) := by decide +kernel
theorem dReader_officeLine_20 : decode YReader_officeLine.2.1 20 = .ok (.iconst 1, 1) := by decide +kernel
theorem dReader_officeLine_21 : decode YReader_officeLine.2.1 21 = .ok (.ireturn, 1) := by decide +kernel
theorem dReader_officeLine_22 : decode YReader_officeLine.2.1 22 = .ok (.aload_n 0, 1) := by decide +kernel
theorem dReader_officeLine_23 : decode YReader_officeLine.2.1 23 = .ok (.ldc 169, 2) := by decide +kernel
theorem dReader_officeLine_25 : decode YReader_officeLine.2.1 25 = .ok (.invokevirtual 163, 3) := by decide +kernel
theorem dReader_officeLine_28 : decode YReader_officeLine.2.1 28 = .ok (.ifCond .eq 5, 3) := by decide +kernel
theorem dReader_officeLine_31 : decode YReader_officeLine.2.1 31 = .ok (.iconst 2, 1) := by decide +kernel
theorem dReader_officeLine_32 : decode YReader_officeLine.2.1 32 = .ok (.ireturn, 1) := by decide +kernel
theorem dReader_officeLine_33 : decode YReader_officeLine.2.1 33 = .ok (.aload_n 0, 1) := by decide +kernel
theorem dReader_officeLine_34 : decode YReader_officeLine.2.1 34 = .ok (.ldc 171, 2) := by decide +kernel
theorem dReader_officeLine_36 : decode YReader_officeLine.2.1 36 = .ok (.invokevirtual 163, 3) := by decide +kernel
theorem dReader_officeLine_39 : decode YReader_officeLine.2.1 39 = .ok (.ifCond .eq 5, 3) := by decide +kernel
theorem dReader_officeLine_42 : decode YReader_officeLine.2.1 42 = .ok (.iconst 3, 1) := by decide +kernel
theorem dReader_officeLine_43 : decode YReader_officeLine.2.1 43 = .ok (.ireturn, 1) := by decide +kernel
theorem dReader_officeLine_44 : decode YReader_officeLine.2.1 44 = .ok (.aload_n 0, 1) := by decide +kernel
theorem dReader_officeLine_45 : decode YReader_officeLine.2.1 45 = .ok (.ldc 173, 2) := by decide +kernel
theorem dReader_officeLine_47 : decode YReader_officeLine.2.1 47 = .ok (.invokevirtual 163, 3) := by decide +kernel
theorem dReader_officeLine_50 : decode YReader_officeLine.2.1 50 = .ok (.ifCond .eq 7, 3) := by decide +kernel
theorem dReader_officeLine_53 : decode YReader_officeLine.2.1 53 = .ok (.iconst 4, 1) := by decide +kernel
theorem dReader_officeLine_54 : decode YReader_officeLine.2.1 54 = .ok (.goto 4, 3) := by decide +kernel
theorem dReader_officeLine_57 : decode YReader_officeLine.2.1 57 = .ok (.iconst (-1), 1) := by decide +kernel
theorem dReader_officeLine_58 : decode YReader_officeLine.2.1 58 = .ok (.ireturn, 1) := by decide +kernel
theorem dReader_weekLine_0 : decode YReader_weekLine.2.1 0 = .ok (.aload_n 0, 1) := by decide +kernel
theorem dReader_weekLine_1 : decode YReader_weekLine.2.1 1 = .ok (.ldc 175, 2) := by decide +kernel
theorem dReader_weekLine_3 : decode YReader_weekLine.2.1 3 = .ok (.invokevirtual 163, 3) := by decide +kernel
theorem dReader_weekLine_6 : decode YReader_weekLine.2.1 6 = .ok (.ifCond .eq 5, 3) := by decide +kernel
theorem dReader_weekLine_9 : decode YReader_weekLine.2.1 9 = .ok (.iconst 5, 1) := by decide +kernel
theorem dReader_weekLine_10 : decode YReader_weekLine.2.1 10 = .ok (.ireturn, 1) := by decide +kernel
theorem dReader_weekLine_11 : decode YReader_weekLine.2.1 11 = .ok (.aload_n 0, 1) := by decide +kernel
theorem dReader_weekLine_12 : decode YReader_weekLine.2.1 12 = .ok (.ldc 177, 2) := by decide +kernel
theorem dReader_weekLine_14 : decode YReader_weekLine.2.1 14 = .ok (.invokevirtual 163, 3) := by decide +kernel
theorem dReader_weekLine_17 : decode YReader_weekLine.2.1 17 = .ok (.ifCond .eq 6, 3) := by decide +kernel
theorem dReader_weekLine_20 : decode YReader_weekLine.2.1 20 = .ok (.bipush 6, 2) := by decide +kernel
theorem dReader_weekLine_22 : decode YReader_weekLine.2.1 22 = .ok (.ireturn, 1) := by decide +kernel
theorem dReader_weekLine_23 : decode YReader_weekLine.2.1 23 = .ok (.aload_n 0, 1) := by decide +kernel
theorem dReader_weekLine_24 : decode YReader_weekLine.2.1 24 = .ok (.ldc 179, 2) := by decide +kernel
theorem dReader_weekLine_26 : decode YReader_weekLine.2.1 26 = .ok (.invokevirtual 163, 3) := by decide +kernel
theorem dReader_weekLine_29 : decode YReader_weekLine.2.1 29 = .ok (.ifCond .eq 6, 3) := by decide +kernel
theorem dReader_weekLine_32 : decode YReader_weekLine.2.1 32 = .ok (.bipush 7, 2) := by decide +kernel
theorem dReader_weekLine_34 : decode YReader_weekLine.2.1 34 = .ok (.ireturn, 1) := by decide +kernel
theorem dReader_weekLine_35 : decode YReader_weekLine.2.1 35 = .ok (.aload_n 0, 1) := by decide +kernel
theorem dReader_weekLine_36 : decode YReader_weekLine.2.1 36 = .ok (.ldc 181, 2) := by decide +kernel
theorem dReader_weekLine_38 : decode YReader_weekLine.2.1 38 = .ok (.invokevirtual 163, 3) := by decide +kernel
theorem dReader_weekLine_41 : decode YReader_weekLine.2.1 41 = .ok (.ifCond .eq 8, 3) := by decide +kernel
theorem dReader_weekLine_44 : decode YReader_weekLine.2.1 44 = .ok (.bipush 8, 2) := by decide +kernel
theorem dReader_weekLine_46 : decode YReader_weekLine.2.1 46 = .ok (.goto 4, 3) := by decide +kernel
theorem dReader_weekLine_49 : decode YReader_weekLine.2.1 49 = .ok (.iconst (-1), 1) := by decide +kernel
theorem dReader_weekLine_50 : decode YReader_weekLine.2.1 50 = .ok (.ireturn, 1) := by decide +kernel
theorem dReader_logLine_0 : decode YReader_logLine.2.1 0 = .ok (.aload_n 0, 1) := by decide +kernel
theorem dReader_logLine_1 : decode YReader_logLine.2.1 1 = .ok (.ldc 167, 2) := by decide +kernel
theorem dReader_logLine_3 : decode YReader_logLine.2.1 3 = .ok (.invokevirtual 163, 3) := by decide +kernel
theorem dReader_logLine_6 : decode YReader_logLine.2.1 6 = .ok (.ifCond .eq 8, 3) := by decide +kernel
theorem dReader_logLine_9 : decode YReader_logLine.2.1 9 = .ok (.bipush 9, 2) := by decide +kernel
theorem dReader_logLine_11 : decode YReader_logLine.2.1 11 = .ok (.goto 4, 3) := by decide +kernel
theorem dReader_logLine_14 : decode YReader_logLine.2.1 14 = .ok (.iconst (-1), 1) := by decide +kernel
theorem dReader_logLine_15 : decode YReader_logLine.2.1 15 = .ok (.ireturn, 1) := by decide +kernel
theorem dReader_shapeOf_0 : decode YReader_shapeOf.2.1 0 = .ok (.iload_n 0, 1) := by decide +kernel
theorem dReader_shapeOf_1 : decode YReader_shapeOf.2.1 1 = .ok (.tableswitch 66 0 8 #[51, 66, 54, 57, 60, 51, 66, 51, 63], 51) := by decide +kernel
theorem dReader_shapeOf_52 : decode YReader_shapeOf.2.1 52 = .ok (.ldc 183, 2) := by decide +kernel
theorem dReader_shapeOf_54 : decode YReader_shapeOf.2.1 54 = .ok (.areturn, 1) := by decide +kernel
theorem dReader_shapeOf_55 : decode YReader_shapeOf.2.1 55 = .ok (.ldc 185, 2) := by decide +kernel
theorem dReader_shapeOf_57 : decode YReader_shapeOf.2.1 57 = .ok (.areturn, 1) := by decide +kernel
theorem dReader_shapeOf_58 : decode YReader_shapeOf.2.1 58 = .ok (.ldc 187, 2) := by decide +kernel
theorem dReader_shapeOf_60 : decode YReader_shapeOf.2.1 60 = .ok (.areturn, 1) := by decide +kernel
theorem dReader_shapeOf_61 : decode YReader_shapeOf.2.1 61 = .ok (.ldc 189, 2) := by decide +kernel
theorem dReader_shapeOf_63 : decode YReader_shapeOf.2.1 63 = .ok (.areturn, 1) := by decide +kernel
theorem dReader_shapeOf_64 : decode YReader_shapeOf.2.1 64 = .ok (.ldc 191, 2) := by decide +kernel
theorem dReader_shapeOf_66 : decode YReader_shapeOf.2.1 66 = .ok (.areturn, 1) := by decide +kernel
theorem dReader_shapeOf_67 : decode YReader_shapeOf.2.1 67 = .ok (.ldc 193, 2) := by decide +kernel
theorem dReader_shapeOf_69 : decode YReader_shapeOf.2.1 69 = .ok (.areturn, 1) := by decide +kernel
theorem dReader_takeKind_0 : decode YReader_takeKind.2.1 0 = .ok (.aload_n 0, 1) := by decide +kernel
theorem dReader_takeKind_1 : decode YReader_takeKind.2.1 1 = .ok (.invokevirtual 195, 3) := by decide +kernel
theorem dReader_takeKind_4 : decode YReader_takeKind.2.1 4 = .ok (.istore_n 1, 1) := by decide +kernel
theorem dReader_takeKind_5 : decode YReader_takeKind.2.1 5 = .ok (.iload_n 1, 1) := by decide +kernel
theorem dReader_takeKind_6 : decode YReader_takeKind.2.1 6 = .ok (.iconst (-1), 1) := by decide +kernel
theorem dReader_takeKind_7 : decode YReader_takeKind.2.1 7 = .ok (.if_icmp .eq 11, 3) := by decide +kernel
theorem dReader_takeKind_10 : decode YReader_takeKind.2.1 10 = .ok (.aload_n 0, 1) := by decide +kernel
theorem dReader_takeKind_11 : decode YReader_takeKind.2.1 11 = .ok (.getfield 121, 3) := by decide +kernel
theorem dReader_takeKind_14 : decode YReader_takeKind.2.1 14 = .ok (.iconst 3, 1) := by decide +kernel
theorem dReader_takeKind_15 : decode YReader_takeKind.2.1 15 = .ok (.if_icmp .lt 5, 3) := by decide +kernel
theorem dReader_takeKind_18 : decode YReader_takeKind.2.1 18 = .ok (.iconst 0, 1) := by decide +kernel
theorem dReader_takeKind_19 : decode YReader_takeKind.2.1 19 = .ok (.ireturn, 1) := by decide +kernel
theorem dReader_takeKind_20 : decode YReader_takeKind.2.1 20 = .ok (.aload_n 0, 1) := by decide +kernel
theorem dReader_takeKind_21 : decode YReader_takeKind.2.1 21 = .ok (.getfield 32, 3) := by decide +kernel
theorem dReader_takeKind_24 : decode YReader_takeKind.2.1 24 = .ok (.aload_n 0, 1) := by decide +kernel
theorem dReader_takeKind_25 : decode YReader_takeKind.2.1 25 = .ok (.getfield 121, 3) := by decide +kernel
theorem dReader_takeKind_28 : decode YReader_takeKind.2.1 28 = .ok (.iload_n 1, 1) := by decide +kernel
theorem dReader_takeKind_29 : decode YReader_takeKind.2.1 29 = .ok (.iastore, 1) := by decide +kernel
theorem dReader_takeKind_30 : decode YReader_takeKind.2.1 30 = .ok (.aload_n 0, 1) := by decide +kernel
theorem dReader_takeKind_31 : decode YReader_takeKind.2.1 31 = .ok (.dup, 1) := by decide +kernel
theorem dReader_takeKind_32 : decode YReader_takeKind.2.1 32 = .ok (.getfield 121, 3) := by decide +kernel
theorem dReader_takeKind_35 : decode YReader_takeKind.2.1 35 = .ok (.iconst 1, 1) := by decide +kernel
theorem dReader_takeKind_36 : decode YReader_takeKind.2.1 36 = .ok (.iadd, 1) := by decide +kernel
theorem dReader_takeKind_37 : decode YReader_takeKind.2.1 37 = .ok (.putfield 121, 3) := by decide +kernel
theorem dReader_takeKind_40 : decode YReader_takeKind.2.1 40 = .ok (.iconst 1, 1) := by decide +kernel
theorem dReader_takeKind_41 : decode YReader_takeKind.2.1 41 = .ok (.ireturn, 1) := by decide +kernel
theorem dReader_kindAtHand_0 : decode YReader_kindAtHand.2.1 0 = .ok (.aload_n 0, 1) := by decide +kernel
theorem dReader_kindAtHand_1 : decode YReader_kindAtHand.2.1 1 = .ok (.ldc 198, 2) := by decide +kernel
theorem dReader_kindAtHand_3 : decode YReader_kindAtHand.2.1 3 = .ok (.invokevirtual 163, 3) := by decide +kernel
theorem dReader_kindAtHand_6 : decode YReader_kindAtHand.2.1 6 = .ok (.ifCond .eq 5, 3) := by decide +kernel
theorem dReader_kindAtHand_9 : decode YReader_kindAtHand.2.1 9 = .ok (.iconst 0, 1) := by decide +kernel
theorem dReader_kindAtHand_10 : decode YReader_kindAtHand.2.1 10 = .ok (.ireturn, 1) := by decide +kernel
theorem dReader_kindAtHand_11 : decode YReader_kindAtHand.2.1 11 = .ok (.aload_n 0, 1) := by decide +kernel
theorem dReader_kindAtHand_12 : decode YReader_kindAtHand.2.1 12 = .ok (.ldc 200, 2) := by decide +kernel
theorem dReader_kindAtHand_14 : decode YReader_kindAtHand.2.1 14 = .ok (.invokevirtual 163, 3) := by decide +kernel
theorem dReader_kindAtHand_17 : decode YReader_kindAtHand.2.1 17 = .ok (.ifCond .eq 5, 3) := by decide +kernel
theorem dReader_kindAtHand_20 : decode YReader_kindAtHand.2.1 20 = .ok (.iconst 1, 1) := by decide +kernel
theorem dReader_kindAtHand_21 : decode YReader_kindAtHand.2.1 21 = .ok (.ireturn, 1) := by decide +kernel
theorem dReader_kindAtHand_22 : decode YReader_kindAtHand.2.1 22 = .ok (.aload_n 0, 1) := by decide +kernel
theorem dReader_kindAtHand_23 : decode YReader_kindAtHand.2.1 23 = .ok (.ldc 202, 2) := by decide +kernel
theorem dReader_kindAtHand_25 : decode YReader_kindAtHand.2.1 25 = .ok (.invokevirtual 163, 3) := by decide +kernel
theorem dReader_kindAtHand_28 : decode YReader_kindAtHand.2.1 28 = .ok (.ifCond .eq 5, 3) := by decide +kernel
theorem dReader_kindAtHand_31 : decode YReader_kindAtHand.2.1 31 = .ok (.iconst 2, 1) := by decide +kernel
theorem dReader_kindAtHand_32 : decode YReader_kindAtHand.2.1 32 = .ok (.ireturn, 1) := by decide +kernel
theorem dReader_kindAtHand_33 : decode YReader_kindAtHand.2.1 33 = .ok (.aload_n 0, 1) := by decide +kernel
theorem dReader_kindAtHand_34 : decode YReader_kindAtHand.2.1 34 = .ok (.ldc 204, 2) := by decide +kernel
theorem dReader_kindAtHand_36 : decode YReader_kindAtHand.2.1 36 = .ok (.invokevirtual 163, 3) := by decide +kernel
theorem dReader_kindAtHand_39 : decode YReader_kindAtHand.2.1 39 = .ok (.ifCond .eq 7, 3) := by decide +kernel
theorem dReader_kindAtHand_42 : decode YReader_kindAtHand.2.1 42 = .ok (.iconst 3, 1) := by decide +kernel
theorem dReader_kindAtHand_43 : decode YReader_kindAtHand.2.1 43 = .ok (.goto 4, 3) := by decide +kernel
theorem dReader_kindAtHand_46 : decode YReader_kindAtHand.2.1 46 = .ok (.iconst (-1), 1) := by decide +kernel
theorem dReader_kindAtHand_47 : decode YReader_kindAtHand.2.1 47 = .ok (.ireturn, 1) := by decide +kernel
theorem dReader_takeNumber_0 : decode YReader_takeNumber.2.1 0 = .ok (.aload_n 0, 1) := by decide +kernel
theorem dReader_takeNumber_1 : decode YReader_takeNumber.2.1 1 = .ok (.getfield 53, 3) := by decide +kernel
theorem dReader_takeNumber_4 : decode YReader_takeNumber.2.1 4 = .ok (.iconst 2, 1) := by decide +kernel
theorem dReader_takeNumber_5 : decode YReader_takeNumber.2.1 5 = .ok (.if_icmp .ne 11, 3) := by decide +kernel
theorem dReader_takeNumber_8 : decode YReader_takeNumber.2.1 8 = .ok (.aload_n 0, 1) := by decide +kernel
theorem dReader_takeNumber_9 : decode YReader_takeNumber.2.1 9 = .ok (.getfield 124, 3) := by decide +kernel
theorem dReader_takeNumber_12 : decode YReader_takeNumber.2.1 12 = .ok (.iconst 3, 1) := by decide +kernel
theorem dReader_takeNumber_13 : decode YReader_takeNumber.2.1 13 = .ok (.if_icmp .lt 5, 3) := by decide +kernel
theorem dReader_takeNumber_16 : decode YReader_takeNumber.2.1 16 = .ok (.iconst 0, 1) := by decide +kernel
theorem dReader_takeNumber_17 : decode YReader_takeNumber.2.1 17 = .ok (.ireturn, 1) := by decide +kernel
