theorem dM_layAll_20 : decode YM_layAll.2.1 20 = .ok (.iconst 0, 1) := by decide +kernel
theorem dM_layAll_21 : decode YM_layAll.2.1 21 = .ok (.ireturn, 1) := by decide +kernel
theorem dM_till_0 : decode YM_till.2.1 0 = .ok (.aload_n 0, 1) := by decide +kernel
theorem dM_till_1 : decode YM_till.2.1 1 = .ok (.iconst 0, 1) := by decide +kernel
theorem dM_till_2 : decode YM_till.2.1 2 = .ok (.putfield 90, 3) := by decide +kernel
theorem dM_till_5 : decode YM_till.2.1 5 = .ok (.aload_n 0, 1) := by decide +kernel
theorem dM_till_6 : decode YM_till.2.1 6 = .ok (.iload_n 1, 1) := by decide +kernel
theorem dM_till_7 : decode YM_till.2.1 7 = .ok (.iload_n 2, 1) := by decide +kernel
theorem dM_till_8 : decode YM_till.2.1 8 = .ok (.invokevirtual 337, 3) := by decide +kernel
theorem dM_till_11 : decode YM_till.2.1 11 = .ok (.ifCond .eq 14, 3) := by decide +kernel
theorem dM_till_14 : decode YM_till.2.1 14 = .ok (.aload_n 0, 1) := by decide +kernel
theorem dM_till_15 : decode YM_till.2.1 15 = .ok (.aload_n 0, 1) := by decide +kernel
theorem dM_till_16 : decode YM_till.2.1 16 = .ok (.invokevirtual 292, 3) := by decide +kernel
theorem dM_till_19 : decode YM_till.2.1 19 = .ok (.invokevirtual 340, 3) := by decide +kernel
theorem dM_till_22 : decode YM_till.2.1 22 = .ok (.goto 4, 3) := by decide +kernel
theorem dM_till_25 : decode YM_till.2.1 25 = .ok (.iconst (-1), 1) := by decide +kernel
theorem dM_till_26 : decode YM_till.2.1 26 = .ok (.ireturn, 1) := by decide +kernel
theorem dM_allMoods_0 : decode YM_allMoods.2.1 0 = .ok (.iconst 0, 1) := by decide +kernel
theorem dM_allMoods_1 : decode YM_allMoods.2.1 1 = .ok (.istore_n 1, 1) := by decide +kernel
theorem dM_allMoods_2 : decode YM_allMoods.2.1 2 = .ok (.iconst 0, 1) := by decide +kernel
theorem dM_allMoods_3 : decode YM_allMoods.2.1 3 = .ok (.istore_n 2, 1) := by decide +kernel
theorem dM_allMoods_4 : decode YM_allMoods.2.1 4 = .ok (.iload_n 2, 1) := by decide +kernel
theorem dM_allMoods_5 : decode YM_allMoods.2.1 5 = .ok (.aload_n 0, 1) := by decide +kernel
theorem dM_allMoods_6 : decode YM_allMoods.2.1 6 = .ok (.getfield 259, 3) := by decide +kernel
theorem dM_allMoods_9 : decode YM_allMoods.2.1 9 = .ok (.if_icmp .ge 18, 3) := by decide +kernel
theorem dM_allMoods_12 : decode YM_allMoods.2.1 12 = .ok (.iload_n 1, 1) := by decide +kernel
theorem dM_allMoods_13 : decode YM_allMoods.2.1 13 = .ok (.aload_n 0, 1) := by decide +kernel
theorem dM_allMoods_14 : decode YM_allMoods.2.1 14 = .ok (.getfield 44, 3) := by decide +kernel
theorem dM_allMoods_17 : decode YM_allMoods.2.1 17 = .ok (.iload_n 2, 1) := by decide +kernel
theorem dM_allMoods_18 : decode YM_allMoods.2.1 18 = .ok (.iaload, 1) := by decide +kernel
theorem dM_allMoods_19 : decode YM_allMoods.2.1 19 = .ok (.iadd, 1) := by decide +kernel
theorem dM_allMoods_20 : decode YM_allMoods.2.1 20 = .ok (.istore_n 1, 1) := by decide +kernel
theorem dM_allMoods_21 : decode YM_allMoods.2.1 21 = .ok (.iinc 2 1, 3) := by decide +kernel
theorem dM_allMoods_24 : decode YM_allMoods.2.1 24 = .ok (.goto (-20), 3) := by decide +kernel
theorem dM_allMoods_27 : decode YM_allMoods.2.1 27 = .ok (.iload_n 1, 1) := by decide +kernel
theorem dM_allMoods_28 : decode YM_allMoods.2.1 28 = .ok (.ireturn, 1) := by decide +kernel
theorem dM_ofState_0 : decode YM_ofState.2.1 0 = .ok (.iload_n 1, 1) := by decide +kernel
theorem dM_ofState_1 : decode YM_ofState.2.1 1 = .ok (.bipush 10, 2) := by decide +kernel
theorem dM_ofState_3 : decode YM_ofState.2.1 3 = .ok (.bipush 39, 2) := by decide +kernel
theorem dM_ofState_5 : decode YM_ofState.2.1 5 = .ok (.invokestatic 102, 3) := by decide +kernel
theorem dM_ofState_8 : decode YM_ofState.2.1 8 = .ok (.ifCond .eq 59, 3) := by decide +kernel
theorem dM_ofState_11 : decode YM_ofState.2.1 11 = .ok (.iload_n 1, 1) := by decide +kernel
theorem dM_ofState_12 : decode YM_ofState.2.1 12 = .ok (.bipush 10, 2) := by decide +kernel
theorem dM_ofState_14 : decode YM_ofState.2.1 14 = .ok (.irem, 1) := by decide +kernel
theorem dM_ofState_15 : decode YM_ofState.2.1 15 = .ok (.istore_n 2, 1) := by decide +kernel
theorem dM_ofState_16 : decode YM_ofState.2.1 16 = .ok (.iload_n 2, 1) := by decide +kernel
theorem dM_ofState_17 : decode YM_ofState.2.1 17 = .ok (.aload_n 0, 1) := by decide +kernel
theorem dM_ofState_18 : decode YM_ofState.2.1 18 = .ok (.getfield 259, 3) := by decide +kernel
theorem dM_ofState_21 : decode YM_ofState.2.1 21 = .ok (.if_icmp .lt 9, 3) := by decide +kernel
theorem dM_ofState_24 : decode YM_ofState.2.1 24 = .ok (.sipush (-1000), 3) := by decide +kernel
theorem dM_ofState_27 : decode YM_ofState.2.1 27 = .ok (.goto 39, 3) := by decide +kernel
theorem dM_ofState_30 : decode YM_ofState.2.1 30 = .ok (.iload_n 1, 1) := by decide +kernel
theorem dM_ofState_31 : decode YM_ofState.2.1 31 = .ok (.bipush 20, 2) := by decide +kernel
theorem dM_ofState_33 : decode YM_ofState.2.1 33 = .ok (.if_icmp .ge 12, 3) := by decide +kernel
theorem dM_ofState_36 : decode YM_ofState.2.1 36 = .ok (.aload_n 0, 1) := by decide +kernel
theorem dM_ofState_37 : decode YM_ofState.2.1 37 = .ok (.getfield 44, 3) := by decide +kernel
theorem dM_ofState_40 : decode YM_ofState.2.1 40 = .ok (.iload_n 2, 1) := by decide +kernel
theorem dM_ofState_41 : decode YM_ofState.2.1 41 = .ok (.iaload, 1) := by decide +kernel
theorem dM_ofState_42 : decode YM_ofState.2.1 42 = .ok (.goto 24, 3) := by decide +kernel
theorem dM_ofState_45 : decode YM_ofState.2.1 45 = .ok (.iload_n 1, 1) := by decide +kernel
theorem dM_ofState_46 : decode YM_ofState.2.1 46 = .ok (.bipush 30, 2) := by decide +kernel
theorem dM_ofState_48 : decode YM_ofState.2.1 48 = .ok (.if_icmp .ge 12, 3) := by decide +kernel
theorem dM_ofState_51 : decode YM_ofState.2.1 51 = .ok (.aload_n 0, 1) := by decide +kernel
theorem dM_ofState_52 : decode YM_ofState.2.1 52 = .ok (.getfield 47, 3) := by decide +kernel
theorem dM_ofState_55 : decode YM_ofState.2.1 55 = .ok (.iload_n 2, 1) := by decide +kernel
theorem dM_ofState_56 : decode YM_ofState.2.1 56 = .ok (.iaload, 1) := by decide +kernel
theorem dM_ofState_57 : decode YM_ofState.2.1 57 = .ok (.goto 9, 3) := by decide +kernel
theorem dM_ofState_60 : decode YM_ofState.2.1 60 = .ok (.aload_n 0, 1) := by decide +kernel
theorem dM_ofState_61 : decode YM_ofState.2.1 61 = .ok (.getfield 50, 3) := by decide +kernel
theorem dM_ofState_64 : decode YM_ofState.2.1 64 = .ok (.iload_n 2, 1) := by decide +kernel
theorem dM_ofState_65 : decode YM_ofState.2.1 65 = .ok (.iaload, 1) := by decide +kernel
theorem dM_ofState_66 : decode YM_ofState.2.1 66 = .ok (.ireturn, 1) := by decide +kernel
theorem dM_ofState_67 : decode YM_ofState.2.1 67 = .ok (.iload_n 1, 1) := by decide +kernel
theorem dM_ofState_68 : decode YM_ofState.2.1 68 = .ok (.tableswitch 61 0 4 #[36, 41, 46, 51, 56], 36) := by decide +kernel
theorem dM_ofState_104 : decode YM_ofState.2.1 104 = .ok (.aload_n 0, 1) := by decide +kernel
theorem dM_ofState_105 : decode YM_ofState.2.1 105 = .ok (.getfield 298, 3) := by decide +kernel
theorem dM_ofState_108 : decode YM_ofState.2.1 108 = .ok (.ireturn, 1) := by decide +kernel
theorem dM_ofState_109 : decode YM_ofState.2.1 109 = .ok (.aload_n 0, 1) := by decide +kernel
theorem dM_ofState_110 : decode YM_ofState.2.1 110 = .ok (.getfield 301, 3) := by decide +kernel
theorem dM_ofState_113 : decode YM_ofState.2.1 113 = .ok (.ireturn, 1) := by decide +kernel
theorem dM_ofState_114 : decode YM_ofState.2.1 114 = .ok (.aload_n 0, 1) := by decide +kernel
theorem dM_ofState_115 : decode YM_ofState.2.1 115 = .ok (.getfield 304, 3) := by decide +kernel
theorem dM_ofState_118 : decode YM_ofState.2.1 118 = .ok (.ireturn, 1) := by decide +kernel
theorem dM_ofState_119 : decode YM_ofState.2.1 119 = .ok (.aload_n 0, 1) := by decide +kernel
theorem dM_ofState_120 : decode YM_ofState.2.1 120 = .ok (.getfield 307, 3) := by decide +kernel
theorem dM_ofState_123 : decode YM_ofState.2.1 123 = .ok (.ireturn, 1) := by decide +kernel
theorem dM_ofState_124 : decode YM_ofState.2.1 124 = .ok (.aload_n 0, 1) := by decide +kernel
theorem dM_ofState_125 : decode YM_ofState.2.1 125 = .ok (.invokevirtual 343, 3) := by decide +kernel
theorem dM_ofState_128 : decode YM_ofState.2.1 128 = .ok (.ireturn, 1) := by decide +kernel
theorem dM_ofState_129 : decode YM_ofState.2.1 129 = .ok (.sipush (-1000), 3) := by decide +kernel
theorem dM_ofState_132 : decode YM_ofState.2.1 132 = .ok (.ireturn, 1) := by decide +kernel
theorem dM_state_0 : decode YM_state.2.1 0 = .ok (.aload_n 0, 1) := by decide +kernel
theorem dM_state_1 : decode YM_state.2.1 1 = .ok (.iconst 0, 1) := by decide +kernel
theorem dM_state_2 : decode YM_state.2.1 2 = .ok (.putfield 90, 3) := by decide +kernel
theorem dM_state_5 : decode YM_state.2.1 5 = .ok (.aload_n 0, 1) := by decide +kernel
theorem dM_state_6 : decode YM_state.2.1 6 = .ok (.iload_n 1, 1) := by decide +kernel
theorem dM_state_7 : decode YM_state.2.1 7 = .ok (.iload_n 2, 1) := by decide +kernel
theorem dM_state_8 : decode YM_state.2.1 8 = .ok (.invokevirtual 337, 3) := by decide +kernel
theorem dM_state_11 : decode YM_state.2.1 11 = .ok (.ifCond .eq 33, 3) := by decide +kernel
theorem dM_state_14 : decode YM_state.2.1 14 = .ok (.iload_n 3, 1) := by decide +kernel
theorem dM_state_15 : decode YM_state.2.1 15 = .ok (.iconst 0, 1) := by decide +kernel
theorem dM_state_16 : decode YM_state.2.1 16 = .ok (.aload_n 0, 1) := by decide +kernel
theorem dM_state_17 : decode YM_state.2.1 17 = .ok (.invokevirtual 292, 3) := by decide +kernel
theorem dM_state_20 : decode YM_state.2.1 20 = .ok (.invokestatic 102, 3) := by decide +kernel
theorem dM_state_23 : decode YM_state.2.1 23 = .ok (.ifCond .eq 21, 3) := by decide +kernel
theorem dM_state_26 : decode YM_state.2.1 26 = .ok (.aload_n 0, 1) := by decide +kernel
theorem dM_state_27 : decode YM_state.2.1 27 = .ok (.iload_n 3, 1) := by decide +kernel
theorem dM_state_28 : decode YM_state.2.1 28 = .ok (.invokevirtual 340, 3) := by decide +kernel
theorem dM_state_31 : decode YM_state.2.1 31 = .ok (.iload_n 3, 1) := by decide +kernel
theorem dM_state_32 : decode YM_state.2.1 32 = .ok (.if_icmp .ne 12, 3) := by decide +kernel
theorem dM_state_35 : decode YM_state.2.1 35 = .ok (.aload_n 0, 1) := by decide +kernel
theorem dM_state_36 : decode YM_state.2.1 36 = .ok (.iload 4, 2) := by decide +kernel
theorem dM_state_38 : decode YM_state.2.1 38 = .ok (.invokevirtual 346, 3) := by decide +kernel
theorem dM_state_41 : decode YM_state.2.1 41 = .ok (.goto 6, 3) := by decide +kernel
theorem dM_state_44 : decode YM_state.2.1 44 = .ok (.sipush (-1000), 3) := by decide +kernel
theorem dM_state_47 : decode YM_state.2.1 47 = .ok (.ireturn, 1) := by decide +kernel
theorem dM_lettersOf_0 : decode YM_lettersOf.2.1 0 = .ok (.iconst 0, 1) := by decide +kernel
theorem dM_lettersOf_1 : decode YM_lettersOf.2.1 1 = .ok (.istore_n 2, 1) := by decide +kernel
theorem dM_lettersOf_2 : decode YM_lettersOf.2.1 2 = .ok (.iconst 0, 1) := by decide +kernel
theorem dM_lettersOf_3 : decode YM_lettersOf.2.1 3 = .ok (.istore_n 3, 1) := by decide +kernel
theorem dM_lettersOf_4 : decode YM_lettersOf.2.1 4 = .ok (.iload_n 3, 1) := by decide +kernel
theorem dM_lettersOf_5 : decode YM_lettersOf.2.1 5 = .ok (.aload_n 0, 1) := by decide +kernel
theorem dM_lettersOf_6 : decode YM_lettersOf.2.1 6 = .ok (.getfield 262, 3) := by decide +kernel
theorem dM_lettersOf_9 : decode YM_lettersOf.2.1 9 = .ok (.if_icmp .ge 29, 3) := by decide +kernel
theorem dM_lettersOf_12 : decode YM_lettersOf.2.1 12 = .ok (.iload_n 2, 1) := by decide +kernel
theorem dM_lettersOf_13 : decode YM_lettersOf.2.1 13 = .ok (.aload_n 0, 1) := by decide +kernel
theorem dM_lettersOf_14 : decode YM_lettersOf.2.1 14 = .ok (.getfield 41, 3) := by decide +kernel
theorem dM_lettersOf_17 : decode YM_lettersOf.2.1 17 = .ok (.iload_n 3, 1) := by decide +kernel
theorem dM_lettersOf_18 : decode YM_lettersOf.2.1 18 = .ok (.iaload, 1) := by decide +kernel
theorem dM_lettersOf_19 : decode YM_lettersOf.2.1 19 = .ok (.iload_n 1, 1) := by decide +kernel
theorem dM_lettersOf_20 : decode YM_lettersOf.2.1 20 = .ok (.if_icmp .ne 9, 3) := by decide +kernel
theorem dM_lettersOf_23 : decode YM_lettersOf.2.1 23 = .ok (.iconst 1, 1) := by decide +kernel
theorem dM_lettersOf_24 : decode YM_lettersOf.2.1 24 = .ok (.iload_n 3, 1) := by decide +kernel
theorem dM_lettersOf_25 : decode YM_lettersOf.2.1 25 = .ok (.ishl, 1) := by decide +kernel
theorem dM_lettersOf_26 : decode YM_lettersOf.2.1 26 = .ok (.goto 4, 3) := by decide +kernel
theorem dM_lettersOf_29 : decode YM_lettersOf.2.1 29 = .ok (.iconst 0, 1) := by decide +kernel
theorem dM_lettersOf_30 : decode YM_lettersOf.2.1 30 = .ok (.ior, 1) := by decide +kernel
theorem dM_lettersOf_31 : decode YM_lettersOf.2.1 31 = .ok (.istore_n 2, 1) := by decide +kernel
theorem dM_lettersOf_32 : decode YM_lettersOf.2.1 32 = .ok (.iinc 3 1, 3) := by decide +kernel
theorem dM_lettersOf_35 : decode YM_lettersOf.2.1 35 = .ok (.goto (-31), 3) := by decide +kernel
theorem dM_lettersOf_38 : decode YM_lettersOf.2.1 38 = .ok (.iload_n 2, 1) := by decide +kernel
theorem dM_lettersOf_39 : decode YM_lettersOf.2.1 39 = .ok (.ireturn, 1) := by decide +kernel
theorem dM_orderBy_0 : decode YM_orderBy.2.1 0 = .ok (.aload_n 0, 1) := by decide +kernel
theorem dM_orderBy_1 : decode YM_orderBy.2.1 1 = .ok (.iload_n 2, 1) := by decide +kernel
theorem dM_orderBy_2 : decode YM_orderBy.2.1 2 = .ok (.iload_n 3, 1) := by decide +kernel
theorem dM_orderBy_3 : decode YM_orderBy.2.1 3 = .ok (.invokevirtual 283, 3) := by decide +kernel
theorem dM_orderBy_6 : decode YM_orderBy.2.1 6 = .ok (.aload_n 0, 1) := by decide +kernel
theorem dM_orderBy_7 : decode YM_orderBy.2.1 7 = .ok (.getfield 53, 3) := by decide +kernel
theorem dM_orderBy_10 : decode YM_orderBy.2.1 10 = .ok (.iconst 5, 1) := by decide +kernel
theorem dM_orderBy_11 : decode YM_orderBy.2.1 11 = .ok (.iload_n 1, 1) := by decide +kernel
theorem dM_orderBy_12 : decode YM_orderBy.2.1 12 = .ok (.iconst 1, 1) := by decide +kernel
theorem dM_orderBy_13 : decode YM_orderBy.2.1 13 = .ok (.iload_n 2, 1) := by decide +kernel
theorem dM_orderBy_14 : decode YM_orderBy.2.1 14 = .ok (.ishl, 1) := by decide +kernel
theorem dM_orderBy_15 : decode YM_orderBy.2.1 15 = .ok (.iconst (-1), 1) := by decide +kernel
theorem dM_orderBy_16 : decode YM_orderBy.2.1 16 = .ok (.ixor, 1) := by decide +kernel
theorem dM_orderBy_17 : decode YM_orderBy.2.1 17 = .ok (.iand, 1) := by decide +kernel
theorem dM_orderBy_18 : decode YM_orderBy.2.1 18 = .ok (.imul, 1) := by decide +kernel
theorem dM_orderBy_19 : decode YM_orderBy.2.1 19 = .ok (.iconst 1, 1) := by decide +kernel
theorem dM_orderBy_20 : decode YM_orderBy.2.1 20 = .ok (.iadd, 1) := by decide +kernel
theorem dM_orderBy_21 : decode YM_orderBy.2.1 21 = .ok (.aload_n 0, 1) := by decide +kernel
theorem dM_orderBy_22 : decode YM_orderBy.2.1 22 = .ok (.iload_n 2, 1) := by decide +kernel
theorem dM_orderBy_23 : decode YM_orderBy.2.1 23 = .ok (.invokevirtual 271, 3) := by decide +kernel
theorem dM_orderBy_26 : decode YM_orderBy.2.1 26 = .ok (.iadd, 1) := by decide +kernel
theorem dM_orderBy_27 : decode YM_orderBy.2.1 27 = .ok (.iaload, 1) := by decide +kernel
theorem dM_orderBy_28 : decode YM_orderBy.2.1 28 = .ok (.iadd, 1) := by decide +kernel
theorem dM_orderBy_29 : decode YM_orderBy.2.1 29 = .ok (.ireturn, 1) := by decide +kernel
theorem dM_findOrders_0 : decode YM_findOrders.2.1 0 = .ok (.iconst 0, 1) := by decide +kernel
theorem dM_findOrders_1 : decode YM_findOrders.2.1 1 = .ok (.istore_n 3, 1) := by decide +kernel
theorem dM_findOrders_2 : decode YM_findOrders.2.1 2 = .ok (.iload_n 3, 1) := by decide +kernel
theorem dM_findOrders_3 : decode YM_findOrders.2.1 3 = .ok (.sipush 1024, 3) := by decide +kernel
theorem dM_findOrders_6 : decode YM_findOrders.2.1 6 = .ok (.if_icmp .ge 131, 3) := by decide +kernel
theorem dM_findOrders_9 : decode YM_findOrders.2.1 9 = .ok (.iconst (-1), 1) := by decide +kernel
theorem dM_findOrders_10 : decode YM_findOrders.2.1 10 = .ok (.istore 4, 2) := by decide +kernel
theorem dM_findOrders_12 : decode YM_findOrders.2.1 12 = .ok (.iload 4, 2) := by decide +kernel
theorem dM_findOrders_14 : decode YM_findOrders.2.1 14 = .ok (.iconst 4, 1) := by decide +kernel
theorem dM_findOrders_15 : decode YM_findOrders.2.1 15 = .ok (.if_icmp .ge 116, 3) := by decide +kernel
theorem dM_findOrders_18 : decode YM_findOrders.2.1 18 = .ok (.iload_n 3, 1) := by decide +kernel
theorem dM_findOrders_19 : decode YM_findOrders.2.1 19 = .ok (.iload_n 1, 1) := by decide +kernel
theorem dM_findOrders_20 : decode YM_findOrders.2.1 20 = .ok (.iconst (-1), 1) := by decide +kernel
theorem dM_findOrders_21 : decode YM_findOrders.2.1 21 = .ok (.ixor, 1) := by decide +kernel
theorem dM_findOrders_22 : decode YM_findOrders.2.1 22 = .ok (.iand, 1) := by decide +kernel
theorem dM_findOrders_23 : decode YM_findOrders.2.1 23 = .ok (.ifCond .ne 108, 3) := by decide +kernel
theorem dM_findOrders_26 : decode YM_findOrders.2.1 26 = .ok (.iload_n 3, 1) := by decide +kernel
theorem dM_findOrders_27 : decode YM_findOrders.2.1 27 = .ok (.ifCond .ne 7, 3) := by decide +kernel
theorem dM_findOrders_30 : decode YM_findOrders.2.1 30 = .ok (.iconst 0, 1) := by decide +kernel
theorem dM_findOrders_31 : decode YM_findOrders.2.1 31 = .ok (.goto 16, 3) := by decide +kernel
theorem dM_findOrders_34 : decode YM_findOrders.2.1 34 = .ok (.iload_n 2, 1) := by decide +kernel
theorem dM_findOrders_35 : decode YM_findOrders.2.1 35 = .ok (.ifCond .eq 9, 3) := by decide +kernel
theorem dM_findOrders_38 : decode YM_findOrders.2.1 38 = .ok (.ldc_w 349, 3) := by decide +kernel
theorem dM_findOrders_41 : decode YM_findOrders.2.1 41 = .ok (.goto 6, 3) := by decide +kernel
theorem dM_findOrders_44 : decode YM_findOrders.2.1 44 = .ok (.ldc_w 350, 3) := by decide +kernel
theorem dM_findOrders_47 : decode YM_findOrders.2.1 47 = .ok (.istore 5, 2) := by decide +kernel
theorem dM_findOrders_49 : decode YM_findOrders.2.1 49 = .ok (.iconst 0, 1) := by decide +kernel
theorem dM_findOrders_50 : decode YM_findOrders.2.1 50 = .ok (.istore 6, 2) := by decide +kernel
theorem dM_findOrders_52 : decode YM_findOrders.2.1 52 = .ok (.iload 6, 2) := by decide +kernel
theorem dM_findOrders_54 : decode YM_findOrders.2.1 54 = .ok (.aload_n 0, 1) := by decide +kernel
theorem dM_findOrders_55 : decode YM_findOrders.2.1 55 = .ok (.getfield 262, 3) := by decide +kernel
theorem dM_findOrders_58 : decode YM_findOrders.2.1 58 = .ok (.if_icmp .ge 52, 3) := by decide +kernel
theorem dM_findOrders_61 : decode YM_findOrders.2.1 61 = .ok (.iload_n 3, 1) := by decide +kernel
theorem dM_findOrders_62 : decode YM_findOrders.2.1 62 = .ok (.iload 6, 2) := by decide +kernel
theorem dM_findOrders_64 : decode YM_findOrders.2.1 64 = .ok (.invokestatic 94, 3) := by decide +kernel
theorem dM_findOrders_67 : decode YM_findOrders.2.1 67 = .ok (.ifCond .eq 37, 3) := by decide +kernel
theorem dM_findOrders_70 : decode YM_findOrders.2.1 70 = .ok (.aload_n 0, 1) := by decide +kernel
theorem dM_findOrders_71 : decode YM_findOrders.2.1 71 = .ok (.iload_n 3, 1) := by decide +kernel
theorem dM_findOrders_72 : decode YM_findOrders.2.1 72 = .ok (.iload 6, 2) := by decide +kernel
theorem dM_findOrders_74 : decode YM_findOrders.2.1 74 = .ok (.iload 4, 2) := by decide +kernel
theorem dM_findOrders_76 : decode YM_findOrders.2.1 76 = .ok (.invokevirtual 351, 3) := by decide +kernel
theorem dM_findOrders_79 : decode YM_findOrders.2.1 79 = .ok (.istore 7, 2) := by decide +kernel
theorem dM_findOrders_81 : decode YM_findOrders.2.1 81 = .ok (.iload_n 2, 1) := by decide +kernel
theorem dM_findOrders_82 : decode YM_findOrders.2.1 82 = .ok (.ifCond .eq 13, 3) := by decide +kernel
theorem dM_findOrders_85 : decode YM_findOrders.2.1 85 = .ok (.iload 5, 2) := by decide +kernel
theorem dM_findOrders_87 : decode YM_findOrders.2.1 87 = .ok (.iload 7, 2) := by decide +kernel
theorem dM_findOrders_89 : decode YM_findOrders.2.1 89 = .ok (.invokestatic 355, 3) := by decide +kernel
theorem dM_findOrders_92 : decode YM_findOrders.2.1 92 = .ok (.goto 10, 3) := by decide +kernel
theorem dM_findOrders_95 : decode YM_findOrders.2.1 95 = .ok (.iload 5, 2) := by decide +kernel
theorem dM_findOrders_97 : decode YM_findOrders.2.1 97 = .ok (.iload 7, 2) := by decide +kernel
theorem dM_findOrders_99 : decode YM_findOrders.2.1 99 = .ok (.invokestatic 167, 3) := by decide +kernel
theorem dM_findOrders_102 : decode YM_findOrders.2.1 102 = .ok (.istore 5, 2) := by decide +kernel
theorem dM_findOrders_104 : decode YM_findOrders.2.1 104 = .ok (.iinc 6 1, 3) := by decide +kernel
theorem dM_findOrders_107 : decode YM_findOrders.2.1 107 = .ok (.goto (-55), 3) := by decide +kernel
theorem dM_findOrders_110 : decode YM_findOrders.2.1 110 = .ok (.aload_n 0, 1) := by decide +kernel
theorem dM_findOrders_111 : decode YM_findOrders.2.1 111 = .ok (.getfield 53, 3) := by decide +kernel
theorem dM_findOrders_114 : decode YM_findOrders.2.1 114 = .ok (.iconst 5, 1) := by decide +kernel
theorem dM_findOrders_115 : decode YM_findOrders.2.1 115 = .ok (.iload_n 3, 1) := by decide +kernel
theorem dM_findOrders_116 : decode YM_findOrders.2.1 116 = .ok (.imul, 1) := by decide +kernel
theorem dM_findOrders_117 : decode YM_findOrders.2.1 117 = .ok (.iconst 1, 1) := by decide +kernel
theorem dM_findOrders_118 : decode YM_findOrders.2.1 118 = .ok (.iadd, 1) := by decide +kernel
theorem dM_findOrders_119 : decode YM_findOrders.2.1 119 = .ok (.iload 4, 2) := by decide +kernel
theorem dM_findOrders_121 : decode YM_findOrders.2.1 121 = .ok (.iadd, 1) := by decide +kernel
theorem dM_findOrders_122 : decode YM_findOrders.2.1 122 = .ok (.iload 5, 2) := by decide +kernel
theorem dM_findOrders_124 : decode YM_findOrders.2.1 124 = .ok (.iastore, 1) := by decide +kernel
theorem dM_findOrders_125 : decode YM_findOrders.2.1 125 = .ok (.iinc 4 1, 3) := by decide +kernel
theorem dM_findOrders_128 : decode YM_findOrders.2.1 128 = .ok (.goto (-116), 3) := by decide +kernel
theorem dM_findOrders_131 : decode YM_findOrders.2.1 131 = .ok (.iinc 3 1, 3) := by decide +kernel
theorem dM_findOrders_134 : decode YM_findOrders.2.1 134 = .ok (.goto (-132), 3) := by decide +kernel
theorem dM_findOrders_137 : decode YM_findOrders.2.1 137 = .ok (.return_, 1) := by decide +kernel
theorem dM_bestOf_0 : decode YM_bestOf.2.1 0 = .ok (.aload_n 0, 1) := by decide +kernel
theorem dM_bestOf_1 : decode YM_bestOf.2.1 1 = .ok (.iload_n 2, 1) := by decide +kernel
theorem dM_bestOf_2 : decode YM_bestOf.2.1 2 = .ok (.iload_n 3, 1) := by decide +kernel
theorem dM_bestOf_3 : decode YM_bestOf.2.1 3 = .ok (.invokevirtual 358, 3) := by decide +kernel
theorem dM_bestOf_6 : decode YM_bestOf.2.1 6 = .ok (.aload_n 0, 1) := by decide +kernel
theorem dM_bestOf_7 : decode YM_bestOf.2.1 7 = .ok (.iconst 3, 1) := by decide +kernel
theorem dM_bestOf_8 : decode YM_bestOf.2.1 8 = .ok (.iload_n 1, 1) := by decide +kernel
theorem dM_bestOf_9 : decode YM_bestOf.2.1 9 = .ok (.iadd, 1) := by decide +kernel
theorem dM_bestOf_10 : decode YM_bestOf.2.1 10 = .ok (.invokevirtual 255, 3) := by decide +kernel
theorem dM_bestOf_13 : decode YM_bestOf.2.1 13 = .ok (.aload_n 0, 1) := by decide +kernel
theorem dM_bestOf_14 : decode YM_bestOf.2.1 14 = .ok (.getfield 53, 3) := by decide +kernel
theorem dM_bestOf_17 : decode YM_bestOf.2.1 17 = .ok (.iconst 5, 1) := by decide +kernel
theorem dM_bestOf_18 : decode YM_bestOf.2.1 18 = .ok (.iload_n 2, 1) := by decide +kernel
theorem dM_bestOf_19 : decode YM_bestOf.2.1 19 = .ok (.imul, 1) := by decide +kernel
theorem dM_bestOf_20 : decode YM_bestOf.2.1 20 = .ok (.iaload, 1) := by decide +kernel
theorem dM_bestOf_21 : decode YM_bestOf.2.1 21 = .ok (.iadd, 1) := by decide +kernel
theorem dM_bestOf_22 : decode YM_bestOf.2.1 22 = .ok (.ireturn, 1) := by decide +kernel
theorem dM_bestAll_0 : decode YM_bestAll.2.1 0 = .ok (.aload_n 0, 1) := by decide +kernel
theorem dM_bestAll_1 : decode YM_bestAll.2.1 1 = .ok (.iload_n 1, 1) := by decide +kernel
theorem dM_bestAll_2 : decode YM_bestAll.2.1 2 = .ok (.aload_n 0, 1) := by decide +kernel
theorem dM_bestAll_3 : decode YM_bestAll.2.1 3 = .ok (.iload_n 1, 1) := by decide +kernel
theorem dM_bestAll_4 : decode YM_bestAll.2.1 4 = .ok (.invokevirtual 362, 3) := by decide +kernel
theorem dM_bestAll_7 : decode YM_bestAll.2.1 7 = .ok (.iconst 0, 1) := by decide +kernel
theorem dM_bestAll_8 : decode YM_bestAll.2.1 8 = .ok (.invokevirtual 365, 3) := by decide +kernel
theorem dM_bestAll_11 : decode YM_bestAll.2.1 11 = .ok (.ireturn, 1) := by decide +kernel
theorem dM_orderAt_0 : decode YM_orderAt.2.1 0 = .ok (.iload_n 1, 1) := by decide +kernel
theorem dM_orderAt_1 : decode YM_orderAt.2.1 1 = .ok (.istore_n 3, 1) := by decide +kernel
theorem dM_orderAt_2 : decode YM_orderAt.2.1 2 = .ok (.iconst (-1), 1) := by decide +kernel
theorem dM_orderAt_3 : decode YM_orderAt.2.1 3 = .ok (.istore 4, 2) := by decide +kernel
theorem dM_orderAt_5 : decode YM_orderAt.2.1 5 = .ok (.iconst (-1), 1) := by decide +kernel
theorem dM_orderAt_6 : decode YM_orderAt.2.1 6 = .ok (.istore 5, 2) := by decide +kernel
theorem dM_orderAt_8 : decode YM_orderAt.2.1 8 = .ok (.iconst 0, 1) := by decide +kernel
theorem dM_orderAt_9 : decode YM_orderAt.2.1 9 = .ok (.istore 6, 2) := by decide +kernel
theorem dM_orderAt_11 : decode YM_orderAt.2.1 11 = .ok (.iload 6, 2) := by decide +kernel
theorem dM_orderAt_13 : decode YM_orderAt.2.1 13 = .ok (.iload_n 2, 1) := by decide +kernel
theorem dM_orderAt_14 : decode YM_orderAt.2.1 14 = .ok (.if_icmp .gt 91, 3) := by decide +kernel
theorem dM_orderAt_17 : decode YM_orderAt.2.1 17 = .ok (.iconst (-1), 1) := by decide +kernel
theorem dM_orderAt_18 : decode YM_orderAt.2.1 18 = .ok (.istore 5, 2) := by decide +kernel
theorem dM_orderAt_20 : decode YM_orderAt.2.1 20 = .ok (.aload_n 0, 1) := by decide +kernel
theorem dM_orderAt_21 : decode YM_orderAt.2.1 21 = .ok (.getfield 262, 3) := by decide +kernel
theorem dM_orderAt_24 : decode YM_orderAt.2.1 24 = .ok (.iconst 1, 1) := by decide +kernel
theorem dM_orderAt_25 : decode YM_orderAt.2.1 25 = .ok (.isub, 1) := by decide +kernel
theorem dM_orderAt_26 : decode YM_orderAt.2.1 26 = .ok (.istore 7, 2) := by decide +kernel
theorem dM_orderAt_28 : decode YM_orderAt.2.1 28 = .ok (.iload 7, 2) := by decide +kernel
theorem dM_orderAt_30 : decode YM_orderAt.2.1 30 = .ok (.ifCond .lt 52, 3) := by decide +kernel
theorem dM_orderAt_33 : decode YM_orderAt.2.1 33 = .ok (.iload_n 3, 1) := by decide +kernel
theorem dM_orderAt_34 : decode YM_orderAt.2.1 34 = .ok (.iload 7, 2) := by decide +kernel
theorem dM_orderAt_36 : decode YM_orderAt.2.1 36 = .ok (.invokestatic 94, 3) := by decide +kernel
theorem dM_orderAt_39 : decode YM_orderAt.2.1 39 = .ok (.ifCond .eq 33, 3) := by decide +kernel
theorem dM_orderAt_42 : decode YM_orderAt.2.1 42 = .ok (.aload_n 0, 1) := by decide +kernel
theorem dM_orderAt_43 : decode YM_orderAt.2.1 43 = .ok (.iload_n 3, 1) := by decide +kernel
theorem dM_orderAt_44 : decode YM_orderAt.2.1 44 = .ok (.iload 7, 2) := by decide +kernel
theorem dM_orderAt_46 : decode YM_orderAt.2.1 46 = .ok (.iload 4, 2) := by decide +kernel
theorem dM_orderAt_48 : decode YM_orderAt.2.1 48 = .ok (.invokevirtual 351, 3) := by decide +kernel
theorem dM_orderAt_51 : decode YM_orderAt.2.1 51 = .ok (.aload_n 0, 1) := by decide +kernel
theorem dM_orderAt_52 : decode YM_orderAt.2.1 52 = .ok (.getfield 53, 3) := by decide +kernel
theorem dM_orderAt_55 : decode YM_orderAt.2.1 55 = .ok (.iconst 5, 1) := by decide +kernel
theorem dM_orderAt_56 : decode YM_orderAt.2.1 56 = .ok (.iload_n 3, 1) := by decide +kernel
theorem dM_orderAt_57 : decode YM_orderAt.2.1 57 = .ok (.imul, 1) := by decide +kernel
theorem dM_orderAt_58 : decode YM_orderAt.2.1 58 = .ok (.iconst 1, 1) := by decide +kernel
theorem dM_orderAt_59 : decode YM_orderAt.2.1 59 = .ok (.iadd, 1) := by decide +kernel
theorem dM_orderAt_60 : decode YM_orderAt.2.1 60 = .ok (.iload 4, 2) := by decide +kernel
theorem dM_orderAt_62 : decode YM_orderAt.2.1 62 = .ok (.iadd, 1) := by decide +kernel
theorem dM_orderAt_63 : decode YM_orderAt.2.1 63 = .ok (.iaload, 1) := by decide +kernel
theorem dM_orderAt_64 : decode YM_orderAt.2.1 64 = .ok (.if_icmp .ne 8, 3) := by decide +kernel
theorem dM_orderAt_67 : decode YM_orderAt.2.1 67 = .ok (.iload 7, 2) := by decide +kernel
theorem dM_orderAt_69 : decode YM_orderAt.2.1 69 = .ok (.goto 5, 3) := by decide +kernel
theorem dM_orderAt_72 : decode YM_orderAt.2.1 72 = .ok (.iload 5, 2) := by decide +kernel
theorem dM_orderAt_74 : decode YM_orderAt.2.1 74 = .ok (.istore 5, 2) := by decide +kernel
theorem dM_orderAt_76 : decode YM_orderAt.2.1 76 = .ok (.iinc 7 (-1), 3) := by decide +kernel
theorem dM_orderAt_79 : decode YM_orderAt.2.1 79 = .ok (.goto (-51), 3) := by decide +kernel
theorem dM_orderAt_82 : decode YM_orderAt.2.1 82 = .ok (.iload_n 3, 1) := by decide +kernel
theorem dM_orderAt_83 : decode YM_orderAt.2.1 83 = .ok (.iconst 1, 1) := by decide +kernel
theorem dM_orderAt_84 : decode YM_orderAt.2.1 84 = .ok (.iload 5, 2) := by decide +kernel
theorem dM_orderAt_86 : decode YM_orderAt.2.1 86 = .ok (.ishl, 1) := by decide +kernel
theorem dM_orderAt_87 : decode YM_orderAt.2.1 87 = .ok (.iconst (-1), 1) := by decide +kernel
theorem dM_orderAt_88 : decode YM_orderAt.2.1 88 = .ok (.ixor, 1) := by decide +kernel
theorem dM_orderAt_89 : decode YM_orderAt.2.1 89 = .ok (.iand, 1) := by decide +kernel
theorem dM_orderAt_90 : decode YM_orderAt.2.1 90 = .ok (.istore_n 3, 1) := by decide +kernel
theorem dM_orderAt_91 : decode YM_orderAt.2.1 91 = .ok (.aload_n 0, 1) := by decide +kernel
theorem dM_orderAt_92 : decode YM_orderAt.2.1 92 = .ok (.iload 5, 2) := by decide +kernel
theorem dM_orderAt_94 : decode YM_orderAt.2.1 94 = .ok (.invokevirtual 271, 3) := by decide +kernel
theorem dM_orderAt_97 : decode YM_orderAt.2.1 97 = .ok (.istore 4, 2) := by decide +kernel
theorem dM_orderAt_99 : decode YM_orderAt.2.1 99 = .ok (.iinc 6 1, 3) := by decide +kernel
theorem dM_orderAt_102 : decode YM_orderAt.2.1 102 = .ok (.goto (-91), 3) := by decide +kernel
theorem dM_orderAt_105 : decode YM_orderAt.2.1 105 = .ok (.iload 5, 2) := by decide +kernel
theorem dM_orderAt_107 : decode YM_orderAt.2.1 107 = .ok (.ireturn, 1) := by decide +kernel
theorem dM_order_0 : decode YM_order.2.1 0 = .ok (.aload_n 0, 1) := by decide +kernel
theorem dM_order_1 : decode YM_order.2.1 1 = .ok (.iconst 0, 1) := by decide +kernel
theorem dM_order_2 : decode YM_order.2.1 2 = .ok (.putfield 90, 3) := by decide +kernel
theorem dM_order_5 : decode YM_order.2.1 5 = .ok (.aload_n 0, 1) := by decide +kernel
theorem dM_order_6 : decode YM_order.2.1 6 = .ok (.iload_n 1, 1) := by decide +kernel
theorem dM_order_7 : decode YM_order.2.1 7 = .ok (.invokevirtual 277, 3) := by decide +kernel
theorem dM_order_10 : decode YM_order.2.1 10 = .ok (.ifCond .eq 11, 3) := by decide +kernel
theorem dM_order_13 : decode YM_order.2.1 13 = .ok (.aload_n 0, 1) := by decide +kernel
theorem dM_order_14 : decode YM_order.2.1 14 = .ok (.iload_n 2, 1) := by decide +kernel
theorem dM_order_15 : decode YM_order.2.1 15 = .ok (.invokevirtual 322, 3) := by decide +kernel
theorem dM_order_18 : decode YM_order.2.1 18 = .ok (.ifCond .ne 7, 3) := by decide +kernel
theorem dM_order_21 : decode YM_order.2.1 21 = .ok (.sipush (-1000), 3) := by decide +kernel
theorem dM_order_24 : decode YM_order.2.1 24 = .ok (.ireturn, 1) := by decide +kernel
theorem dM_order_25 : decode YM_order.2.1 25 = .ok (.aload_n 0, 1) := by decide +kernel
theorem dM_order_26 : decode YM_order.2.1 26 = .ok (.iload_n 2, 1) := by decide +kernel
theorem dM_order_27 : decode YM_order.2.1 27 = .ok (.invokevirtual 362, 3) := by decide +kernel
theorem dM_order_30 : decode YM_order.2.1 30 = .ok (.istore 5, 2) := by decide +kernel
theorem dM_order_32 : decode YM_order.2.1 32 = .ok (.iload 4, 2) := by decide +kernel
theorem dM_order_34 : decode YM_order.2.1 34 = .ok (.iconst (-1), 1) := by decide +kernel
theorem dM_order_35 : decode YM_order.2.1 35 = .ok (.iload 5, 2) := by decide +kernel
theorem dM_order_37 : decode YM_order.2.1 37 = .ok (.invokestatic 369, 3) := by decide +kernel
theorem dM_order_40 : decode YM_order.2.1 40 = .ok (.iconst 1, 1) := by decide +kernel
theorem dM_order_41 : decode YM_order.2.1 41 = .ok (.isub, 1) := by decide +kernel
theorem dM_order_42 : decode YM_order.2.1 42 = .ok (.invokestatic 102, 3) := by decide +kernel
theorem dM_order_45 : decode YM_order.2.1 45 = .ok (.ifCond .ne 7, 3) := by decide +kernel
theorem dM_order_48 : decode YM_order.2.1 48 = .ok (.sipush (-1000), 3) := by decide +kernel
theorem dM_order_51 : decode YM_order.2.1 51 = .ok (.ireturn, 1) := by decide +kernel
theorem dM_order_52 : decode YM_order.2.1 52 = .ok (.aload_n 0, 1) := by decide +kernel
theorem dM_order_53 : decode YM_order.2.1 53 = .ok (.iload_n 2, 1) := by decide +kernel
theorem dM_order_54 : decode YM_order.2.1 54 = .ok (.iload 5, 2) := by decide +kernel
theorem dM_order_56 : decode YM_order.2.1 56 = .ok (.iload_n 3, 1) := by decide +kernel
theorem dM_order_57 : decode YM_order.2.1 57 = .ok (.invokevirtual 365, 3) := by decide +kernel
theorem dM_order_60 : decode YM_order.2.1 60 = .ok (.istore 6, 2) := by decide +kernel
theorem dM_order_62 : decode YM_order.2.1 62 = .ok (.iload 4, 2) := by decide +kernel
theorem dM_order_64 : decode YM_order.2.1 64 = .ok (.iconst (-1), 1) := by decide +kernel
theorem dM_order_65 : decode YM_order.2.1 65 = .ok (.if_icmp .ne 8, 3) := by decide +kernel
theorem dM_order_68 : decode YM_order.2.1 68 = .ok (.iload 6, 2) := by decide +kernel
theorem dM_order_70 : decode YM_order.2.1 70 = .ok (.goto 11, 3) := by decide +kernel
theorem dM_order_73 : decode YM_order.2.1 73 = .ok (.aload_n 0, 1) := by decide +kernel
theorem dM_order_74 : decode YM_order.2.1 74 = .ok (.iload 5, 2) := by decide +kernel
theorem dM_order_76 : decode YM_order.2.1 76 = .ok (.iload 4, 2) := by decide +kernel
theorem dM_order_78 : decode YM_order.2.1 78 = .ok (.invokevirtual 372, 3) := by decide +kernel
theorem dM_order_81 : decode YM_order.2.1 81 = .ok (.ireturn, 1) := by decide +kernel
theorem dM_common_0 : decode YM_common.2.1 0 = .ok (.lload_n 0, 1) := by decide +kernel
theorem dM_common_1 : decode YM_common.2.1 1 = .ok (.lconst 0, 1) := by decide +kernel
theorem dM_common_2 : decode YM_common.2.1 2 = .ok (.lcmp, 1) := by decide +kernel
theorem dM_common_3 : decode YM_common.2.1 3 = .ok (.ifCond .ge 8, 3) := by decide +kernel
theorem dM_common_6 : decode YM_common.2.1 6 = .ok (.lload_n 0, 1) := by decide +kernel
theorem dM_common_7 : decode YM_common.2.1 7 = .ok (.lneg, 1) := by decide +kernel
theorem dM_common_8 : decode YM_common.2.1 8 = .ok (.goto 4, 3) := by decide +kernel
theorem dM_common_11 : decode YM_common.2.1 11 = .ok (.lload_n 0, 1) := by decide +kernel
theorem dM_common_12 : decode YM_common.2.1 12 = .ok (.lstore 4, 2) := by decide +kernel
theorem dM_common_14 : decode YM_common.2.1 14 = .ok (.lload_n 2, 1) := by decide +kernel
theorem dM_common_15 : decode YM_common.2.1 15 = .ok (.lconst 0, 1) := by decide +kernel
theorem dM_common_16 : decode YM_common.2.1 16 = .ok (.lcmp, 1) := by decide +kernel
theorem dM_common_17 : decode YM_common.2.1 17 = .ok (.ifCond .ge 8, 3) := by decide +kernel
theorem dM_common_20 : decode YM_common.2.1 20 = .ok (.lload_n 2, 1) := by decide +kernel
theorem dM_common_21 : decode YM_common.2.1 21 = .ok (.lneg, 1) := by decide +kernel
theorem dM_common_22 : decode YM_common.2.1 22 = .ok (.goto 4, 3) := by decide +kernel
theorem dM_common_25 : decode YM_common.2.1 25 = .ok (.lload_n 2, 1) := by decide +kernel
theorem dM_common_26 : decode YM_common.2.1 26 = .ok (.lstore 6, 2) := by decide +kernel
theorem dM_common_28 : decode YM_common.2.1 28 = .ok (.lload 6, 2) := by decide +kernel
theorem dM_common_30 : decode YM_common.2.1 30 = .ok (.lconst 0, 1) := by decide +kernel
theorem dM_common_31 : decode YM_common.2.1 31 = .ok (.lcmp, 1) := by decide +kernel
theorem dM_common_32 : decode YM_common.2.1 32 = .ok (.ifCond .eq 21, 3) := by decide +kernel
theorem dM_common_35 : decode YM_common.2.1 35 = .ok (.lload 4, 2) := by decide +kernel
theorem dM_common_37 : decode YM_common.2.1 37 = .ok (.lload 6, 2) := by decide +kernel
theorem dM_common_39 : decode YM_common.2.1 39 = .ok (.lrem, 1) := by decide +kernel
theorem dM_common_40 : decode YM_common.2.1 40 = .ok (.lstore 8, 2) := by decide +kernel
theorem dM_common_42 : decode YM_common.2.1 42 = .ok (.lload 6, 2) := by decide +kernel
theorem dM_common_44 : decode YM_common.2.1 44 = .ok (.lstore 4, 2) := by decide +kernel
theorem dM_common_46 : decode YM_common.2.1 46 = .ok (.lload 8, 2) := by decide +kernel
theorem dM_common_48 : decode YM_common.2.1 48 = .ok (.lstore 6, 2) := by decide +kernel
theorem dM_common_50 : decode YM_common.2.1 50 = .ok (.goto (-22), 3) := by decide +kernel
theorem dM_common_53 : decode YM_common.2.1 53 = .ok (.lload 4, 2) := by decide +kernel
theorem dM_common_55 : decode YM_common.2.1 55 = .ok (.lreturn, 1) := by decide +kernel
theorem dM_part_0 : decode YM_part.2.1 0 = .ok (.iload 4, 2) := by decide +kernel
theorem dM_part_2 : decode YM_part.2.1 2 = .ok (.ifCond .eq 7, 3) := by decide +kernel
theorem dM_part_5 : decode YM_part.2.1 5 = .ok (.lload_n 2, 1) := by decide +kernel
theorem dM_part_6 : decode YM_part.2.1 6 = .ok (.goto 4, 3) := by decide +kernel
theorem dM_part_9 : decode YM_part.2.1 9 = .ok (.lload_n 0, 1) := by decide +kernel
theorem dM_part_10 : decode YM_part.2.1 10 = .ok (.lload_n 2, 1) := by decide +kernel
theorem dM_part_11 : decode YM_part.2.1 11 = .ok (.lload_n 0, 1) := by decide +kernel
theorem dM_part_12 : decode YM_part.2.1 12 = .ok (.invokestatic 375, 3) := by decide +kernel
theorem dM_part_15 : decode YM_part.2.1 15 = .ok (.ldiv, 1) := by decide +kernel
theorem dM_part_16 : decode YM_part.2.1 16 = .ok (.lreturn, 1) := by decide +kernel
theorem dM_mean_0 : decode YM_mean.2.1 0 = .ok (.aload_n 0, 1) := by decide +kernel
theorem dM_mean_1 : decode YM_mean.2.1 1 = .ok (.iconst 0, 1) := by decide +kernel
theorem dM_mean_2 : decode YM_mean.2.1 2 = .ok (.putfield 90, 3) := by decide +kernel
theorem dM_mean_5 : decode YM_mean.2.1 5 = .ok (.aload_n 0, 1) := by decide +kernel
theorem dM_mean_6 : decode YM_mean.2.1 6 = .ok (.iload_n 1, 1) := by decide +kernel
theorem dM_mean_7 : decode YM_mean.2.1 7 = .ok (.invokevirtual 277, 3) := by decide +kernel
theorem dM_mean_10 : decode YM_mean.2.1 10 = .ok (.ifCond .eq 11, 3) := by decide +kernel
theorem dM_mean_13 : decode YM_mean.2.1 13 = .ok (.aload_n 0, 1) := by decide +kernel
theorem dM_mean_14 : decode YM_mean.2.1 14 = .ok (.iload_n 2, 1) := by decide +kernel
theorem dM_mean_15 : decode YM_mean.2.1 15 = .ok (.invokevirtual 322, 3) := by decide +kernel
theorem dM_mean_18 : decode YM_mean.2.1 18 = .ok (.ifCond .ne 7, 3) := by decide +kernel
theorem dM_mean_21 : decode YM_mean.2.1 21 = .ok (.ldc2_w 379, 3) := by decide +kernel
theorem dM_mean_24 : decode YM_mean.2.1 24 = .ok (.lreturn, 1) := by decide +kernel
theorem dM_mean_25 : decode YM_mean.2.1 25 = .ok (.aload_n 0, 1) := by decide +kernel
theorem dM_mean_26 : decode YM_mean.2.1 26 = .ok (.iload_n 2, 1) := by decide +kernel
theorem dM_mean_27 : decode YM_mean.2.1 27 = .ok (.invokevirtual 362, 3) := by decide +kernel
theorem dM_mean_30 : decode YM_mean.2.1 30 = .ok (.istore 4, 2) := by decide +kernel
theorem dM_mean_32 : decode YM_mean.2.1 32 = .ok (.iconst 1, 1) := by decide +kernel
theorem dM_mean_33 : decode YM_mean.2.1 33 = .ok (.iload 4, 2) := by decide +kernel
theorem dM_mean_35 : decode YM_mean.2.1 35 = .ok (.invokestatic 369, 3) := by decide +kernel
theorem dM_mean_38 : decode YM_mean.2.1 38 = .ok (.invokestatic 167, 3) := by decide +kernel
theorem dM_mean_41 : decode YM_mean.2.1 41 = .ok (.i2l, 1) := by decide +kernel
theorem dM_mean_42 : decode YM_mean.2.1 42 = .ok (.lstore 5, 2) := by decide +kernel
theorem dM_mean_44 : decode YM_mean.2.1 44 = .ok (.lload 5, 2) := by decide +kernel
theorem dM_mean_46 : decode YM_mean.2.1 46 = .ok (.aload_n 0, 1) := by decide +kernel
theorem dM_mean_47 : decode YM_mean.2.1 47 = .ok (.iconst 3, 1) := by decide +kernel
theorem dM_mean_48 : decode YM_mean.2.1 48 = .ok (.iload_n 2, 1) := by decide +kernel
theorem dM_mean_49 : decode YM_mean.2.1 49 = .ok (.iadd, 1) := by decide +kernel
theorem dM_mean_50 : decode YM_mean.2.1 50 = .ok (.invokevirtual 255, 3) := by decide +kernel
theorem dM_mean_53 : decode YM_mean.2.1 53 = .ok (.i2l, 1) := by decide +kernel
theorem dM_mean_54 : decode YM_mean.2.1 54 = .ok (.lmul, 1) := by decide +kernel
theorem dM_mean_55 : decode YM_mean.2.1 55 = .ok (.lstore 7, 2) := by decide +kernel
theorem dM_mean_57 : decode YM_mean.2.1 57 = .ok (.iconst 0, 1) := by decide +kernel
theorem dM_mean_58 : decode YM_mean.2.1 58 = .ok (.istore 9, 2) := by decide +kernel
theorem dM_mean_60 : decode YM_mean.2.1 60 = .ok (.iload 9, 2) := by decide +kernel
theorem dM_mean_62 : decode YM_mean.2.1 62 = .ok (.aload_n 0, 1) := by decide +kernel
theorem dM_mean_63 : decode YM_mean.2.1 63 = .ok (.getfield 262, 3) := by decide +kernel
theorem dM_mean_66 : decode YM_mean.2.1 66 = .ok (.if_icmp .ge 87, 3) := by decide +kernel
theorem dM_mean_69 : decode YM_mean.2.1 69 = .ok (.iconst 0, 1) := by decide +kernel
theorem dM_mean_70 : decode YM_mean.2.1 70 = .ok (.istore 10, 2) := by decide +kernel
theorem dM_mean_72 : decode YM_mean.2.1 72 = .ok (.iload 10, 2) := by decide +kernel
theorem dM_mean_74 : decode YM_mean.2.1 74 = .ok (.aload_n 0, 1) := by decide +kernel
theorem dM_mean_75 : decode YM_mean.2.1 75 = .ok (.getfield 262, 3) := by decide +kernel
theorem dM_mean_78 : decode YM_mean.2.1 78 = .ok (.if_icmp .ge 69, 3) := by decide +kernel
theorem dM_mean_81 : decode YM_mean.2.1 81 = .ok (.iload 4, 2) := by decide +kernel
theorem dM_mean_83 : decode YM_mean.2.1 83 = .ok (.iload 9, 2) := by decide +kernel
theorem dM_mean_85 : decode YM_mean.2.1 85 = .ok (.invokestatic 94, 3) := by decide +kernel
theorem dM_mean_88 : decode YM_mean.2.1 88 = .ok (.ifCond .eq 59, 3) := by decide +kernel
theorem dM_mean_91 : decode YM_mean.2.1 91 = .ok (.lload 7, 2) := by decide +kernel
theorem dM_mean_93 : decode YM_mean.2.1 93 = .ok (.iload 10, 2) := by decide +kernel
theorem dM_mean_95 : decode YM_mean.2.1 95 = .ok (.iload 9, 2) := by decide +kernel
theorem dM_mean_97 : decode YM_mean.2.1 97 = .ok (.if_icmp .ne 14, 3) := by decide +kernel
theorem dM_mean_100 : decode YM_mean.2.1 100 = .ok (.aload_n 0, 1) := by decide +kernel
theorem dM_mean_101 : decode YM_mean.2.1 101 = .ok (.iload 9, 2) := by decide +kernel
theorem dM_mean_103 : decode YM_mean.2.1 103 = .ok (.iconst (-1), 1) := by decide +kernel
theorem dM_mean_104 : decode YM_mean.2.1 104 = .ok (.invokevirtual 283, 3) := by decide +kernel
theorem dM_mean_107 : decode YM_mean.2.1 107 = .ok (.i2l, 1) := by decide +kernel
theorem dM_mean_108 : decode YM_mean.2.1 108 = .ok (.goto 30, 3) := by decide +kernel
theorem dM_mean_111 : decode YM_mean.2.1 111 = .ok (.iload 4, 2) := by decide +kernel
theorem dM_mean_113 : decode YM_mean.2.1 113 = .ok (.iload 10, 2) := by decide +kernel
theorem dM_mean_115 : decode YM_mean.2.1 115 = .ok (.invokestatic 94, 3) := by decide +kernel
theorem dM_mean_118 : decode YM_mean.2.1 118 = .ok (.ifCond .eq 19, 3) := by decide +kernel
theorem dM_mean_121 : decode YM_mean.2.1 121 = .ok (.aload_n 0, 1) := by decide +kernel
theorem dM_mean_122 : decode YM_mean.2.1 122 = .ok (.iload 9, 2) := by decide +kernel
theorem dM_mean_124 : decode YM_mean.2.1 124 = .ok (.aload_n 0, 1) := by decide +kernel
theorem dM_mean_125 : decode YM_mean.2.1 125 = .ok (.iload 10, 2) := by decide +kernel
theorem dM_mean_127 : decode YM_mean.2.1 127 = .ok (.invokevirtual 271, 3) := by decide +kernel
theorem dM_mean_130 : decode YM_mean.2.1 130 = .ok (.invokevirtual 283, 3) := by decide +kernel
theorem dM_mean_133 : decode YM_mean.2.1 133 = .ok (.i2l, 1) := by decide +kernel
theorem dM_mean_134 : decode YM_mean.2.1 134 = .ok (.goto 4, 3) := by decide +kernel
theorem dM_mean_137 : decode YM_mean.2.1 137 = .ok (.lconst 0, 1) := by decide +kernel
theorem dM_mean_138 : decode YM_mean.2.1 138 = .ok (.ladd, 1) := by decide +kernel
theorem dM_mean_139 : decode YM_mean.2.1 139 = .ok (.lstore 7, 2) := by decide +kernel
theorem dM_mean_141 : decode YM_mean.2.1 141 = .ok (.iinc 10 1, 3) := by decide +kernel
theorem dM_mean_144 : decode YM_mean.2.1 144 = .ok (.goto (-72), 3) := by decide +kernel
theorem dM_mean_147 : decode YM_mean.2.1 147 = .ok (.iinc 9 1, 3) := by decide +kernel
theorem dM_mean_150 : decode YM_mean.2.1 150 = .ok (.goto (-90), 3) := by decide +kernel
theorem dM_mean_153 : decode YM_mean.2.1 153 = .ok (.lload 7, 2) := by decide +kernel
theorem dM_mean_155 : decode YM_mean.2.1 155 = .ok (.lload 5, 2) := by decide +kernel
theorem dM_mean_157 : decode YM_mean.2.1 157 = .ok (.iload_n 3, 1) := by decide +kernel
theorem dM_mean_158 : decode YM_mean.2.1 158 = .ok (.invokestatic 381, 3) := by decide +kernel
theorem dM_mean_161 : decode YM_mean.2.1 161 = .ok (.lreturn, 1) := by decide +kernel
theorem dM_behind_0 : decode YM_behind.2.1 0 = .ok (.aload_n 0, 1) := by decide +kernel
theorem dM_behind_1 : decode YM_behind.2.1 1 = .ok (.iconst 3, 1) := by decide +kernel
theorem dM_behind_2 : decode YM_behind.2.1 2 = .ok (.iload_n 1, 1) := by decide +kernel
theorem dM_behind_3 : decode YM_behind.2.1 3 = .ok (.iadd, 1) := by decide +kernel
theorem dM_behind_4 : decode YM_behind.2.1 4 = .ok (.invokevirtual 255, 3) := by decide +kernel
theorem dM_behind_7 : decode YM_behind.2.1 7 = .ok (.istore_n 3, 1) := by decide +kernel
theorem dM_behind_8 : decode YM_behind.2.1 8 = .ok (.iconst (-1), 1) := by decide +kernel
theorem dM_behind_9 : decode YM_behind.2.1 9 = .ok (.istore 4, 2) := by decide +kernel
theorem dM_behind_11 : decode YM_behind.2.1 11 = .ok (.aload_n 0, 1) := by decide +kernel
theorem dM_behind_12 : decode YM_behind.2.1 12 = .ok (.iload_n 3, 1) := by decide +kernel
theorem dM_behind_13 : decode YM_behind.2.1 13 = .ok (.putfield 385, 3) := by decide +kernel
theorem dM_behind_16 : decode YM_behind.2.1 16 = .ok (.iconst 0, 1) := by decide +kernel
theorem dM_behind_17 : decode YM_behind.2.1 17 = .ok (.istore 5, 2) := by decide +kernel
theorem dM_behind_19 : decode YM_behind.2.1 19 = .ok (.iload 5, 2) := by decide +kernel
theorem dM_behind_21 : decode YM_behind.2.1 21 = .ok (.aload_n 0, 1) := by decide +kernel
theorem dM_behind_22 : decode YM_behind.2.1 22 = .ok (.getfield 262, 3) := by decide +kernel
theorem dM_behind_25 : decode YM_behind.2.1 25 = .ok (.if_icmp .ge 49, 3) := by decide +kernel
theorem dM_behind_28 : decode YM_behind.2.1 28 = .ok (.iload_n 2, 1) := by decide +kernel
theorem dM_behind_29 : decode YM_behind.2.1 29 = .ok (.iload 5, 2) := by decide +kernel
theorem dM_behind_31 : decode YM_behind.2.1 31 = .ok (.invokestatic 94, 3) := by decide +kernel
theorem dM_behind_34 : decode YM_behind.2.1 34 = .ok (.ifCond .eq 34, 3) := by decide +kernel
theorem dM_behind_37 : decode YM_behind.2.1 37 = .ok (.iload_n 3, 1) := by decide +kernel
theorem dM_behind_38 : decode YM_behind.2.1 38 = .ok (.aload_n 0, 1) := by decide +kernel
theorem dM_behind_39 : decode YM_behind.2.1 39 = .ok (.iload 5, 2) := by decide +kernel
theorem dM_behind_41 : decode YM_behind.2.1 41 = .ok (.iload 4, 2) := by decide +kernel
theorem dM_behind_43 : decode YM_behind.2.1 43 = .ok (.invokevirtual 283, 3) := by decide +kernel
theorem dM_behind_46 : decode YM_behind.2.1 46 = .ok (.iadd, 1) := by decide +kernel
theorem dM_behind_47 : decode YM_behind.2.1 47 = .ok (.istore_n 3, 1) := by decide +kernel
theorem dM_behind_48 : decode YM_behind.2.1 48 = .ok (.aload_n 0, 1) := by decide +kernel
theorem dM_behind_49 : decode YM_behind.2.1 49 = .ok (.iload 5, 2) := by decide +kernel
theorem dM_behind_51 : decode YM_behind.2.1 51 = .ok (.invokevirtual 271, 3) := by decide +kernel
theorem dM_behind_54 : decode YM_behind.2.1 54 = .ok (.istore 4, 2) := by decide +kernel
theorem dM_behind_56 : decode YM_behind.2.1 56 = .ok (.aload_n 0, 1) := by decide +kernel
theorem dM_behind_57 : decode YM_behind.2.1 57 = .ok (.aload_n 0, 1) := by decide +kernel
theorem dM_behind_58 : decode YM_behind.2.1 58 = .ok (.getfield 385, 3) := by decide +kernel
theorem dM_behind_61 : decode YM_behind.2.1 61 = .ok (.iload_n 3, 1) := by decide +kernel
theorem dM_behind_62 : decode YM_behind.2.1 62 = .ok (.invokestatic 355, 3) := by decide +kernel
theorem dM_behind_65 : decode YM_behind.2.1 65 = .ok (.putfield 385, 3) := by decide +kernel
theorem dM_behind_68 : decode YM_behind.2.1 68 = .ok (.iinc 5 1, 3) := by decide +kernel
theorem dM_behind_71 : decode YM_behind.2.1 71 = .ok (.goto (-52), 3) := by decide +kernel
theorem dM_behind_74 : decode YM_behind.2.1 74 = .ok (.iload_n 3, 1) := by decide +kernel
theorem dM_behind_75 : decode YM_behind.2.1 75 = .ok (.ireturn, 1) := by decide +kernel
theorem dM_power_0 : decode YM_power.2.1 0 = .ok (.lconst 1, 1) := by decide +kernel
theorem dM_power_1 : decode YM_power.2.1 1 = .ok (.lstore_n 3, 1) := by decide +kernel
theorem dM_power_2 : decode YM_power.2.1 2 = .ok (.iconst 0, 1) := by decide +kernel
theorem dM_power_3 : decode YM_power.2.1 3 = .ok (.istore 5, 2) := by decide +kernel
theorem dM_power_5 : decode YM_power.2.1 5 = .ok (.iload 5, 2) := by decide +kernel
theorem dM_power_7 : decode YM_power.2.1 7 = .ok (.iload_n 2, 1) := by decide +kernel
theorem dM_power_8 : decode YM_power.2.1 8 = .ok (.if_icmp .ge 13, 3) := by decide +kernel
theorem dM_power_11 : decode YM_power.2.1 11 = .ok (.lload_n 3, 1) := by decide +kernel
theorem dM_power_12 : decode YM_power.2.1 12 = .ok (.lload_n 0, 1) := by decide +kernel
theorem dM_power_13 : decode YM_power.2.1 13 = .ok (.lmul, 1) := by decide +kernel
theorem dM_power_14 : decode YM_power.2.1 14 = .ok (.lstore_n 3, 1) := by decide +kernel
theorem dM_power_15 : decode YM_power.2.1 15 = .ok (.iinc 5 1, 3) := by decide +kernel
theorem dM_power_18 : decode YM_power.2.1 18 = .ok (.goto (-13), 3) := by decide +kernel
theorem dM_power_21 : decode YM_power.2.1 21 = .ok (.lload_n 3, 1) := by decide +kernel
theorem dM_power_22 : decode YM_power.2.1 22 = .ok (.lreturn, 1) := by decide +kernel
theorem dM_spared_0 : decode YM_spared.2.1 0 = .ok (.aload_n 0, 1) := by decide +kernel
theorem dM_spared_1 : decode YM_spared.2.1 1 = .ok (.iconst 0, 1) := by decide +kernel
theorem dM_spared_2 : decode YM_spared.2.1 2 = .ok (.putfield 90, 3) := by decide +kernel
theorem dM_spared_5 : decode YM_spared.2.1 5 = .ok (.iload_n 3, 1) := by decide +kernel
theorem dM_spared_6 : decode YM_spared.2.1 6 = .ok (.iconst 0, 1) := by decide +kernel
theorem dM_spared_7 : decode YM_spared.2.1 7 = .ok (.bipush 10, 2) := by decide +kernel
theorem dM_spared_9 : decode YM_spared.2.1 9 = .ok (.invokestatic 102, 3) := by decide +kernel
theorem dM_spared_12 : decode YM_spared.2.1 12 = .ok (.ifCond .eq 30, 3) := by decide +kernel
theorem dM_spared_15 : decode YM_spared.2.1 15 = .ok (.iload 4, 2) := by decide +kernel
theorem dM_spared_17 : decode YM_spared.2.1 17 = .ok (.iconst 0, 1) := by decide +kernel
theorem dM_spared_18 : decode YM_spared.2.1 18 = .ok (.bipush 99, 2) := by decide +kernel
theorem dM_spared_20 : decode YM_spared.2.1 20 = .ok (.invokestatic 102, 3) := by decide +kernel
theorem dM_spared_23 : decode YM_spared.2.1 23 = .ok (.ifCond .eq 19, 3) := by decide +kernel
theorem dM_spared_26 : decode YM_spared.2.1 26 = .ok (.aload_n 0, 1) := by decide +kernel
theorem dM_spared_27 : decode YM_spared.2.1 27 = .ok (.iload_n 1, 1) := by decide +kernel
theorem dM_spared_28 : decode YM_spared.2.1 28 = .ok (.invokevirtual 277, 3) := by decide +kernel
theorem dM_spared_31 : decode YM_spared.2.1 31 = .ok (.ifCond .eq 11, 3) := by decide +kernel
theorem dM_spared_34 : decode YM_spared.2.1 34 = .ok (.aload_n 0, 1) := by decide +kernel
theorem dM_spared_35 : decode YM_spared.2.1 35 = .ok (.iload_n 2, 1) := by decide +kernel
theorem dM_spared_36 : decode YM_spared.2.1 36 = .ok (.invokevirtual 322, 3) := by decide +kernel
theorem dM_spared_39 : decode YM_spared.2.1 39 = .ok (.ifCond .ne 7, 3) := by decide +kernel
theorem dM_spared_42 : decode YM_spared.2.1 42 = .ok (.ldc2_w 388, 3) := by decide +kernel
theorem dM_spared_45 : decode YM_spared.2.1 45 = .ok (.lreturn, 1) := by decide +kernel
theorem dM_spared_46 : decode YM_spared.2.1 46 = .ok (.aload_n 0, 1) := by decide +kernel
theorem dM_spared_47 : decode YM_spared.2.1 47 = .ok (.iload_n 2, 1) := by decide +kernel
theorem dM_spared_48 : decode YM_spared.2.1 48 = .ok (.invokevirtual 362, 3) := by decide +kernel
theorem dM_spared_51 : decode YM_spared.2.1 51 = .ok (.istore 6, 2) := by decide +kernel
theorem dM_spared_53 : decode YM_spared.2.1 53 = .ok (.iload 6, 2) := by decide +kernel
theorem dM_spared_55 : decode YM_spared.2.1 55 = .ok (.invokestatic 369, 3) := by decide +kernel
theorem dM_spared_58 : decode YM_spared.2.1 58 = .ok (.istore 7, 2) := by decide +kernel
theorem dM_spared_60 : decode YM_spared.2.1 60 = .ok (.lconst 0, 1) := by decide +kernel
theorem dM_spared_61 : decode YM_spared.2.1 61 = .ok (.lstore 8, 2) := by decide +kernel
theorem dM_spared_63 : decode YM_spared.2.1 63 = .ok (.iconst 0, 1) := by decide +kernel
theorem dM_spared_64 : decode YM_spared.2.1 64 = .ok (.istore 10, 2) := by decide +kernel
theorem dM_spared_66 : decode YM_spared.2.1 66 = .ok (.iload 10, 2) := by decide +kernel
theorem dM_spared_68 : decode YM_spared.2.1 68 = .ok (.sipush 1024, 3) := by decide +kernel
theorem dM_spared_71 : decode YM_spared.2.1 71 = .ok (.if_icmp .ge 64, 3) := by decide +kernel
theorem dM_spared_74 : decode YM_spared.2.1 74 = .ok (.iload 10, 2) := by decide +kernel
theorem dM_spared_76 : decode YM_spared.2.1 76 = .ok (.iload 6, 2) := by decide +kernel
theorem dM_spared_78 : decode YM_spared.2.1 78 = .ok (.iconst (-1), 1) := by decide +kernel
theorem dM_spared_79 : decode YM_spared.2.1 79 = .ok (.ixor, 1) := by decide +kernel
theorem dM_spared_80 : decode YM_spared.2.1 80 = .ok (.iand, 1) := by decide +kernel
theorem dM_spared_81 : decode YM_spared.2.1 81 = .ok (.ifCond .ne 48, 3) := by decide +kernel
theorem dM_spared_84 : decode YM_spared.2.1 84 = .ok (.aload_n 0, 1) := by decide +kernel
theorem dM_spared_85 : decode YM_spared.2.1 85 = .ok (.iload_n 2, 1) := by decide +kernel
theorem dM_spared_86 : decode YM_spared.2.1 86 = .ok (.iload 10, 2) := by decide +kernel
theorem dM_spared_88 : decode YM_spared.2.1 88 = .ok (.invokevirtual 390, 3) := by decide +kernel
theorem dM_spared_91 : decode YM_spared.2.1 91 = .ok (.iload 4, 2) := by decide +kernel
theorem dM_spared_93 : decode YM_spared.2.1 93 = .ok (.if_icmp .lt 36, 3) := by decide +kernel
theorem dM_spared_96 : decode YM_spared.2.1 96 = .ok (.lload 8, 2) := by decide +kernel
theorem dM_spared_98 : decode YM_spared.2.1 98 = .ok (.ldc2_w 393, 3) := by decide +kernel
theorem dM_spared_101 : decode YM_spared.2.1 101 = .ok (.iload_n 3, 1) := by decide +kernel
theorem dM_spared_102 : decode YM_spared.2.1 102 = .ok (.i2l, 1) := by decide +kernel
theorem dM_spared_103 : decode YM_spared.2.1 103 = .ok (.lsub, 1) := by decide +kernel
theorem dM_spared_104 : decode YM_spared.2.1 104 = .ok (.iload 10, 2) := by decide +kernel
theorem dM_spared_106 : decode YM_spared.2.1 106 = .ok (.invokestatic 369, 3) := by decide +kernel
theorem dM_spared_109 : decode YM_spared.2.1 109 = .ok (.invokestatic 395, 3) := by decide +kernel
theorem dM_spared_112 : decode YM_spared.2.1 112 = .ok (.iload_n 3, 1) := by decide +kernel
theorem dM_spared_113 : decode YM_spared.2.1 113 = .ok (.i2l, 1) := by decide +kernel
theorem dM_spared_114 : decode YM_spared.2.1 114 = .ok (.iload 7, 2) := by decide +kernel
theorem dM_spared_116 : decode YM_spared.2.1 116 = .ok (.iload 10, 2) := by decide +kernel
theorem dM_spared_118 : decode YM_spared.2.1 118 = .ok (.invokestatic 369, 3) := by decide +kernel
theorem dM_spared_121 : decode YM_spared.2.1 121 = .ok (.isub, 1) := by decide +kernel
theorem dM_spared_122 : decode YM_spared.2.1 122 = .ok (.invokestatic 395, 3) := by decide +kernel
theorem dM_spared_125 : decode YM_spared.2.1 125 = .ok (.lmul, 1) := by decide +kernel
theorem dM_spared_126 : decode YM_spared.2.1 126 = .ok (.ladd, 1) := by decide +kernel
theorem dM_spared_127 : decode YM_spared.2.1 127 = .ok (.lstore 8, 2) := by decide +kernel
theorem dM_spared_129 : decode YM_spared.2.1 129 = .ok (.iinc 10 1, 3) := by decide +kernel
theorem dM_spared_132 : decode YM_spared.2.1 132 = .ok (.goto (-66), 3) := by decide +kernel
theorem dM_spared_135 : decode YM_spared.2.1 135 = .ok (.lload 8, 2) := by decide +kernel
theorem dM_spared_137 : decode YM_spared.2.1 137 = .ok (.ldc2_w 393, 3) := by decide +kernel
theorem dM_spared_140 : decode YM_spared.2.1 140 = .ok (.iload 7, 2) := by decide +kernel
theorem dM_spared_142 : decode YM_spared.2.1 142 = .ok (.invokestatic 395, 3) := by decide +kernel
theorem dM_spared_145 : decode YM_spared.2.1 145 = .ok (.iload 5, 2) := by decide +kernel
theorem dM_spared_147 : decode YM_spared.2.1 147 = .ok (.invokestatic 381, 3) := by decide +kernel
theorem dM_spared_150 : decode YM_spared.2.1 150 = .ok (.lreturn, 1) := by decide +kernel
theorem dM_rackOf_0 : decode YM_rackOf.2.1 0 = .ok (.iload_n 0, 1) := by decide +kernel
theorem dM_rackOf_1 : decode YM_rackOf.2.1 1 = .ok (.iconst 2, 1) := by decide +kernel
theorem dM_rackOf_2 : decode YM_rackOf.2.1 2 = .ok (.iload_n 1, 1) := by decide +kernel
theorem dM_rackOf_3 : decode YM_rackOf.2.1 3 = .ok (.imul, 1) := by decide +kernel
theorem dM_rackOf_4 : decode YM_rackOf.2.1 4 = .ok (.ishr, 1) := by decide +kernel
theorem dM_rackOf_5 : decode YM_rackOf.2.1 5 = .ok (.iconst 3, 1) := by decide +kernel
theorem dM_rackOf_6 : decode YM_rackOf.2.1 6 = .ok (.iand, 1) := by decide +kernel
theorem dM_rackOf_7 : decode YM_rackOf.2.1 7 = .ok (.ireturn, 1) := by decide +kernel
theorem dM_round_0 : decode YM_round.2.1 0 = .ok (.iconst 0, 1) := by decide +kernel
theorem dM_round_1 : decode YM_round.2.1 1 = .ok (.istore_n 3, 1) := by decide +kernel
theorem dM_round_2 : decode YM_round.2.1 2 = .ok (.iconst 0, 1) := by decide +kernel
theorem dM_round_3 : decode YM_round.2.1 3 = .ok (.istore 4, 2) := by decide +kernel
theorem dM_round_5 : decode YM_round.2.1 5 = .ok (.iload 4, 2) := by decide +kernel
theorem dM_round_7 : decode YM_round.2.1 7 = .ok (.aload_n 0, 1) := by decide +kernel
theorem dM_round_8 : decode YM_round.2.1 8 = .ok (.getfield 262, 3) := by decide +kernel
theorem dM_round_11 : decode YM_round.2.1 11 = .ok (.if_icmp .ge 78, 3) := by decide +kernel
theorem dM_round_14 : decode YM_round.2.1 14 = .ok (.iload_n 2, 1) := by decide +kernel
theorem dM_round_15 : decode YM_round.2.1 15 = .ok (.iload 4, 2) := by decide +kernel
theorem dM_round_17 : decode YM_round.2.1 17 = .ok (.invokestatic 94, 3) := by decide +kernel
theorem dM_round_20 : decode YM_round.2.1 20 = .ok (.ifCond .eq 7, 3) := by decide +kernel
theorem dM_round_23 : decode YM_round.2.1 23 = .ok (.iconst (-1), 1) := by decide +kernel
theorem dM_round_24 : decode YM_round.2.1 24 = .ok (.goto 12, 3) := by decide +kernel
theorem dM_round_27 : decode YM_round.2.1 27 = .ok (.aload_n 0, 1) := by decide +kernel
theorem dM_round_28 : decode YM_round.2.1 28 = .ok (.bipush 39, 2) := by decide +kernel
theorem dM_round_30 : decode YM_round.2.1 30 = .ok (.iload 4, 2) := by decide +kernel
theorem dM_round_32 : decode YM_round.2.1 32 = .ok (.iadd, 1) := by decide +kernel
theorem dM_round_33 : decode YM_round.2.1 33 = .ok (.invokevirtual 255, 3) := by decide +kernel
theorem dM_round_36 : decode YM_round.2.1 36 = .ok (.istore 5, 2) := by decide +kernel
theorem dM_round_38 : decode YM_round.2.1 38 = .ok (.iload 5, 2) := by decide +kernel
theorem dM_round_40 : decode YM_round.2.1 40 = .ok (.iconst (-1), 1) := by decide +kernel
theorem dM_round_41 : decode YM_round.2.1 41 = .ok (.if_icmp .ne 12, 3) := by decide +kernel
theorem dM_round_44 : decode YM_round.2.1 44 = .ok (.iload_n 1, 1) := by decide +kernel
theorem dM_round_45 : decode YM_round.2.1 45 = .ok (.iload 4, 2) := by decide +kernel
theorem dM_round_47 : decode YM_round.2.1 47 = .ok (.invokestatic 399, 3) := by decide +kernel
theorem dM_round_50 : decode YM_round.2.1 50 = .ok (.goto 21, 3) := by decide +kernel
theorem dM_round_53 : decode YM_round.2.1 53 = .ok (.iload_n 1, 1) := by decide +kernel
theorem dM_round_54 : decode YM_round.2.1 54 = .ok (.iload 5, 2) := by decide +kernel
theorem dM_round_56 : decode YM_round.2.1 56 = .ok (.invokestatic 399, 3) := by decide +kernel
theorem dM_round_59 : decode YM_round.2.1 59 = .ok (.aload_n 0, 1) := by decide +kernel
theorem dM_round_60 : decode YM_round.2.1 60 = .ok (.bipush 49, 2) := by decide +kernel
theorem dM_round_62 : decode YM_round.2.1 62 = .ok (.iload 4, 2) := by decide +kernel
theorem dM_round_64 : decode YM_round.2.1 64 = .ok (.iadd, 1) := by decide +kernel
theorem dM_round_65 : decode YM_round.2.1 65 = .ok (.invokevirtual 255, 3) := by decide +kernel
theorem dM_round_68 : decode YM_round.2.1 68 = .ok (.iadd, 1) := by decide +kernel
theorem dM_round_69 : decode YM_round.2.1 69 = .ok (.iconst 3, 1) := by decide +kernel
theorem dM_round_70 : decode YM_round.2.1 70 = .ok (.iand, 1) := by decide +kernel
theorem dM_round_71 : decode YM_round.2.1 71 = .ok (.istore 6, 2) := by decide +kernel
theorem dM_round_73 : decode YM_round.2.1 73 = .ok (.iload_n 3, 1) := by decide +kernel
theorem dM_round_74 : decode YM_round.2.1 74 = .ok (.iload 6, 2) := by decide +kernel
theorem dM_round_76 : decode YM_round.2.1 76 = .ok (.iconst 2, 1) := by decide +kernel
theorem dM_round_77 : decode YM_round.2.1 77 = .ok (.iload 4, 2) := by decide +kernel
theorem dM_round_79 : decode YM_round.2.1 79 = .ok (.imul, 1) := by decide +kernel
theorem dM_round_80 : decode YM_round.2.1 80 = .ok (.ishl, 1) := by decide +kernel
theorem dM_round_81 : decode YM_round.2.1 81 = .ok (.ior, 1) := by decide +kernel
theorem dM_round_82 : decode YM_round.2.1 82 = .ok (.istore_n 3, 1) := by decide +kernel
theorem dM_round_83 : decode YM_round.2.1 83 = .ok (.iinc 4 1, 3) := by decide +kernel
theorem dM_round_86 : decode YM_round.2.1 86 = .ok (.goto (-81), 3) := by decide +kernel
theorem dM_round_89 : decode YM_round.2.1 89 = .ok (.iload_n 3, 1) := by decide +kernel
theorem dM_round_90 : decode YM_round.2.1 90 = .ok (.ireturn, 1) := by decide +kernel
theorem dM_rounds_0 : decode YM_rounds.2.1 0 = .ok (.iconst 0, 1) := by decide +kernel
theorem dM_rounds_1 : decode YM_rounds.2.1 1 = .ok (.istore_n 3, 1) := by decide +kernel
theorem dM_rounds_2 : decode YM_rounds.2.1 2 = .ok (.iconst 0, 1) := by decide +kernel
theorem dM_rounds_3 : decode YM_rounds.2.1 3 = .ok (.istore 4, 2) := by decide +kernel
theorem dM_rounds_5 : decode YM_rounds.2.1 5 = .ok (.iload 4, 2) := by decide +kernel
theorem dM_rounds_7 : decode YM_rounds.2.1 7 = .ok (.aload_n 0, 1) := by decide +kernel
theorem dM_rounds_8 : decode YM_rounds.2.1 8 = .ok (.getfield 262, 3) := by decide +kernel
theorem dM_rounds_11 : decode YM_rounds.2.1 11 = .ok (.if_icmp .ge 23, 3) := by decide +kernel
theorem dM_rounds_14 : decode YM_rounds.2.1 14 = .ok (.iload_n 3, 1) := by decide +kernel
theorem dM_rounds_15 : decode YM_rounds.2.1 15 = .ok (.aload_n 0, 1) := by decide +kernel
theorem dM_rounds_16 : decode YM_rounds.2.1 16 = .ok (.iload 4, 2) := by decide +kernel
theorem dM_rounds_18 : decode YM_rounds.2.1 18 = .ok (.invokevirtual 271, 3) := by decide +kernel
theorem dM_rounds_21 : decode YM_rounds.2.1 21 = .ok (.iconst 2, 1) := by decide +kernel
theorem dM_rounds_22 : decode YM_rounds.2.1 22 = .ok (.iload 4, 2) := by decide +kernel
theorem dM_rounds_24 : decode YM_rounds.2.1 24 = .ok (.imul, 1) := by decide +kernel
theorem dM_rounds_25 : decode YM_rounds.2.1 25 = .ok (.ishl, 1) := by decide +kernel
theorem dM_rounds_26 : decode YM_rounds.2.1 26 = .ok (.ior, 1) := by decide +kernel
theorem dM_rounds_27 : decode YM_rounds.2.1 27 = .ok (.istore_n 3, 1) := by decide +kernel
theorem dM_rounds_28 : decode YM_rounds.2.1 28 = .ok (.iinc 4 1, 3) := by decide +kernel
theorem dM_rounds_31 : decode YM_rounds.2.1 31 = .ok (.goto (-26), 3) := by decide +kernel
theorem dM_rounds_34 : decode YM_rounds.2.1 34 = .ok (.iconst 0, 1) := by decide +kernel
theorem dM_rounds_35 : decode YM_rounds.2.1 35 = .ok (.istore 4, 2) := by decide +kernel
theorem dM_rounds_37 : decode YM_rounds.2.1 37 = .ok (.iload 4, 2) := by decide +kernel
theorem dM_rounds_39 : decode YM_rounds.2.1 39 = .ok (.iload_n 1, 1) := by decide +kernel
theorem dM_rounds_40 : decode YM_rounds.2.1 40 = .ok (.if_icmp .ge 16, 3) := by decide +kernel
theorem dM_rounds_43 : decode YM_rounds.2.1 43 = .ok (.aload_n 0, 1) := by decide +kernel
theorem dM_rounds_44 : decode YM_rounds.2.1 44 = .ok (.iload_n 3, 1) := by decide +kernel
theorem dM_rounds_45 : decode YM_rounds.2.1 45 = .ok (.iload_n 2, 1) := by decide +kernel
theorem dM_rounds_46 : decode YM_rounds.2.1 46 = .ok (.invokevirtual 402, 3) := by decide +kernel
theorem dM_rounds_49 : decode YM_rounds.2.1 49 = .ok (.istore_n 3, 1) := by decide +kernel
theorem dM_rounds_50 : decode YM_rounds.2.1 50 = .ok (.iinc 4 1, 3) := by decide +kernel
theorem dM_rounds_53 : decode YM_rounds.2.1 53 = .ok (.goto (-16), 3) := by decide +kernel
theorem dM_rounds_56 : decode YM_rounds.2.1 56 = .ok (.iload_n 3, 1) := by decide +kernel
theorem dM_rounds_57 : decode YM_rounds.2.1 57 = .ok (.ireturn, 1) := by decide +kernel
theorem dM_rack_0 : decode YM_rack.2.1 0 = .ok (.aload_n 0, 1) := by decide +kernel
theorem dM_rack_1 : decode YM_rack.2.1 1 = .ok (.iconst 0, 1) := by decide +kernel
theorem dM_rack_2 : decode YM_rack.2.1 2 = .ok (.putfield 90, 3) := by decide +kernel
theorem dM_rack_5 : decode YM_rack.2.1 5 = .ok (.aload_n 0, 1) := by decide +kernel
theorem dM_rack_6 : decode YM_rack.2.1 6 = .ok (.iload_n 1, 1) := by decide +kernel
theorem dM_rack_7 : decode YM_rack.2.1 7 = .ok (.invokevirtual 277, 3) := by decide +kernel
theorem dM_rack_10 : decode YM_rack.2.1 10 = .ok (.ifCond .eq 35, 3) := by decide +kernel
theorem dM_rack_13 : decode YM_rack.2.1 13 = .ok (.aload_n 0, 1) := by decide +kernel
theorem dM_rack_14 : decode YM_rack.2.1 14 = .ok (.iload_n 2, 1) := by decide +kernel
theorem dM_rack_15 : decode YM_rack.2.1 15 = .ok (.invokevirtual 280, 3) := by decide +kernel
theorem dM_rack_18 : decode YM_rack.2.1 18 = .ok (.ifCond .eq 27, 3) := by decide +kernel
theorem dM_rack_21 : decode YM_rack.2.1 21 = .ok (.iload_n 3, 1) := by decide +kernel
theorem dM_rack_22 : decode YM_rack.2.1 22 = .ok (.iconst 0, 1) := by decide +kernel
theorem dM_rack_23 : decode YM_rack.2.1 23 = .ok (.sipush 999, 3) := by decide +kernel
theorem dM_rack_26 : decode YM_rack.2.1 26 = .ok (.invokestatic 102, 3) := by decide +kernel
theorem dM_rack_29 : decode YM_rack.2.1 29 = .ok (.ifCond .eq 16, 3) := by decide +kernel
theorem dM_rack_32 : decode YM_rack.2.1 32 = .ok (.aload_n 0, 1) := by decide +kernel
theorem dM_rack_33 : decode YM_rack.2.1 33 = .ok (.iload_n 3, 1) := by decide +kernel
theorem dM_rack_34 : decode YM_rack.2.1 34 = .ok (.iconst 0, 1) := by decide +kernel
theorem dM_rack_35 : decode YM_rack.2.1 35 = .ok (.invokevirtual 405, 3) := by decide +kernel
theorem dM_rack_38 : decode YM_rack.2.1 38 = .ok (.iload_n 2, 1) := by decide +kernel
theorem dM_rack_39 : decode YM_rack.2.1 39 = .ok (.invokestatic 399, 3) := by decide +kernel
theorem dM_rack_42 : decode YM_rack.2.1 42 = .ok (.goto 4, 3) := by decide +kernel
theorem dM_rack_45 : decode YM_rack.2.1 45 = .ok (.iconst (-1), 1) := by decide +kernel
theorem dM_rack_46 : decode YM_rack.2.1 46 = .ok (.ireturn, 1) := by decide +kernel
theorem dM_settles_0 : decode YM_settles.2.1 0 = .ok (.aload_n 0, 1) := by decide +kernel
theorem dM_settles_1 : decode YM_settles.2.1 1 = .ok (.iconst 0, 1) := by decide +kernel
theorem dM_settles_2 : decode YM_settles.2.1 2 = .ok (.iconst 0, 1) := by decide +kernel
theorem dM_settles_3 : decode YM_settles.2.1 3 = .ok (.invokevirtual 405, 3) := by decide +kernel
theorem dM_settles_6 : decode YM_settles.2.1 6 = .ok (.istore_n 1, 1) := by decide +kernel
theorem dM_settles_7 : decode YM_settles.2.1 7 = .ok (.iconst 0, 1) := by decide +kernel
theorem dM_settles_8 : decode YM_settles.2.1 8 = .ok (.istore_n 2, 1) := by decide +kernel
theorem dM_settles_9 : decode YM_settles.2.1 9 = .ok (.iload_n 2, 1) := by decide +kernel
theorem dM_settles_10 : decode YM_settles.2.1 10 = .ok (.bipush 10, 2) := by decide +kernel
theorem dM_settles_12 : decode YM_settles.2.1 12 = .ok (.if_icmp .gt 25, 3) := by decide +kernel
theorem dM_settles_15 : decode YM_settles.2.1 15 = .ok (.aload_n 0, 1) := by decide +kernel
theorem dM_settles_16 : decode YM_settles.2.1 16 = .ok (.iload_n 1, 1) := by decide +kernel
theorem dM_settles_17 : decode YM_settles.2.1 17 = .ok (.iconst 0, 1) := by decide +kernel
theorem dM_settles_18 : decode YM_settles.2.1 18 = .ok (.invokevirtual 402, 3) := by decide +kernel
theorem dM_settles_21 : decode YM_settles.2.1 21 = .ok (.istore_n 3, 1) := by decide +kernel
theorem dM_settles_22 : decode YM_settles.2.1 22 = .ok (.iload_n 3, 1) := by decide +kernel
theorem dM_settles_23 : decode YM_settles.2.1 23 = .ok (.iload_n 1, 1) := by decide +kernel
theorem dM_settles_24 : decode YM_settles.2.1 24 = .ok (.if_icmp .ne 5, 3) := by decide +kernel
theorem dM_settles_27 : decode YM_settles.2.1 27 = .ok (.iload_n 2, 1) := by decide +kernel
theorem dM_settles_28 : decode YM_settles.2.1 28 = .ok (.ireturn, 1) := by decide +kernel
theorem dM_settles_29 : decode YM_settles.2.1 29 = .ok (.iload_n 3, 1) := by decide +kernel
theorem dM_settles_30 : decode YM_settles.2.1 30 = .ok (.istore_n 1, 1) := by decide +kernel
theorem dM_settles_31 : decode YM_settles.2.1 31 = .ok (.iinc 2 1, 3) := by decide +kernel
theorem dM_settles_34 : decode YM_settles.2.1 34 = .ok (.goto (-25), 3) := by decide +kernel
theorem dM_settles_37 : decode YM_settles.2.1 37 = .ok (.iconst (-1), 1) := by decide +kernel
theorem dM_settles_38 : decode YM_settles.2.1 38 = .ok (.ireturn, 1) := by decide +kernel
theorem dM_period_0 : decode YM_period.2.1 0 = .ok (.aload_n 0, 1) := by decide +kernel
theorem dM_period_1 : decode YM_period.2.1 1 = .ok (.bipush 20, 2) := by decide +kernel
theorem dM_period_3 : decode YM_period.2.1 3 = .ok (.iconst 0, 1) := by decide +kernel
theorem dM_period_4 : decode YM_period.2.1 4 = .ok (.invokevirtual 405, 3) := by decide +kernel
theorem dM_period_7 : decode YM_period.2.1 7 = .ok (.istore_n 1, 1) := by decide +kernel
theorem dM_period_8 : decode YM_period.2.1 8 = .ok (.aload_n 0, 1) := by decide +kernel
theorem dM_period_9 : decode YM_period.2.1 9 = .ok (.iload_n 1, 1) := by decide +kernel
theorem dM_period_10 : decode YM_period.2.1 10 = .ok (.iconst 0, 1) := by decide +kernel
theorem dM_period_11 : decode YM_period.2.1 11 = .ok (.invokevirtual 402, 3) := by decide +kernel
theorem dM_period_14 : decode YM_period.2.1 14 = .ok (.istore_n 2, 1) := by decide +kernel
theorem dM_period_15 : decode YM_period.2.1 15 = .ok (.iconst 1, 1) := by decide +kernel
theorem dM_period_16 : decode YM_period.2.1 16 = .ok (.istore_n 3, 1) := by decide +kernel
theorem dM_period_17 : decode YM_period.2.1 17 = .ok (.aload_n 0, 1) := by decide +kernel
theorem dM_period_18 : decode YM_period.2.1 18 = .ok (.iconst 0, 1) := by decide +kernel
theorem dM_period_19 : decode YM_period.2.1 19 = .ok (.putfield 408, 3) := by decide +kernel
theorem dM_period_22 : decode YM_period.2.1 22 = .ok (.iload_n 2, 1) := by decide +kernel
theorem dM_period_23 : decode YM_period.2.1 23 = .ok (.iload_n 1, 1) := by decide +kernel
theorem dM_period_24 : decode YM_period.2.1 24 = .ok (.if_icmp .eq 66, 3) := by decide +kernel
theorem dM_period_27 : decode YM_period.2.1 27 = .ok (.iconst 0, 1) := by decide +kernel
theorem dM_period_28 : decode YM_period.2.1 28 = .ok (.istore 4, 2) := by decide +kernel
theorem dM_period_30 : decode YM_period.2.1 30 = .ok (.iload 4, 2) := by decide +kernel
theorem dM_period_32 : decode YM_period.2.1 32 = .ok (.aload_n 0, 1) := by decide +kernel
theorem dM_period_33 : decode YM_period.2.1 33 = .ok (.getfield 262, 3) := by decide +kernel
theorem dM_period_36 : decode YM_period.2.1 36 = .ok (.if_icmp .ge 41, 3) := by decide +kernel
theorem dM_period_39 : decode YM_period.2.1 39 = .ok (.aload_n 0, 1) := by decide +kernel
theorem dM_period_40 : decode YM_period.2.1 40 = .ok (.dup, 1) := by decide +kernel
theorem dM_period_41 : decode YM_period.2.1 41 = .ok (.getfield 408, 3) := by decide +kernel
theorem dM_period_44 : decode YM_period.2.1 44 = .ok (.iload_n 2, 1) := by decide +kernel
theorem dM_period_45 : decode YM_period.2.1 45 = .ok (.iload 4, 2) := by decide +kernel
theorem dM_period_47 : decode YM_period.2.1 47 = .ok (.invokestatic 399, 3) := by decide +kernel
theorem dM_period_50 : decode YM_period.2.1 50 = .ok (.iload_n 1, 1) := by decide +kernel
theorem dM_period_51 : decode YM_period.2.1 51 = .ok (.iload 4, 2) := by decide +kernel
theorem dM_period_53 : decode YM_period.2.1 53 = .ok (.invokestatic 399, 3) := by decide +kernel
theorem dM_period_56 : decode YM_period.2.1 56 = .ok (.if_icmp .eq 10, 3) := by decide +kernel
theorem dM_period_59 : decode YM_period.2.1 59 = .ok (.iconst 1, 1) := by decide +kernel
theorem dM_period_60 : decode YM_period.2.1 60 = .ok (.iload 4, 2) := by decide +kernel
theorem dM_period_62 : decode YM_period.2.1 62 = .ok (.ishl, 1) := by decide +kernel
theorem dM_period_63 : decode YM_period.2.1 63 = .ok (.goto 4, 3) := by decide +kernel
theorem dM_period_66 : decode YM_period.2.1 66 = .ok (.iconst 0, 1) := by decide +kernel
theorem dM_period_67 : decode YM_period.2.1 67 = .ok (.ior, 1) := by decide +kernel
theorem dM_period_68 : decode YM_period.2.1 68 = .ok (.putfield 408, 3) := by decide +kernel
theorem dM_period_71 : decode YM_period.2.1 71 = .ok (.iinc 4 1, 3) := by decide +kernel
theorem dM_period_74 : decode YM_period.2.1 74 = .ok (.goto (-44), 3) := by decide +kernel
theorem dM_period_77 : decode YM_period.2.1 77 = .ok (.aload_n 0, 1) := by decide +kernel
theorem dM_period_78 : decode YM_period.2.1 78 = .ok (.iload_n 2, 1) := by decide +kernel
theorem dM_period_79 : decode YM_period.2.1 79 = .ok (.iconst 0, 1) := by decide +kernel
theorem dM_period_80 : decode YM_period.2.1 80 = .ok (.invokevirtual 402, 3) := by decide +kernel
theorem dM_period_83 : decode YM_period.2.1 83 = .ok (.istore_n 2, 1) := by decide +kernel
theorem dM_period_84 : decode YM_period.2.1 84 = .ok (.iinc 3 1, 3) := by decide +kernel
theorem dM_period_87 : decode YM_period.2.1 87 = .ok (.goto (-65), 3) := by decide +kernel
theorem dM_period_90 : decode YM_period.2.1 90 = .ok (.iload_n 3, 1) := by decide +kernel
theorem dM_period_91 : decode YM_period.2.1 91 = .ok (.ireturn, 1) := by decide +kernel
theorem dM_settled_0 : decode YM_settled.2.1 0 = .ok (.aload_n 0, 1) := by decide +kernel
theorem dM_settled_1 : decode YM_settled.2.1 1 = .ok (.iconst 0, 1) := by decide +kernel
theorem dM_settled_2 : decode YM_settled.2.1 2 = .ok (.putfield 90, 3) := by decide +kernel
theorem dM_settled_5 : decode YM_settled.2.1 5 = .ok (.aload_n 0, 1) := by decide +kernel
theorem dM_settled_6 : decode YM_settled.2.1 6 = .ok (.iload_n 1, 1) := by decide +kernel
theorem dM_settled_7 : decode YM_settled.2.1 7 = .ok (.invokevirtual 277, 3) := by decide +kernel
theorem dM_settled_10 : decode YM_settled.2.1 10 = .ok (.ifCond .eq 12, 3) := by decide +kernel
theorem dM_settled_13 : decode YM_settled.2.1 13 = .ok (.iload_n 2, 1) := by decide +kernel
theorem dM_settled_14 : decode YM_settled.2.1 14 = .ok (.iconst 0, 1) := by decide +kernel
theorem dM_settled_15 : decode YM_settled.2.1 15 = .ok (.iconst 2, 1) := by decide +kernel
theorem dM_settled_16 : decode YM_settled.2.1 16 = .ok (.invokestatic 102, 3) := by decide +kernel
theorem dM_settled_19 : decode YM_settled.2.1 19 = .ok (.ifCond .ne 6, 3) := by decide +kernel
theorem dM_settled_22 : decode YM_settled.2.1 22 = .ok (.bipush (-2), 2) := by decide +kernel
theorem dM_settled_24 : decode YM_settled.2.1 24 = .ok (.ireturn, 1) := by decide +kernel
theorem dM_settled_25 : decode YM_settled.2.1 25 = .ok (.iload_n 2, 1) := by decide +kernel
theorem dM_settled_26 : decode YM_settled.2.1 26 = .ok (.ifCond .ne 8, 3) := by decide +kernel
theorem dM_settled_29 : decode YM_settled.2.1 29 = .ok (.aload_n 0, 1) := by decide +kernel
theorem dM_settled_30 : decode YM_settled.2.1 30 = .ok (.invokevirtual 411, 3) := by decide +kernel
theorem dM_settled_33 : decode YM_settled.2.1 33 = .ok (.ireturn, 1) := by decide +kernel
theorem dM_settled_34 : decode YM_settled.2.1 34 = .ok (.aload_n 0, 1) := by decide +kernel
theorem dM_settled_35 : decode YM_settled.2.1 35 = .ok (.invokevirtual 414, 3) := by decide +kernel
theorem dM_settled_38 : decode YM_settled.2.1 38 = .ok (.istore_n 3, 1) := by decide +kernel
theorem dM_settled_39 : decode YM_settled.2.1 39 = .ok (.iload_n 2, 1) := by decide +kernel
theorem dM_settled_40 : decode YM_settled.2.1 40 = .ok (.iconst 1, 1) := by decide +kernel
theorem dM_settled_41 : decode YM_settled.2.1 41 = .ok (.if_icmp .ne 7, 3) := by decide +kernel
theorem dM_settled_44 : decode YM_settled.2.1 44 = .ok (.iload_n 3, 1) := by decide +kernel
theorem dM_settled_45 : decode YM_settled.2.1 45 = .ok (.goto 7, 3) := by decide +kernel
theorem dM_settled_48 : decode YM_settled.2.1 48 = .ok (.aload_n 0, 1) := by decide +kernel
theorem dM_settled_49 : decode YM_settled.2.1 49 = .ok (.getfield 408, 3) := by decide +kernel
theorem dM_settled_52 : decode YM_settled.2.1 52 = .ok (.ireturn, 1) := by decide +kernel
theorem dM_isBag_0 : decode YM_isBag.2.1 0 = .ok (.iconst 0, 1) := by decide +kernel
theorem dM_isBag_1 : decode YM_isBag.2.1 1 = .ok (.istore 4, 2) := by decide +kernel
theorem dM_isBag_3 : decode YM_isBag.2.1 3 = .ok (.iload 4, 2) := by decide +kernel
theorem dM_isBag_5 : decode YM_isBag.2.1 5 = .ok (.aload_n 0, 1) := by decide +kernel
theorem dM_isBag_6 : decode YM_isBag.2.1 6 = .ok (.getfield 259, 3) := by decide +kernel
theorem dM_isBag_9 : decode YM_isBag.2.1 9 = .ok (.if_icmp .ge 77, 3) := by decide +kernel
theorem dM_isBag_12 : decode YM_isBag.2.1 12 = .ok (.iconst 0, 1) := by decide +kernel
theorem dM_isBag_13 : decode YM_isBag.2.1 13 = .ok (.istore 5, 2) := by decide +kernel
theorem dM_isBag_15 : decode YM_isBag.2.1 15 = .ok (.iconst 0, 1) := by decide +kernel
theorem dM_isBag_16 : decode YM_isBag.2.1 16 = .ok (.istore 6, 2) := by decide +kernel
theorem dM_isBag_18 : decode YM_isBag.2.1 18 = .ok (.iload 6, 2) := by decide +kernel
theorem dM_isBag_20 : decode YM_isBag.2.1 20 = .ok (.aload_n 0, 1) := by decide +kernel
theorem dM_isBag_21 : decode YM_isBag.2.1 21 = .ok (.getfield 262, 3) := by decide +kernel
theorem dM_isBag_24 : decode YM_isBag.2.1 24 = .ok (.if_icmp .ge 48, 3) := by decide +kernel
theorem dM_isBag_27 : decode YM_isBag.2.1 27 = .ok (.iload 5, 2) := by decide +kernel
theorem dM_isBag_29 : decode YM_isBag.2.1 29 = .ok (.iload_n 1, 1) := by decide +kernel
theorem dM_isBag_30 : decode YM_isBag.2.1 30 = .ok (.iload 6, 2) := by decide +kernel
theorem dM_isBag_32 : decode YM_isBag.2.1 32 = .ok (.invokestatic 94, 3) := by decide +kernel
theorem dM_isBag_35 : decode YM_isBag.2.1 35 = .ok (.ifCond .eq 27, 3) := by decide +kernel
theorem dM_isBag_38 : decode YM_isBag.2.1 38 = .ok (.aload_n 0, 1) := by decide +kernel
theorem dM_isBag_39 : decode YM_isBag.2.1 39 = .ok (.getfield 41, 3) := by decide +kernel
theorem dM_isBag_42 : decode YM_isBag.2.1 42 = .ok (.iload 6, 2) := by decide +kernel
theorem dM_isBag_44 : decode YM_isBag.2.1 44 = .ok (.iaload, 1) := by decide +kernel
theorem dM_isBag_45 : decode YM_isBag.2.1 45 = .ok (.iload 4, 2) := by decide +kernel
theorem dM_isBag_47 : decode YM_isBag.2.1 47 = .ok (.if_icmp .ne 15, 3) := by decide +kernel
theorem dM_isBag_50 : decode YM_isBag.2.1 50 = .ok (.aload_n 0, 1) := by decide +kernel
theorem dM_isBag_51 : decode YM_isBag.2.1 51 = .ok (.bipush 29, 2) := by decide +kernel
theorem dM_isBag_53 : decode YM_isBag.2.1 53 = .ok (.iload 6, 2) := by decide +kernel
theorem dM_isBag_55 : decode YM_isBag.2.1 55 = .ok (.iadd, 1) := by decide +kernel
theorem dM_isBag_56 : decode YM_isBag.2.1 56 = .ok (.invokevirtual 255, 3) := by decide +kernel
theorem dM_isBag_59 : decode YM_isBag.2.1 59 = .ok (.goto 4, 3) := by decide +kernel
theorem dM_isBag_62 : decode YM_isBag.2.1 62 = .ok (.iconst 0, 1) := by decide +kernel
theorem dM_isBag_63 : decode YM_isBag.2.1 63 = .ok (.iadd, 1) := by decide +kernel
theorem dM_isBag_64 : decode YM_isBag.2.1 64 = .ok (.istore 5, 2) := by decide +kernel
theorem dM_isBag_66 : decode YM_isBag.2.1 66 = .ok (.iinc 6 1, 3) := by decide +kernel
theorem dM_isBag_69 : decode YM_isBag.2.1 69 = .ok (.goto (-51), 3) := by decide +kernel
theorem dM_isBag_72 : decode YM_isBag.2.1 72 = .ok (.iload 5, 2) := by decide +kernel
theorem dM_isBag_74 : decode YM_isBag.2.1 74 = .ok (.iload_n 2, 1) := by decide +kernel
theorem dM_isBag_75 : decode YM_isBag.2.1 75 = .ok (.if_icmp .le 5, 3) := by decide +kernel
theorem dM_isBag_78 : decode YM_isBag.2.1 78 = .ok (.iconst 0, 1) := by decide +kernel
theorem dM_isBag_79 : decode YM_isBag.2.1 79 = .ok (.ireturn, 1) := by decide +kernel
theorem dM_isBag_80 : decode YM_isBag.2.1 80 = .ok (.iinc 4 1, 3) := by decide +kernel
theorem dM_isBag_83 : decode YM_isBag.2.1 83 = .ok (.goto (-80), 3) := by decide +kernel
theorem dM_isBag_86 : decode YM_isBag.2.1 86 = .ok (.iload_n 1, 1) := by decide +kernel
theorem dM_isBag_87 : decode YM_isBag.2.1 87 = .ok (.invokestatic 369, 3) := by decide +kernel
theorem dM_isBag_90 : decode YM_isBag.2.1 90 = .ok (.iload_n 3, 1) := by decide +kernel
theorem dM_isBag_91 : decode YM_isBag.2.1 91 = .ok (.if_icmp .gt 7, 3) := by decide +kernel
theorem dM_isBag_94 : decode YM_isBag.2.1 94 = .ok (.iconst 1, 1) := by decide +kernel
theorem dM_isBag_95 : decode YM_isBag.2.1 95 = .ok (.goto 4, 3) := by decide +kernel
theorem dM_isBag_98 : decode YM_isBag.2.1 98 = .ok (.iconst 0, 1) := by decide +kernel
theorem dM_isBag_99 : decode YM_isBag.2.1 99 = .ok (.ireturn, 1) := by decide +kernel
theorem dM_findDays_0 : decode YM_findDays.2.1 0 = .ok (.iconst 1, 1) := by decide +kernel
theorem dM_findDays_1 : decode YM_findDays.2.1 1 = .ok (.aload_n 0, 1) := by decide +kernel
theorem dM_findDays_2 : decode YM_findDays.2.1 2 = .ok (.getfield 262, 3) := by decide +kernel
theorem dM_findDays_5 : decode YM_findDays.2.1 5 = .ok (.ishl, 1) := by decide +kernel
theorem dM_findDays_6 : decode YM_findDays.2.1 6 = .ok (.iconst 1, 1) := by decide +kernel
theorem dM_findDays_7 : decode YM_findDays.2.1 7 = .ok (.isub, 1) := by decide +kernel
theorem dM_findDays_8 : decode YM_findDays.2.1 8 = .ok (.istore_n 3, 1) := by decide +kernel
theorem dM_findDays_9 : decode YM_findDays.2.1 9 = .ok (.iconst 0, 1) := by decide +kernel
theorem dM_findDays_10 : decode YM_findDays.2.1 10 = .ok (.istore 4, 2) := by decide +kernel
theorem dM_findDays_12 : decode YM_findDays.2.1 12 = .ok (.iload 4, 2) := by decide +kernel
theorem dM_findDays_14 : decode YM_findDays.2.1 14 = .ok (.iload_n 3, 1) := by decide +kernel
theorem dM_findDays_15 : decode YM_findDays.2.1 15 = .ok (.if_icmp .gt 115, 3) := by decide +kernel
theorem dM_findDays_18 : decode YM_findDays.2.1 18 = .ok (.aload_n 0, 1) := by decide +kernel
theorem dM_findDays_19 : decode YM_findDays.2.1 19 = .ok (.getfield 56, 3) := by decide +kernel
theorem dM_findDays_22 : decode YM_findDays.2.1 22 = .ok (.iload 4, 2) := by decide +kernel
theorem dM_findDays_24 : decode YM_findDays.2.1 24 = .ok (.aload_n 0, 1) := by decide +kernel
theorem dM_findDays_25 : decode YM_findDays.2.1 25 = .ok (.iload 4, 2) := by decide +kernel
theorem dM_findDays_27 : decode YM_findDays.2.1 27 = .ok (.iload_n 1, 1) := by decide +kernel
theorem dM_findDays_28 : decode YM_findDays.2.1 28 = .ok (.iload_n 2, 1) := by decide +kernel
theorem dM_findDays_29 : decode YM_findDays.2.1 29 = .ok (.invokevirtual 417, 3) := by decide +kernel
theorem dM_findDays_32 : decode YM_findDays.2.1 32 = .ok (.bastore, 1) := by decide +kernel
theorem dM_findDays_33 : decode YM_findDays.2.1 33 = .ok (.aload_n 0, 1) := by decide +kernel
theorem dM_findDays_34 : decode YM_findDays.2.1 34 = .ok (.getfield 60, 3) := by decide +kernel
theorem dM_findDays_37 : decode YM_findDays.2.1 37 = .ok (.iload 4, 2) := by decide +kernel
theorem dM_findDays_39 : decode YM_findDays.2.1 39 = .ok (.iload 4, 2) := by decide +kernel
theorem dM_findDays_41 : decode YM_findDays.2.1 41 = .ok (.ifCond .ne 7, 3) := by decide +kernel
theorem dM_findDays_44 : decode YM_findDays.2.1 44 = .ok (.iconst 0, 1) := by decide +kernel
theorem dM_findDays_45 : decode YM_findDays.2.1 45 = .ok (.goto 6, 3) := by decide +kernel
theorem dM_findDays_48 : decode YM_findDays.2.1 48 = .ok (.ldc_w 349, 3) := by decide +kernel
theorem dM_findDays_51 : decode YM_findDays.2.1 51 = .ok (.iastore, 1) := by decide +kernel
theorem dM_findDays_52 : decode YM_findDays.2.1 52 = .ok (.iload 4, 2) := by decide +kernel
theorem dM_findDays_54 : decode YM_findDays.2.1 54 = .ok (.istore 5, 2) := by decide +kernel
theorem dM_findDays_56 : decode YM_findDays.2.1 56 = .ok (.iload 5, 2) := by decide +kernel
theorem dM_findDays_58 : decode YM_findDays.2.1 58 = .ok (.ifCond .le 66, 3) := by decide +kernel
theorem dM_findDays_61 : decode YM_findDays.2.1 61 = .ok (.aload_n 0, 1) := by decide +kernel
theorem dM_findDays_62 : decode YM_findDays.2.1 62 = .ok (.getfield 60, 3) := by decide +kernel
theorem dM_findDays_65 : decode YM_findDays.2.1 65 = .ok (.iload 4, 2) := by decide +kernel
theorem dM_findDays_67 : decode YM_findDays.2.1 67 = .ok (.aload_n 0, 1) := by decide +kernel
theorem dM_findDays_68 : decode YM_findDays.2.1 68 = .ok (.getfield 56, 3) := by decide +kernel
theorem dM_findDays_71 : decode YM_findDays.2.1 71 = .ok (.iload 5, 2) := by decide +kernel
theorem dM_findDays_73 : decode YM_findDays.2.1 73 = .ok (.baload, 1) := by decide +kernel
theorem dM_findDays_74 : decode YM_findDays.2.1 74 = .ok (.ifCond .eq 30, 3) := by decide +kernel
theorem dM_findDays_77 : decode YM_findDays.2.1 77 = .ok (.aload_n 0, 1) := by decide +kernel
theorem dM_findDays_78 : decode YM_findDays.2.1 78 = .ok (.getfield 60, 3) := by decide +kernel
theorem dM_findDays_81 : decode YM_findDays.2.1 81 = .ok (.iload 4, 2) := by decide +kernel
theorem dM_findDays_83 : decode YM_findDays.2.1 83 = .ok (.iaload, 1) := by decide +kernel
theorem dM_findDays_84 : decode YM_findDays.2.1 84 = .ok (.iconst 1, 1) := by decide +kernel
theorem dM_findDays_85 : decode YM_findDays.2.1 85 = .ok (.aload_n 0, 1) := by decide +kernel
theorem dM_findDays_86 : decode YM_findDays.2.1 86 = .ok (.getfield 60, 3) := by decide +kernel
theorem dM_findDays_89 : decode YM_findDays.2.1 89 = .ok (.iload 4, 2) := by decide +kernel
theorem dM_findDays_91 : decode YM_findDays.2.1 91 = .ok (.iload 5, 2) := by decide +kernel
theorem dM_findDays_93 : decode YM_findDays.2.1 93 = .ok (.iconst (-1), 1) := by decide +kernel
theorem dM_findDays_94 : decode YM_findDays.2.1 94 = .ok (.ixor, 1) := by decide +kernel
theorem dM_findDays_95 : decode YM_findDays.2.1 95 = .ok (.iand, 1) := by decide +kernel
theorem dM_findDays_96 : decode YM_findDays.2.1 96 = .ok (.iaload, 1) := by decide +kernel
theorem dM_findDays_97 : decode YM_findDays.2.1 97 = .ok (.iadd, 1) := by decide +kernel
theorem dM_findDays_98 : decode YM_findDays.2.1 98 = .ok (.invokestatic 355, 3) := by decide +kernel
theorem dM_findDays_101 : decode YM_findDays.2.1 101 = .ok (.goto 10, 3) := by decide +kernel
theorem dM_findDays_104 : decode YM_findDays.2.1 104 = .ok (.aload_n 0, 1) := by decide +kernel
theorem dM_findDays_105 : decode YM_findDays.2.1 105 = .ok (.getfield 60, 3) := by decide +kernel
theorem dM_findDays_108 : decode YM_findDays.2.1 108 = .ok (.iload 4, 2) := by decide +kernel
theorem dM_findDays_110 : decode YM_findDays.2.1 110 = .ok (.iaload, 1) := by decide +kernel
theorem dM_findDays_111 : decode YM_findDays.2.1 111 = .ok (.iastore, 1) := by decide +kernel
theorem dM_findDays_112 : decode YM_findDays.2.1 112 = .ok (.iload 5, 2) := by decide +kernel
theorem dM_findDays_114 : decode YM_findDays.2.1 114 = .ok (.iconst 1, 1) := by decide +kernel
theorem dM_findDays_115 : decode YM_findDays.2.1 115 = .ok (.isub, 1) := by decide +kernel
theorem dM_findDays_116 : decode YM_findDays.2.1 116 = .ok (.iload 4, 2) := by decide +kernel
theorem dM_findDays_118 : decode YM_findDays.2.1 118 = .ok (.iand, 1) := by decide +kernel
theorem dM_findDays_119 : decode YM_findDays.2.1 119 = .ok (.istore 5, 2) := by decide +kernel
theorem dM_findDays_121 : decode YM_findDays.2.1 121 = .ok (.goto (-65), 3) := by decide +kernel
theorem dM_findDays_124 : decode YM_findDays.2.1 124 = .ok (.iinc 4 1, 3) := by decide +kernel
theorem dM_findDays_127 : decode YM_findDays.2.1 127 = .ok (.goto (-115), 3) := by decide +kernel
theorem dM_findDays_130 : decode YM_findDays.2.1 130 = .ok (.aload_n 0, 1) := by decide +kernel
theorem dM_findDays_131 : decode YM_findDays.2.1 131 = .ok (.getfield 60, 3) := by decide +kernel
theorem dM_findDays_134 : decode YM_findDays.2.1 134 = .ok (.iload_n 3, 1) := by decide +kernel
theorem dM_findDays_135 : decode YM_findDays.2.1 135 = .ok (.iaload, 1) := by decide +kernel
theorem dM_findDays_136 : decode YM_findDays.2.1 136 = .ok (.ldc_w 349, 3) := by decide +kernel
theorem dM_findDays_139 : decode YM_findDays.2.1 139 = .ok (.if_icmp .lt 7, 3) := by decide +kernel
theorem dM_findDays_142 : decode YM_findDays.2.1 142 = .ok (.iconst (-1), 1) := by decide +kernel
theorem dM_findDays_143 : decode YM_findDays.2.1 143 = .ok (.goto 9, 3) := by decide +kernel
theorem dM_findDays_146 : decode YM_findDays.2.1 146 = .ok (.aload_n 0, 1) := by decide +kernel
theorem dM_findDays_147 : decode YM_findDays.2.1 147 = .ok (.getfield 60, 3) := by decide +kernel
theorem dM_findDays_150 : decode YM_findDays.2.1 150 = .ok (.iload_n 3, 1) := by decide +kernel
theorem dM_findDays_151 : decode YM_findDays.2.1 151 = .ok (.iaload, 1) := by decide +kernel
theorem dM_findDays_152 : decode YM_findDays.2.1 152 = .ok (.ireturn, 1) := by decide +kernel
theorem dM_canGo_0 : decode YM_canGo.2.1 0 = .ok (.iconst 0, 1) := by decide +kernel
theorem dM_canGo_1 : decode YM_canGo.2.1 1 = .ok (.istore_n 3, 1) := by decide +kernel
theorem dM_canGo_2 : decode YM_canGo.2.1 2 = .ok (.iload_n 3, 1) := by decide +kernel
theorem dM_canGo_3 : decode YM_canGo.2.1 3 = .ok (.iload_n 1, 1) := by decide +kernel
theorem dM_canGo_4 : decode YM_canGo.2.1 4 = .ok (.if_icmp .gt 25, 3) := by decide +kernel
theorem dM_canGo_7 : decode YM_canGo.2.1 7 = .ok (.aload_n 0, 1) := by decide +kernel
theorem dM_canGo_8 : decode YM_canGo.2.1 8 = .ok (.getfield 66, 3) := by decide +kernel
theorem dM_canGo_11 : decode YM_canGo.2.1 11 = .ok (.iload_n 3, 1) := by decide +kernel
theorem dM_canGo_12 : decode YM_canGo.2.1 12 = .ok (.iload_n 3, 1) := by decide +kernel
theorem dM_canGo_13 : decode YM_canGo.2.1 13 = .ok (.iload_n 1, 1) := by decide +kernel
theorem dM_canGo_14 : decode YM_canGo.2.1 14 = .ok (.if_icmp .ne 7, 3) := by decide +kernel
theorem dM_canGo_17 : decode YM_canGo.2.1 17 = .ok (.iconst 1, 1) := by decide +kernel
theorem dM_canGo_18 : decode YM_canGo.2.1 18 = .ok (.goto 4, 3) := by decide +kernel
theorem dM_canGo_21 : decode YM_canGo.2.1 21 = .ok (.iconst 0, 1) := by decide +kernel
theorem dM_canGo_22 : decode YM_canGo.2.1 22 = .ok (.bastore, 1) := by decide +kernel
theorem dM_canGo_23 : decode YM_canGo.2.1 23 = .ok (.iinc 3 1, 3) := by decide +kernel
theorem dM_canGo_26 : decode YM_canGo.2.1 26 = .ok (.goto (-24), 3) := by decide +kernel
theorem dM_canGo_29 : decode YM_canGo.2.1 29 = .ok (.iconst 0, 1) := by decide +kernel
theorem dM_canGo_30 : decode YM_canGo.2.1 30 = .ok (.istore_n 3, 1) := by decide +kernel
theorem dM_canGo_31 : decode YM_canGo.2.1 31 = .ok (.iload_n 3, 1) := by decide +kernel
theorem dM_canGo_32 : decode YM_canGo.2.1 32 = .ok (.iload_n 2, 1) := by decide +kernel
theorem dM_canGo_33 : decode YM_canGo.2.1 33 = .ok (.if_icmp .ge 165, 3) := by decide +kernel
theorem dM_canGo_36 : decode YM_canGo.2.1 36 = .ok (.iconst 0, 1) := by decide +kernel
theorem dM_canGo_37 : decode YM_canGo.2.1 37 = .ok (.istore 4, 2) := by decide +kernel
theorem dM_canGo_39 : decode YM_canGo.2.1 39 = .ok (.iload 4, 2) := by decide +kernel
theorem dM_canGo_41 : decode YM_canGo.2.1 41 = .ok (.iload_n 1, 1) := by decide +kernel
theorem dM_canGo_42 : decode YM_canGo.2.1 42 = .ok (.if_icmp .gt 17, 3) := by decide +kernel
theorem dM_canGo_45 : decode YM_canGo.2.1 45 = .ok (.aload_n 0, 1) := by decide +kernel
theorem dM_canGo_46 : decode YM_canGo.2.1 46 = .ok (.getfield 69, 3) := by decide +kernel
theorem dM_canGo_49 : decode YM_canGo.2.1 49 = .ok (.iload 4, 2) := by decide +kernel
theorem dM_canGo_51 : decode YM_canGo.2.1 51 = .ok (.iconst 0, 1) := by decide +kernel
theorem dM_canGo_52 : decode YM_canGo.2.1 52 = .ok (.bastore, 1) := by decide +kernel
theorem dM_canGo_53 : decode YM_canGo.2.1 53 = .ok (.iinc 4 1, 3) := by decide +kernel
theorem dM_canGo_56 : decode YM_canGo.2.1 56 = .ok (.goto (-17), 3) := by decide +kernel
theorem dM_canGo_59 : decode YM_canGo.2.1 59 = .ok (.iconst 0, 1) := by decide +kernel
theorem dM_canGo_60 : decode YM_canGo.2.1 60 = .ok (.istore 4, 2) := by decide +kernel
theorem dM_canGo_62 : decode YM_canGo.2.1 62 = .ok (.iload 4, 2) := by decide +kernel
theorem dM_canGo_64 : decode YM_canGo.2.1 64 = .ok (.iload_n 1, 1) := by decide +kernel
theorem dM_canGo_65 : decode YM_canGo.2.1 65 = .ok (.if_icmp .gt 98, 3) := by decide +kernel
theorem dM_canGo_68 : decode YM_canGo.2.1 68 = .ok (.iload 4, 2) := by decide +kernel
theorem dM_canGo_70 : decode YM_canGo.2.1 70 = .ok (.istore 5, 2) := by decide +kernel
theorem dM_canGo_72 : decode YM_canGo.2.1 72 = .ok (.aload_n 0, 1) := by decide +kernel
theorem dM_canGo_73 : decode YM_canGo.2.1 73 = .ok (.getfield 66, 3) := by decide +kernel
theorem dM_canGo_76 : decode YM_canGo.2.1 76 = .ok (.iload 4, 2) := by decide +kernel
theorem dM_canGo_78 : decode YM_canGo.2.1 78 = .ok (.baload, 1) := by decide +kernel
theorem dM_canGo_79 : decode YM_canGo.2.1 79 = .ok (.ifCond .eq 78, 3) := by decide +kernel
theorem dM_canGo_82 : decode YM_canGo.2.1 82 = .ok (.iload 5, 2) := by decide +kernel
theorem dM_canGo_84 : decode YM_canGo.2.1 84 = .ok (.ifCond .lt 73, 3) := by decide +kernel
theorem dM_canGo_87 : decode YM_canGo.2.1 87 = .ok (.aload_n 0, 1) := by decide +kernel
theorem dM_canGo_88 : decode YM_canGo.2.1 88 = .ok (.getfield 69, 3) := by decide +kernel
theorem dM_canGo_91 : decode YM_canGo.2.1 91 = .ok (.iload 4, 2) := by decide +kernel
theorem dM_canGo_93 : decode YM_canGo.2.1 93 = .ok (.iload 5, 2) := by decide +kernel
theorem dM_canGo_95 : decode YM_canGo.2.1 95 = .ok (.iconst (-1), 1) := by decide +kernel
theorem dM_canGo_96 : decode YM_canGo.2.1 96 = .ok (.ixor, 1) := by decide +kernel
theorem dM_canGo_97 : decode YM_canGo.2.1 97 = .ok (.iand, 1) := by decide +kernel
theorem dM_canGo_98 : decode YM_canGo.2.1 98 = .ok (.aload_n 0, 1) := by decide +kernel
theorem dM_canGo_99 : decode YM_canGo.2.1 99 = .ok (.getfield 69, 3) := by decide +kernel
theorem dM_canGo_102 : decode YM_canGo.2.1 102 = .ok (.iload 4, 2) := by decide +kernel
theorem dM_canGo_104 : decode YM_canGo.2.1 104 = .ok (.iload 5, 2) := by decide +kernel
theorem dM_canGo_106 : decode YM_canGo.2.1 106 = .ok (.iconst (-1), 1) := by decide +kernel
theorem dM_canGo_107 : decode YM_canGo.2.1 107 = .ok (.ixor, 1) := by decide +kernel
theorem dM_canGo_108 : decode YM_canGo.2.1 108 = .ok (.iand, 1) := by decide +kernel
theorem dM_canGo_109 : decode YM_canGo.2.1 109 = .ok (.baload, 1) := by decide +kernel
theorem dM_canGo_110 : decode YM_canGo.2.1 110 = .ok (.ifCond .ne 20, 3) := by decide +kernel
theorem dM_canGo_113 : decode YM_canGo.2.1 113 = .ok (.aload_n 0, 1) := by decide +kernel
theorem dM_canGo_114 : decode YM_canGo.2.1 114 = .ok (.getfield 56, 3) := by decide +kernel
theorem dM_canGo_117 : decode YM_canGo.2.1 117 = .ok (.aload_n 0, 1) := by decide +kernel
theorem dM_canGo_118 : decode YM_canGo.2.1 118 = .ok (.getfield 63, 3) := by decide +kernel
theorem dM_canGo_121 : decode YM_canGo.2.1 121 = .ok (.iload_n 3, 1) := by decide +kernel
theorem dM_canGo_122 : decode YM_canGo.2.1 122 = .ok (.iaload, 1) := by decide +kernel
theorem dM_canGo_123 : decode YM_canGo.2.1 123 = .ok (.iload 5, 2) := by decide +kernel
theorem dM_canGo_125 : decode YM_canGo.2.1 125 = .ok (.ior, 1) := by decide +kernel
theorem dM_canGo_126 : decode YM_canGo.2.1 126 = .ok (.baload, 1) := by decide +kernel
theorem dM_canGo_127 : decode YM_canGo.2.1 127 = .ok (.ifCond .eq 7, 3) := by decide +kernel
theorem dM_canGo_130 : decode YM_canGo.2.1 130 = .ok (.iconst 1, 1) := by decide +kernel
theorem dM_canGo_131 : decode YM_canGo.2.1 131 = .ok (.goto 4, 3) := by decide +kernel
theorem dM_canGo_134 : decode YM_canGo.2.1 134 = .ok (.iconst 0, 1) := by decide +kernel
theorem dM_canGo_135 : decode YM_canGo.2.1 135 = .ok (.bastore, 1) := by decide +kernel
theorem dM_canGo_136 : decode YM_canGo.2.1 136 = .ok (.iload 5, 2) := by decide +kernel
theorem dM_canGo_138 : decode YM_canGo.2.1 138 = .ok (.ifCond .ne 7, 3) := by decide +kernel
theorem dM_canGo_141 : decode YM_canGo.2.1 141 = .ok (.iconst (-1), 1) := by decide +kernel
theorem dM_canGo_142 : decode YM_canGo.2.1 142 = .ok (.goto 10, 3) := by decide +kernel
theorem dM_canGo_145 : decode YM_canGo.2.1 145 = .ok (.iload 5, 2) := by decide +kernel
theorem dM_canGo_147 : decode YM_canGo.2.1 147 = .ok (.iconst 1, 1) := by decide +kernel
theorem dM_canGo_148 : decode YM_canGo.2.1 148 = .ok (.isub, 1) := by decide +kernel
theorem dM_canGo_149 : decode YM_canGo.2.1 149 = .ok (.iload 4, 2) := by decide +kernel
theorem dM_canGo_151 : decode YM_canGo.2.1 151 = .ok (.iand, 1) := by decide +kernel
theorem dM_canGo_152 : decode YM_canGo.2.1 152 = .ok (.istore 5, 2) := by decide +kernel
theorem dM_canGo_154 : decode YM_canGo.2.1 154 = .ok (.goto (-82), 3) := by decide +kernel
theorem dM_canGo_157 : decode YM_canGo.2.1 157 = .ok (.iinc 4 1, 3) := by decide +kernel
theorem dM_canGo_160 : decode YM_canGo.2.1 160 = .ok (.goto (-98), 3) := by decide +kernel
theorem dM_canGo_163 : decode YM_canGo.2.1 163 = .ok (.iconst 0, 1) := by decide +kernel
theorem dM_canGo_164 : decode YM_canGo.2.1 164 = .ok (.istore 4, 2) := by decide +kernel
theorem dM_canGo_166 : decode YM_canGo.2.1 166 = .ok (.iload 4, 2) := by decide +kernel
theorem dM_canGo_168 : decode YM_canGo.2.1 168 = .ok (.iload_n 1, 1) := by decide +kernel
theorem dM_canGo_169 : decode YM_canGo.2.1 169 = .ok (.if_icmp .gt 23, 3) := by decide +kernel
theorem dM_canGo_172 : decode YM_canGo.2.1 172 = .ok (.aload_n 0, 1) := by decide +kernel
theorem dM_canGo_173 : decode YM_canGo.2.1 173 = .ok (.getfield 66, 3) := by decide +kernel
theorem dM_canGo_176 : decode YM_canGo.2.1 176 = .ok (.iload 4, 2) := by decide +kernel
theorem dM_canGo_178 : decode YM_canGo.2.1 178 = .ok (.aload_n 0, 1) := by decide +kernel
theorem dM_canGo_179 : decode YM_canGo.2.1 179 = .ok (.getfield 69, 3) := by decide +kernel
theorem dM_canGo_182 : decode YM_canGo.2.1 182 = .ok (.iload 4, 2) := by decide +kernel
theorem dM_canGo_184 : decode YM_canGo.2.1 184 = .ok (.baload, 1) := by decide +kernel
theorem dM_canGo_185 : decode YM_canGo.2.1 185 = .ok (.bastore, 1) := by decide +kernel
theorem dM_canGo_186 : decode YM_canGo.2.1 186 = .ok (.iinc 4 1, 3) := by decide +kernel
theorem dM_canGo_189 : decode YM_canGo.2.1 189 = .ok (.goto (-23), 3) := by decide +kernel
theorem dM_canGo_192 : decode YM_canGo.2.1 192 = .ok (.iinc 3 1, 3) := by decide +kernel
theorem dM_canGo_195 : decode YM_canGo.2.1 195 = .ok (.goto (-164), 3) := by decide +kernel
theorem dM_canGo_198 : decode YM_canGo.2.1 198 = .ok (.aload_n 0, 1) := by decide +kernel
theorem dM_canGo_199 : decode YM_canGo.2.1 199 = .ok (.getfield 66, 3) := by decide +kernel
theorem dM_canGo_202 : decode YM_canGo.2.1 202 = .ok (.iconst 0, 1) := by decide +kernel
theorem dM_canGo_203 : decode YM_canGo.2.1 203 = .ok (.baload, 1) := by decide +kernel
theorem dM_canGo_204 : decode YM_canGo.2.1 204 = .ok (.ireturn, 1) := by decide +kernel
theorem dM_dayOf_0 : decode YM_dayOf.2.1 0 = .ok (.iconst (-1), 1) := by decide +kernel
theorem dM_dayOf_1 : decode YM_dayOf.2.1 1 = .ok (.istore_n 3, 1) := by decide +kernel
theorem dM_dayOf_2 : decode YM_dayOf.2.1 2 = .ok (.iconst 0, 1) := by decide +kernel
theorem dM_dayOf_3 : decode YM_dayOf.2.1 3 = .ok (.istore 4, 2) := by decide +kernel
theorem dM_dayOf_5 : decode YM_dayOf.2.1 5 = .ok (.iload 4, 2) := by decide +kernel
theorem dM_dayOf_7 : decode YM_dayOf.2.1 7 = .ok (.bipush 10, 2) := by decide +kernel
theorem dM_dayOf_9 : decode YM_dayOf.2.1 9 = .ok (.if_icmp .ge 17, 3) := by decide +kernel
theorem dM_dayOf_12 : decode YM_dayOf.2.1 12 = .ok (.aload_n 0, 1) := by decide +kernel
theorem dM_dayOf_13 : decode YM_dayOf.2.1 13 = .ok (.getfield 63, 3) := by decide +kernel
theorem dM_dayOf_16 : decode YM_dayOf.2.1 16 = .ok (.iload 4, 2) := by decide +kernel
theorem dM_dayOf_18 : decode YM_dayOf.2.1 18 = .ok (.iconst 0, 1) := by decide +kernel
theorem dM_dayOf_19 : decode YM_dayOf.2.1 19 = .ok (.iastore, 1) := by decide +kernel
theorem dM_dayOf_20 : decode YM_dayOf.2.1 20 = .ok (.iinc 4 1, 3) := by decide +kernel
theorem dM_dayOf_23 : decode YM_dayOf.2.1 23 = .ok (.goto (-18), 3) := by decide +kernel
theorem dM_dayOf_26 : decode YM_dayOf.2.1 26 = .ok (.iconst 0, 1) := by decide +kernel
theorem dM_dayOf_27 : decode YM_dayOf.2.1 27 = .ok (.istore 4, 2) := by decide +kernel
theorem dM_dayOf_29 : decode YM_dayOf.2.1 29 = .ok (.iload 4, 2) := by decide +kernel
theorem dM_dayOf_31 : decode YM_dayOf.2.1 31 = .ok (.iload_n 1, 1) := by decide +kernel
theorem dM_dayOf_32 : decode YM_dayOf.2.1 32 = .ok (.if_icmp .gt 123, 3) := by decide +kernel
theorem dM_dayOf_35 : decode YM_dayOf.2.1 35 = .ok (.iconst (-1), 1) := by decide +kernel
theorem dM_dayOf_36 : decode YM_dayOf.2.1 36 = .ok (.istore_n 3, 1) := by decide +kernel
theorem dM_dayOf_37 : decode YM_dayOf.2.1 37 = .ok (.iconst 1, 1) := by decide +kernel
theorem dM_dayOf_38 : decode YM_dayOf.2.1 38 = .ok (.aload_n 0, 1) := by decide +kernel
theorem dM_dayOf_39 : decode YM_dayOf.2.1 39 = .ok (.getfield 262, 3) := by decide +kernel
theorem dM_dayOf_42 : decode YM_dayOf.2.1 42 = .ok (.ishl, 1) := by decide +kernel
theorem dM_dayOf_43 : decode YM_dayOf.2.1 43 = .ok (.iconst 1, 1) := by decide +kernel
theorem dM_dayOf_44 : decode YM_dayOf.2.1 44 = .ok (.isub, 1) := by decide +kernel
theorem dM_dayOf_45 : decode YM_dayOf.2.1 45 = .ok (.iconst 1, 1) := by decide +kernel
theorem dM_dayOf_46 : decode YM_dayOf.2.1 46 = .ok (.iload 4, 2) := by decide +kernel
theorem dM_dayOf_48 : decode YM_dayOf.2.1 48 = .ok (.iconst 1, 1) := by decide +kernel
theorem dM_dayOf_49 : decode YM_dayOf.2.1 49 = .ok (.iadd, 1) := by decide +kernel
theorem dM_dayOf_50 : decode YM_dayOf.2.1 50 = .ok (.ishl, 1) := by decide +kernel
theorem dM_dayOf_51 : decode YM_dayOf.2.1 51 = .ok (.iconst 1, 1) := by decide +kernel
theorem dM_dayOf_52 : decode YM_dayOf.2.1 52 = .ok (.isub, 1) := by decide +kernel
theorem dM_dayOf_53 : decode YM_dayOf.2.1 53 = .ok (.iconst (-1), 1) := by decide +kernel
theorem dM_dayOf_54 : decode YM_dayOf.2.1 54 = .ok (.ixor, 1) := by decide +kernel
theorem dM_dayOf_55 : decode YM_dayOf.2.1 55 = .ok (.iand, 1) := by decide +kernel
theorem dM_dayOf_56 : decode YM_dayOf.2.1 56 = .ok (.istore 5, 2) := by decide +kernel
theorem dM_dayOf_58 : decode YM_dayOf.2.1 58 = .ok (.iconst 0, 1) := by decide +kernel
theorem dM_dayOf_59 : decode YM_dayOf.2.1 59 = .ok (.istore 6, 2) := by decide +kernel
theorem dM_dayOf_61 : decode YM_dayOf.2.1 61 = .ok (.iload 6, 2) := by decide +kernel
theorem dM_dayOf_63 : decode YM_dayOf.2.1 63 = .ok (.iload_n 2, 1) := by decide +kernel
theorem dM_dayOf_64 : decode YM_dayOf.2.1 64 = .ok (.if_icmp .ge 85, 3) := by decide +kernel
theorem dM_dayOf_67 : decode YM_dayOf.2.1 67 = .ok (.iload_n 3, 1) := by decide +kernel
theorem dM_dayOf_68 : decode YM_dayOf.2.1 68 = .ok (.iconst (-1), 1) := by decide +kernel
theorem dM_dayOf_69 : decode YM_dayOf.2.1 69 = .ok (.if_icmp .ne 80, 3) := by decide +kernel
theorem dM_dayOf_72 : decode YM_dayOf.2.1 72 = .ok (.aload_n 0, 1) := by decide +kernel
theorem dM_dayOf_73 : decode YM_dayOf.2.1 73 = .ok (.getfield 63, 3) := by decide +kernel
theorem dM_dayOf_76 : decode YM_dayOf.2.1 76 = .ok (.iload 6, 2) := by decide +kernel
theorem dM_dayOf_78 : decode YM_dayOf.2.1 78 = .ok (.dup2, 1) := by decide +kernel
theorem dM_dayOf_79 : decode YM_dayOf.2.1 79 = .ok (.iaload, 1) := by decide +kernel
theorem dM_dayOf_80 : decode YM_dayOf.2.1 80 = .ok (.iconst 1, 1) := by decide +kernel
theorem dM_dayOf_81 : decode YM_dayOf.2.1 81 = .ok (.iload 4, 2) := by decide +kernel
theorem dM_dayOf_83 : decode YM_dayOf.2.1 83 = .ok (.ishl, 1) := by decide +kernel
theorem dM_dayOf_84 : decode YM_dayOf.2.1 84 = .ok (.ior, 1) := by decide +kernel
theorem dM_dayOf_85 : decode YM_dayOf.2.1 85 = .ok (.iastore, 1) := by decide +kernel
theorem dM_dayOf_86 : decode YM_dayOf.2.1 86 = .ok (.aload_n 0, 1) := by decide +kernel
theorem dM_dayOf_87 : decode YM_dayOf.2.1 87 = .ok (.getfield 56, 3) := by decide +kernel
theorem dM_dayOf_90 : decode YM_dayOf.2.1 90 = .ok (.aload_n 0, 1) := by decide +kernel
theorem dM_dayOf_91 : decode YM_dayOf.2.1 91 = .ok (.getfield 63, 3) := by decide +kernel
theorem dM_dayOf_94 : decode YM_dayOf.2.1 94 = .ok (.iload 6, 2) := by decide +kernel
theorem dM_dayOf_96 : decode YM_dayOf.2.1 96 = .ok (.iaload, 1) := by decide +kernel
theorem dM_dayOf_97 : decode YM_dayOf.2.1 97 = .ok (.baload, 1) := by decide +kernel
theorem dM_dayOf_98 : decode YM_dayOf.2.1 98 = .ok (.ifCond .eq 18, 3) := by decide +kernel
theorem dM_dayOf_101 : decode YM_dayOf.2.1 101 = .ok (.aload_n 0, 1) := by decide +kernel
theorem dM_dayOf_102 : decode YM_dayOf.2.1 102 = .ok (.iload 5, 2) := by decide +kernel
theorem dM_dayOf_104 : decode YM_dayOf.2.1 104 = .ok (.iload_n 2, 1) := by decide +kernel
theorem dM_dayOf_105 : decode YM_dayOf.2.1 105 = .ok (.invokevirtual 420, 3) := by decide +kernel
theorem dM_dayOf_108 : decode YM_dayOf.2.1 108 = .ok (.ifCond .eq 8, 3) := by decide +kernel
theorem dM_dayOf_111 : decode YM_dayOf.2.1 111 = .ok (.iload 6, 2) := by decide +kernel
theorem dM_dayOf_113 : decode YM_dayOf.2.1 113 = .ok (.goto 4, 3) := by decide +kernel
theorem dM_dayOf_116 : decode YM_dayOf.2.1 116 = .ok (.iconst (-1), 1) := by decide +kernel
theorem dM_dayOf_117 : decode YM_dayOf.2.1 117 = .ok (.istore_n 3, 1) := by decide +kernel
theorem dM_dayOf_118 : decode YM_dayOf.2.1 118 = .ok (.aload_n 0, 1) := by decide +kernel
theorem dM_dayOf_119 : decode YM_dayOf.2.1 119 = .ok (.getfield 63, 3) := by decide +kernel
theorem dM_dayOf_122 : decode YM_dayOf.2.1 122 = .ok (.iload 6, 2) := by decide +kernel
theorem dM_dayOf_124 : decode YM_dayOf.2.1 124 = .ok (.dup2, 1) := by decide +kernel
theorem dM_dayOf_125 : decode YM_dayOf.2.1 125 = .ok (.iaload, 1) := by decide +kernel
theorem dM_dayOf_126 : decode YM_dayOf.2.1 126 = .ok (.iload_n 3, 1) := by decide +kernel
theorem dM_dayOf_127 : decode YM_dayOf.2.1 127 = .ok (.iconst (-1), 1) := by decide +kernel
theorem dM_dayOf_128 : decode YM_dayOf.2.1 128 = .ok (.if_icmp .ne 12, 3) := by decide +kernel
theorem dM_dayOf_131 : decode YM_dayOf.2.1 131 = .ok (.iconst 1, 1) := by decide +kernel
theorem dM_dayOf_132 : decode YM_dayOf.2.1 132 = .ok (.iload 4, 2) := by decide +kernel
theorem dM_dayOf_134 : decode YM_dayOf.2.1 134 = .ok (.ishl, 1) := by decide +kernel
theorem dM_dayOf_135 : decode YM_dayOf.2.1 135 = .ok (.iconst (-1), 1) := by decide +kernel
theorem dM_dayOf_136 : decode YM_dayOf.2.1 136 = .ok (.ixor, 1) := by decide +kernel
theorem dM_dayOf_137 : decode YM_dayOf.2.1 137 = .ok (.goto 4, 3) := by decide +kernel
theorem dM_dayOf_140 : decode YM_dayOf.2.1 140 = .ok (.iconst (-1), 1) := by decide +kernel
theorem dM_dayOf_141 : decode YM_dayOf.2.1 141 = .ok (.iand, 1) := by decide +kernel
theorem dM_dayOf_142 : decode YM_dayOf.2.1 142 = .ok (.iastore, 1) := by decide +kernel
theorem dM_dayOf_143 : decode YM_dayOf.2.1 143 = .ok (.iinc 6 1, 3) := by decide +kernel
theorem dM_dayOf_146 : decode YM_dayOf.2.1 146 = .ok (.goto (-85), 3) := by decide +kernel
theorem dM_dayOf_149 : decode YM_dayOf.2.1 149 = .ok (.iinc 4 1, 3) := by decide +kernel
theorem dM_dayOf_152 : decode YM_dayOf.2.1 152 = .ok (.goto (-123), 3) := by decide +kernel
theorem dM_dayOf_155 : decode YM_dayOf.2.1 155 = .ok (.iload_n 3, 1) := by decide +kernel
theorem dM_dayOf_156 : decode YM_dayOf.2.1 156 = .ok (.ireturn, 1) := by decide +kernel
theorem dM_bags_0 : decode YM_bags.2.1 0 = .ok (.aload_n 0, 1) := by decide +kernel
theorem dM_bags_1 : decode YM_bags.2.1 1 = .ok (.iconst 0, 1) := by decide +kernel
theorem dM_bags_2 : decode YM_bags.2.1 2 = .ok (.putfield 90, 3) := by decide +kernel
theorem dM_bags_5 : decode YM_bags.2.1 5 = .ok (.iload_n 2, 1) := by decide +kernel
theorem dM_bags_6 : decode YM_bags.2.1 6 = .ok (.iconst 1, 1) := by decide +kernel
theorem dM_bags_7 : decode YM_bags.2.1 7 = .ok (.bipush 99, 2) := by decide +kernel
theorem dM_bags_9 : decode YM_bags.2.1 9 = .ok (.invokestatic 102, 3) := by decide +kernel
theorem dM_bags_12 : decode YM_bags.2.1 12 = .ok (.ifCond .eq 36, 3) := by decide +kernel
theorem dM_bags_15 : decode YM_bags.2.1 15 = .ok (.iload_n 3, 1) := by decide +kernel
theorem dM_bags_16 : decode YM_bags.2.1 16 = .ok (.iconst 1, 1) := by decide +kernel
theorem dM_bags_17 : decode YM_bags.2.1 17 = .ok (.bipush 10, 2) := by decide +kernel
theorem dM_bags_19 : decode YM_bags.2.1 19 = .ok (.invokestatic 102, 3) := by decide +kernel
theorem dM_bags_22 : decode YM_bags.2.1 22 = .ok (.ifCond .eq 26, 3) := by decide +kernel
theorem dM_bags_25 : decode YM_bags.2.1 25 = .ok (.aload_n 0, 1) := by decide +kernel
theorem dM_bags_26 : decode YM_bags.2.1 26 = .ok (.iload_n 1, 1) := by decide +kernel
theorem dM_bags_27 : decode YM_bags.2.1 27 = .ok (.invokevirtual 277, 3) := by decide +kernel
theorem dM_bags_30 : decode YM_bags.2.1 30 = .ok (.ifCond .eq 18, 3) := by decide +kernel
theorem dM_bags_33 : decode YM_bags.2.1 33 = .ok (.iload 4, 2) := by decide +kernel
theorem dM_bags_35 : decode YM_bags.2.1 35 = .ok (.iconst (-1), 1) := by decide +kernel
theorem dM_bags_36 : decode YM_bags.2.1 36 = .ok (.aload_n 0, 1) := by decide +kernel
theorem dM_bags_37 : decode YM_bags.2.1 37 = .ok (.getfield 262, 3) := by decide +kernel
theorem dM_bags_40 : decode YM_bags.2.1 40 = .ok (.iconst 1, 1) := by decide +kernel
theorem dM_bags_41 : decode YM_bags.2.1 41 = .ok (.isub, 1) := by decide +kernel
theorem dM_bags_42 : decode YM_bags.2.1 42 = .ok (.invokestatic 102, 3) := by decide +kernel
theorem dM_bags_45 : decode YM_bags.2.1 45 = .ok (.ifCond .ne 5, 3) := by decide +kernel
theorem dM_bags_48 : decode YM_bags.2.1 48 = .ok (.iconst (-1), 1) := by decide +kernel
theorem dM_bags_49 : decode YM_bags.2.1 49 = .ok (.ireturn, 1) := by decide +kernel
theorem dM_bags_50 : decode YM_bags.2.1 50 = .ok (.aload_n 0, 1) := by decide +kernel
theorem dM_bags_51 : decode YM_bags.2.1 51 = .ok (.iload_n 2, 1) := by decide +kernel
theorem dM_bags_52 : decode YM_bags.2.1 52 = .ok (.iload_n 3, 1) := by decide +kernel
theorem dM_bags_53 : decode YM_bags.2.1 53 = .ok (.invokevirtual 423, 3) := by decide +kernel
theorem dM_bags_56 : decode YM_bags.2.1 56 = .ok (.istore 5, 2) := by decide +kernel
theorem dM_bags_58 : decode YM_bags.2.1 58 = .ok (.iload 4, 2) := by decide +kernel
theorem dM_bags_60 : decode YM_bags.2.1 60 = .ok (.iconst (-1), 1) := by decide +kernel
theorem dM_bags_61 : decode YM_bags.2.1 61 = .ok (.if_icmp .eq 9, 3) := by decide +kernel
theorem dM_bags_64 : decode YM_bags.2.1 64 = .ok (.iload 5, 2) := by decide +kernel
theorem dM_bags_66 : decode YM_bags.2.1 66 = .ok (.iconst (-1), 1) := by decide +kernel
theorem dM_bags_67 : decode YM_bags.2.1 67 = .ok (.if_icmp .ne 8, 3) := by decide +kernel
theorem dM_bags_70 : decode YM_bags.2.1 70 = .ok (.iload 5, 2) := by decide +kernel
theorem dM_bags_72 : decode YM_bags.2.1 72 = .ok (.goto 11, 3) := by decide +kernel
theorem dM_bags_75 : decode YM_bags.2.1 75 = .ok (.aload_n 0, 1) := by decide +kernel
theorem dM_bags_76 : decode YM_bags.2.1 76 = .ok (.iload 4, 2) := by decide +kernel
theorem dM_bags_78 : decode YM_bags.2.1 78 = .ok (.iload 5, 2) := by decide +kernel
theorem dM_bags_80 : decode YM_bags.2.1 80 = .ok (.invokevirtual 426, 3) := by decide +kernel
theorem dM_bags_83 : decode YM_bags.2.1 83 = .ok (.ireturn, 1) := by decide +kernel
theorem dM_leadBy_0 : decode YM_leadBy.2.1 0 = .ok (.iload_n 3, 1) := by decide +kernel
theorem dM_leadBy_1 : decode YM_leadBy.2.1 1 = .ok (.ifCond .eq 27, 3) := by decide +kernel
theorem dM_leadBy_4 : decode YM_leadBy.2.1 4 = .ok (.aload_n 0, 1) := by decide +kernel
theorem dM_leadBy_5 : decode YM_leadBy.2.1 5 = .ok (.iload_n 1, 1) := by decide +kernel
theorem dM_leadBy_6 : decode YM_leadBy.2.1 6 = .ok (.invokevirtual 274, 3) := by decide +kernel
theorem dM_leadBy_9 : decode YM_leadBy.2.1 9 = .ok (.aload_n 0, 1) := by decide +kernel
theorem dM_leadBy_10 : decode YM_leadBy.2.1 10 = .ok (.getfield 72, 3) := by decide +kernel
theorem dM_leadBy_13 : decode YM_leadBy.2.1 13 = .ok (.bipush 11, 2) := by decide +kernel
theorem dM_leadBy_15 : decode YM_leadBy.2.1 15 = .ok (.iload_n 2, 1) := by decide +kernel
theorem dM_leadBy_16 : decode YM_leadBy.2.1 16 = .ok (.iconst 1, 1) := by decide +kernel
theorem dM_leadBy_17 : decode YM_leadBy.2.1 17 = .ok (.isub, 1) := by decide +kernel
theorem dM_leadBy_18 : decode YM_leadBy.2.1 18 = .ok (.imul, 1) := by decide +kernel
theorem dM_leadBy_19 : decode YM_leadBy.2.1 19 = .ok (.iload_n 1, 1) := by decide +kernel
theorem dM_leadBy_20 : decode YM_leadBy.2.1 20 = .ok (.iadd, 1) := by decide +kernel
theorem dM_leadBy_21 : decode YM_leadBy.2.1 21 = .ok (.iconst 1, 1) := by decide +kernel
theorem dM_leadBy_22 : decode YM_leadBy.2.1 22 = .ok (.iadd, 1) := by decide +kernel
theorem dM_leadBy_23 : decode YM_leadBy.2.1 23 = .ok (.iaload, 1) := by decide +kernel
theorem dM_leadBy_24 : decode YM_leadBy.2.1 24 = .ok (.isub, 1) := by decide +kernel
theorem dM_leadBy_25 : decode YM_leadBy.2.1 25 = .ok (.goto 26, 3) := by decide +kernel
theorem dM_leadBy_28 : decode YM_leadBy.2.1 28 = .ok (.aload_n 0, 1) := by decide +kernel
theorem dM_leadBy_29 : decode YM_leadBy.2.1 29 = .ok (.iload_n 1, 1) := by decide +kernel
theorem dM_leadBy_30 : decode YM_leadBy.2.1 30 = .ok (.iload_n 2, 1) := by decide +kernel
theorem dM_leadBy_31 : decode YM_leadBy.2.1 31 = .ok (.iadd, 1) := by decide +kernel
theorem dM_leadBy_32 : decode YM_leadBy.2.1 32 = .ok (.iconst 1, 1) := by decide +kernel
theorem dM_leadBy_33 : decode YM_leadBy.2.1 33 = .ok (.isub, 1) := by decide +kernel
theorem dM_leadBy_34 : decode YM_leadBy.2.1 34 = .ok (.invokevirtual 274, 3) := by decide +kernel
theorem dM_leadBy_37 : decode YM_leadBy.2.1 37 = .ok (.aload_n 0, 1) := by decide +kernel
theorem dM_leadBy_38 : decode YM_leadBy.2.1 38 = .ok (.getfield 72, 3) := by decide +kernel
theorem dM_leadBy_41 : decode YM_leadBy.2.1 41 = .ok (.bipush 11, 2) := by decide +kernel
theorem dM_leadBy_43 : decode YM_leadBy.2.1 43 = .ok (.iload_n 2, 1) := by decide +kernel
theorem dM_leadBy_44 : decode YM_leadBy.2.1 44 = .ok (.iconst 1, 1) := by decide +kernel
theorem dM_leadBy_45 : decode YM_leadBy.2.1 45 = .ok (.isub, 1) := by decide +kernel
theorem dM_leadBy_46 : decode YM_leadBy.2.1 46 = .ok (.imul, 1) := by decide +kernel
theorem dM_leadBy_47 : decode YM_leadBy.2.1 47 = .ok (.iload_n 1, 1) := by decide +kernel
theorem dM_leadBy_48 : decode YM_leadBy.2.1 48 = .ok (.iadd, 1) := by decide +kernel
theorem dM_leadBy_49 : decode YM_leadBy.2.1 49 = .ok (.iaload, 1) := by decide +kernel
theorem dM_leadBy_50 : decode YM_leadBy.2.1 50 = .ok (.isub, 1) := by decide +kernel
theorem dM_leadBy_51 : decode YM_leadBy.2.1 51 = .ok (.ireturn, 1) := by decide +kernel
theorem dM_sorters_0 : decode YM_sorters.2.1 0 = .ok (.aload_n 0, 1) := by decide +kernel
theorem dM_sorters_1 : decode YM_sorters.2.1 1 = .ok (.iconst 0, 1) := by decide +kernel
theorem dM_sorters_2 : decode YM_sorters.2.1 2 = .ok (.putfield 90, 3) := by decide +kernel
theorem dM_sorters_5 : decode YM_sorters.2.1 5 = .ok (.aload_n 0, 1) := by decide +kernel
theorem dM_sorters_6 : decode YM_sorters.2.1 6 = .ok (.iload_n 1, 1) := by decide +kernel
theorem dM_sorters_7 : decode YM_sorters.2.1 7 = .ok (.invokevirtual 277, 3) := by decide +kernel
theorem dM_sorters_10 : decode YM_sorters.2.1 10 = .ok (.ifCond .ne 7, 3) := by decide +kernel
theorem dM_sorters_13 : decode YM_sorters.2.1 13 = .ok (.sipush (-1000), 3) := by decide +kernel
theorem dM_sorters_16 : decode YM_sorters.2.1 16 = .ok (.ireturn, 1) := by decide +kernel
theorem dM_sorters_17 : decode YM_sorters.2.1 17 = .ok (.iconst 0, 1) := by decide +kernel
theorem dM_sorters_18 : decode YM_sorters.2.1 18 = .ok (.istore_n 3, 1) := by decide +kernel
theorem dM_sorters_19 : decode YM_sorters.2.1 19 = .ok (.iload_n 3, 1) := by decide +kernel
theorem dM_sorters_20 : decode YM_sorters.2.1 20 = .ok (.aload_n 0, 1) := by decide +kernel
theorem dM_sorters_21 : decode YM_sorters.2.1 21 = .ok (.getfield 262, 3) := by decide +kernel
theorem dM_sorters_24 : decode YM_sorters.2.1 24 = .ok (.if_icmp .gt 68, 3) := by decide +kernel
theorem dM_sorters_27 : decode YM_sorters.2.1 27 = .ok (.iconst 0, 1) := by decide +kernel
theorem dM_sorters_28 : decode YM_sorters.2.1 28 = .ok (.istore 4, 2) := by decide +kernel
theorem dM_sorters_30 : decode YM_sorters.2.1 30 = .ok (.iload 4, 2) := by decide +kernel
theorem dM_sorters_32 : decode YM_sorters.2.1 32 = .ok (.iload_n 3, 1) := by decide +kernel
theorem dM_sorters_33 : decode YM_sorters.2.1 33 = .ok (.iadd, 1) := by decide +kernel
theorem dM_sorters_34 : decode YM_sorters.2.1 34 = .ok (.aload_n 0, 1) := by decide +kernel
theorem dM_sorters_35 : decode YM_sorters.2.1 35 = .ok (.getfield 262, 3) := by decide +kernel
theorem dM_sorters_38 : decode YM_sorters.2.1 38 = .ok (.if_icmp .gt 48, 3) := by decide +kernel
theorem dM_sorters_41 : decode YM_sorters.2.1 41 = .ok (.aload_n 0, 1) := by decide +kernel
theorem dM_sorters_42 : decode YM_sorters.2.1 42 = .ok (.getfield 72, 3) := by decide +kernel
theorem dM_sorters_45 : decode YM_sorters.2.1 45 = .ok (.bipush 11, 2) := by decide +kernel
theorem dM_sorters_47 : decode YM_sorters.2.1 47 = .ok (.iload_n 3, 1) := by decide +kernel
theorem dM_sorters_48 : decode YM_sorters.2.1 48 = .ok (.imul, 1) := by decide +kernel
theorem dM_sorters_49 : decode YM_sorters.2.1 49 = .ok (.iload 4, 2) := by decide +kernel
theorem dM_sorters_51 : decode YM_sorters.2.1 51 = .ok (.iadd, 1) := by decide +kernel
theorem dM_sorters_52 : decode YM_sorters.2.1 52 = .ok (.iload_n 3, 1) := by decide +kernel
theorem dM_sorters_53 : decode YM_sorters.2.1 53 = .ok (.ifCond .ne 7, 3) := by decide +kernel
theorem dM_sorters_56 : decode YM_sorters.2.1 56 = .ok (.iconst 0, 1) := by decide +kernel
theorem dM_sorters_57 : decode YM_sorters.2.1 57 = .ok (.goto 22, 3) := by decide +kernel
theorem dM_sorters_60 : decode YM_sorters.2.1 60 = .ok (.aload_n 0, 1) := by decide +kernel
theorem dM_sorters_61 : decode YM_sorters.2.1 61 = .ok (.iload 4, 2) := by decide +kernel
theorem dM_sorters_63 : decode YM_sorters.2.1 63 = .ok (.iload_n 3, 1) := by decide +kernel
theorem dM_sorters_64 : decode YM_sorters.2.1 64 = .ok (.iconst 1, 1) := by decide +kernel
theorem dM_sorters_65 : decode YM_sorters.2.1 65 = .ok (.invokevirtual 429, 3) := by decide +kernel
theorem dM_sorters_68 : decode YM_sorters.2.1 68 = .ok (.aload_n 0, 1) := by decide +kernel
theorem dM_sorters_69 : decode YM_sorters.2.1 69 = .ok (.iload 4, 2) := by decide +kernel
theorem dM_sorters_71 : decode YM_sorters.2.1 71 = .ok (.iload_n 3, 1) := by decide +kernel
theorem dM_sorters_72 : decode YM_sorters.2.1 72 = .ok (.iconst 0, 1) := by decide +kernel
theorem dM_sorters_73 : decode YM_sorters.2.1 73 = .ok (.invokevirtual 429, 3) := by decide +kernel
theorem dM_sorters_76 : decode YM_sorters.2.1 76 = .ok (.invokestatic 167, 3) := by decide +kernel
theorem dM_sorters_79 : decode YM_sorters.2.1 79 = .ok (.iastore, 1) := by decide +kernel
theorem dM_sorters_80 : decode YM_sorters.2.1 80 = .ok (.iinc 4 1, 3) := by decide +kernel
theorem dM_sorters_83 : decode YM_sorters.2.1 83 = .ok (.goto (-53), 3) := by decide +kernel
theorem dM_sorters_86 : decode YM_sorters.2.1 86 = .ok (.iinc 3 1, 3) := by decide +kernel
theorem dM_sorters_89 : decode YM_sorters.2.1 89 = .ok (.goto (-70), 3) := by decide +kernel
theorem dM_sorters_92 : decode YM_sorters.2.1 92 = .ok (.aload_n 0, 1) := by decide +kernel
theorem dM_sorters_93 : decode YM_sorters.2.1 93 = .ok (.getfield 72, 3) := by decide +kernel
theorem dM_sorters_96 : decode YM_sorters.2.1 96 = .ok (.bipush 11, 2) := by decide +kernel
theorem dM_sorters_98 : decode YM_sorters.2.1 98 = .ok (.aload_n 0, 1) := by decide +kernel
theorem dM_sorters_99 : decode YM_sorters.2.1 99 = .ok (.getfield 262, 3) := by decide +kernel
theorem dM_sorters_102 : decode YM_sorters.2.1 102 = .ok (.imul, 1) := by decide +kernel
theorem dM_sorters_103 : decode YM_sorters.2.1 103 = .ok (.iaload, 1) := by decide +kernel
theorem dM_sorters_104 : decode YM_sorters.2.1 104 = .ok (.istore_n 3, 1) := by decide +kernel
theorem dM_sorters_105 : decode YM_sorters.2.1 105 = .ok (.iload_n 2, 1) := by decide +kernel
theorem dM_sorters_106 : decode YM_sorters.2.1 106 = .ok (.ifCond .ne 7, 3) := by decide +kernel
theorem dM_sorters_109 : decode YM_sorters.2.1 109 = .ok (.iload_n 3, 1) := by decide +kernel
theorem dM_sorters_110 : decode YM_sorters.2.1 110 = .ok (.goto 33, 3) := by decide +kernel
theorem dM_sorters_113 : decode YM_sorters.2.1 113 = .ok (.aload_n 0, 1) := by decide +kernel
theorem dM_sorters_114 : decode YM_sorters.2.1 114 = .ok (.getfield 262, 3) := by decide +kernel
theorem dM_sorters_117 : decode YM_sorters.2.1 117 = .ok (.ifCond .ne 7, 3) := by decide +kernel
theorem dM_sorters_120 : decode YM_sorters.2.1 120 = .ok (.iconst (-1), 1) := by decide +kernel
theorem dM_sorters_121 : decode YM_sorters.2.1 121 = .ok (.goto 22, 3) := by decide +kernel
theorem dM_sorters_124 : decode YM_sorters.2.1 124 = .ok (.aload_n 0, 1) := by decide +kernel
theorem dM_sorters_125 : decode YM_sorters.2.1 125 = .ok (.iconst 0, 1) := by decide +kernel
theorem dM_sorters_126 : decode YM_sorters.2.1 126 = .ok (.aload_n 0, 1) := by decide +kernel
theorem dM_sorters_127 : decode YM_sorters.2.1 127 = .ok (.getfield 262, 3) := by decide +kernel
theorem dM_sorters_130 : decode YM_sorters.2.1 130 = .ok (.iconst 1, 1) := by decide +kernel
theorem dM_sorters_131 : decode YM_sorters.2.1 131 = .ok (.invokevirtual 429, 3) := by decide +kernel
theorem dM_sorters_134 : decode YM_sorters.2.1 134 = .ok (.iload_n 3, 1) := by decide +kernel
theorem dM_sorters_135 : decode YM_sorters.2.1 135 = .ok (.if_icmp .ne 7, 3) := by decide +kernel
theorem dM_sorters_138 : decode YM_sorters.2.1 138 = .ok (.iconst 0, 1) := by decide +kernel
theorem dM_sorters_139 : decode YM_sorters.2.1 139 = .ok (.goto 4, 3) := by decide +kernel
theorem dM_sorters_142 : decode YM_sorters.2.1 142 = .ok (.iconst 1, 1) := by decide +kernel
theorem dM_sorters_143 : decode YM_sorters.2.1 143 = .ok (.ireturn, 1) := by decide +kernel
theorem dM_factOf_0 : decode YM_factOf.2.1 0 = .ok (.aload_n 0, 1) := by decide +kernel
theorem dM_factOf_1 : decode YM_factOf.2.1 1 = .ok (.getfield 32, 3) := by decide +kernel
theorem dM_factOf_4 : decode YM_factOf.2.1 4 = .ok (.bipush 17, 2) := by decide +kernel
theorem dM_factOf_6 : decode YM_factOf.2.1 6 = .ok (.aload_n 0, 1) := by decide +kernel
theorem dM_factOf_7 : decode YM_factOf.2.1 7 = .ok (.getfield 432, 3) := by decide +kernel
theorem dM_factOf_10 : decode YM_factOf.2.1 10 = .ok (.imul, 1) := by decide +kernel
theorem dM_factOf_11 : decode YM_factOf.2.1 11 = .ok (.iconst 1, 1) := by decide +kernel
theorem dM_factOf_12 : decode YM_factOf.2.1 12 = .ok (.iadd, 1) := by decide +kernel
theorem dM_factOf_13 : decode YM_factOf.2.1 13 = .ok (.iconst 2, 1) := by decide +kernel
theorem dM_factOf_14 : decode YM_factOf.2.1 14 = .ok (.iload_n 1, 1) := by decide +kernel
theorem dM_factOf_15 : decode YM_factOf.2.1 15 = .ok (.imul, 1) := by decide +kernel
theorem dM_factOf_16 : decode YM_factOf.2.1 16 = .ok (.iadd, 1) := by decide +kernel
theorem dM_factOf_17 : decode YM_factOf.2.1 17 = .ok (.iload_n 2, 1) := by decide +kernel
theorem dM_factOf_18 : decode YM_factOf.2.1 18 = .ok (.iadd, 1) := by decide +kernel
theorem dM_factOf_19 : decode YM_factOf.2.1 19 = .ok (.iaload, 1) := by decide +kernel
theorem dM_factOf_20 : decode YM_factOf.2.1 20 = .ok (.ireturn, 1) := by decide +kernel
theorem dM_facts_0 : decode YM_facts.2.1 0 = .ok (.aload_n 0, 1) := by decide +kernel
theorem dM_facts_1 : decode YM_facts.2.1 1 = .ok (.getfield 32, 3) := by decide +kernel
theorem dM_facts_4 : decode YM_facts.2.1 4 = .ok (.bipush 17, 2) := by decide +kernel
theorem dM_facts_6 : decode YM_facts.2.1 6 = .ok (.aload_n 0, 1) := by decide +kernel
theorem dM_facts_7 : decode YM_facts.2.1 7 = .ok (.getfield 432, 3) := by decide +kernel
theorem dM_facts_10 : decode YM_facts.2.1 10 = .ok (.imul, 1) := by decide +kernel
theorem dM_facts_11 : decode YM_facts.2.1 11 = .ok (.iaload, 1) := by decide +kernel
theorem dM_facts_12 : decode YM_facts.2.1 12 = .ok (.ireturn, 1) := by decide +kernel
theorem dM_hasLog_0 : decode YM_hasLog.2.1 0 = .ok (.aload_n 0, 1) := by decide +kernel
theorem dM_hasLog_1 : decode YM_hasLog.2.1 1 = .ok (.iload_n 1, 1) := by decide +kernel
theorem dM_hasLog_2 : decode YM_hasLog.2.1 2 = .ok (.putfield 432, 3) := by decide +kernel
theorem dM_hasLog_5 : decode YM_hasLog.2.1 5 = .ok (.aload_n 0, 1) := by decide +kernel
theorem dM_hasLog_6 : decode YM_hasLog.2.1 6 = .ok (.iconst 2, 1) := by decide +kernel
theorem dM_hasLog_7 : decode YM_hasLog.2.1 7 = .ok (.iload_n 1, 1) := by decide +kernel
theorem dM_hasLog_8 : decode YM_hasLog.2.1 8 = .ok (.invokevirtual 242, 3) := by decide +kernel
theorem dM_hasLog_11 : decode YM_hasLog.2.1 11 = .ok (.ireturn, 1) := by decide +kernel
theorem dM_fact_0 : decode YM_fact.2.1 0 = .ok (.aload_n 0, 1) := by decide +kernel
theorem dM_fact_1 : decode YM_fact.2.1 1 = .ok (.iconst 0, 1) := by decide +kernel
theorem dM_fact_2 : decode YM_fact.2.1 2 = .ok (.putfield 90, 3) := by decide +kernel
theorem dM_fact_5 : decode YM_fact.2.1 5 = .ok (.aload_n 0, 1) := by decide +kernel
theorem dM_fact_6 : decode YM_fact.2.1 6 = .ok (.iload_n 1, 1) := by decide +kernel
theorem dM_fact_7 : decode YM_fact.2.1 7 = .ok (.invokevirtual 435, 3) := by decide +kernel
theorem dM_fact_10 : decode YM_fact.2.1 10 = .ok (.ifCond .ne 6, 3) := by decide +kernel
theorem dM_fact_13 : decode YM_fact.2.1 13 = .ok (.bipush (-2), 2) := by decide +kernel
theorem dM_fact_15 : decode YM_fact.2.1 15 = .ok (.ireturn, 1) := by decide +kernel
theorem dM_fact_16 : decode YM_fact.2.1 16 = .ok (.iload_n 2, 1) := by decide +kernel
theorem dM_fact_17 : decode YM_fact.2.1 17 = .ok (.iconst (-1), 1) := by decide +kernel
theorem dM_fact_18 : decode YM_fact.2.1 18 = .ok (.if_icmp .ne 17, 3) := by decide +kernel
theorem dM_fact_21 : decode YM_fact.2.1 21 = .ok (.iload_n 3, 1) := by decide +kernel
theorem dM_fact_22 : decode YM_fact.2.1 22 = .ok (.ifCond .ne 10, 3) := by decide +kernel
theorem dM_fact_25 : decode YM_fact.2.1 25 = .ok (.aload_n 0, 1) := by decide +kernel
theorem dM_fact_26 : decode YM_fact.2.1 26 = .ok (.invokevirtual 438, 3) := by decide +kernel
theorem dM_fact_29 : decode YM_fact.2.1 29 = .ok (.goto 5, 3) := by decide +kernel
theorem dM_fact_32 : decode YM_fact.2.1 32 = .ok (.bipush (-2), 2) := by decide +kernel
theorem dM_fact_34 : decode YM_fact.2.1 34 = .ok (.ireturn, 1) := by decide +kernel
theorem dM_fact_35 : decode YM_fact.2.1 35 = .ok (.iload_n 2, 1) := by decide +kernel
theorem dM_fact_36 : decode YM_fact.2.1 36 = .ok (.iconst 0, 1) := by decide +kernel
theorem dM_fact_37 : decode YM_fact.2.1 37 = .ok (.aload_n 0, 1) := by decide +kernel
theorem dM_fact_38 : decode YM_fact.2.1 38 = .ok (.invokevirtual 438, 3) := by decide +kernel
theorem dM_fact_41 : decode YM_fact.2.1 41 = .ok (.iconst 1, 1) := by decide +kernel
theorem dM_fact_42 : decode YM_fact.2.1 42 = .ok (.isub, 1) := by decide +kernel
theorem dM_fact_43 : decode YM_fact.2.1 43 = .ok (.invokestatic 102, 3) := by decide +kernel
theorem dM_fact_46 : decode YM_fact.2.1 46 = .ok (.ifCond .eq 21, 3) := by decide +kernel
theorem dM_fact_49 : decode YM_fact.2.1 49 = .ok (.iload_n 3, 1) := by decide +kernel
theorem dM_fact_50 : decode YM_fact.2.1 50 = .ok (.iconst 0, 1) := by decide +kernel
theorem dM_fact_51 : decode YM_fact.2.1 51 = .ok (.iconst 1, 1) := by decide +kernel
theorem dM_fact_52 : decode YM_fact.2.1 52 = .ok (.invokestatic 102, 3) := by decide +kernel
theorem dM_fact_55 : decode YM_fact.2.1 55 = .ok (.ifCond .eq 12, 3) := by decide +kernel
theorem dM_fact_58 : decode YM_fact.2.1 58 = .ok (.aload_n 0, 1) := by decide +kernel
theorem dM_fact_59 : decode YM_fact.2.1 59 = .ok (.iload_n 2, 1) := by decide +kernel
theorem dM_fact_60 : decode YM_fact.2.1 60 = .ok (.iload_n 3, 1) := by decide +kernel
theorem dM_fact_61 : decode YM_fact.2.1 61 = .ok (.invokevirtual 441, 3) := by decide +kernel
theorem dM_fact_64 : decode YM_fact.2.1 64 = .ok (.goto 5, 3) := by decide +kernel
theorem dM_fact_67 : decode YM_fact.2.1 67 = .ok (.bipush (-2), 2) := by decide +kernel
theorem dM_fact_69 : decode YM_fact.2.1 69 = .ok (.ireturn, 1) := by decide +kernel
theorem dM_allCome_0 : decode YM_allCome.2.1 0 = .ok (.aload_n 0, 1) := by decide +kernel
theorem dM_allCome_1 : decode YM_allCome.2.1 1 = .ok (.invokevirtual 268, 3) := by decide +kernel
theorem dM_allCome_4 : decode YM_allCome.2.1 4 = .ok (.iconst 0, 1) := by decide +kernel
theorem dM_allCome_5 : decode YM_allCome.2.1 5 = .ok (.istore_n 2, 1) := by decide +kernel
theorem dM_allCome_6 : decode YM_allCome.2.1 6 = .ok (.iload_n 2, 1) := by decide +kernel
theorem dM_allCome_7 : decode YM_allCome.2.1 7 = .ok (.aload_n 0, 1) := by decide +kernel
theorem dM_allCome_8 : decode YM_allCome.2.1 8 = .ok (.getfield 262, 3) := by decide +kernel
theorem dM_allCome_11 : decode YM_allCome.2.1 11 = .ok (.if_icmp .ge 42, 3) := by decide +kernel
theorem dM_allCome_14 : decode YM_allCome.2.1 14 = .ok (.aload_n 0, 1) := by decide +kernel
theorem dM_allCome_15 : decode YM_allCome.2.1 15 = .ok (.iload_n 2, 1) := by decide +kernel
theorem dM_allCome_16 : decode YM_allCome.2.1 16 = .ok (.iload_n 1, 1) := by decide +kernel
theorem dM_allCome_17 : decode YM_allCome.2.1 17 = .ok (.bipush 99, 2) := by decide +kernel
theorem dM_allCome_19 : decode YM_allCome.2.1 19 = .ok (.if_icmp .ge 18, 3) := by decide +kernel
theorem dM_allCome_22 : decode YM_allCome.2.1 22 = .ok (.iload_n 1, 1) := by decide +kernel
theorem dM_allCome_23 : decode YM_allCome.2.1 23 = .ok (.bipush 10, 2) := by decide +kernel
theorem dM_allCome_25 : decode YM_allCome.2.1 25 = .ok (.irem, 1) := by decide +kernel
theorem dM_allCome_26 : decode YM_allCome.2.1 26 = .ok (.iload_n 2, 1) := by decide +kernel
theorem dM_allCome_27 : decode YM_allCome.2.1 27 = .ok (.if_icmp .ne 10, 3) := by decide +kernel
theorem dM_allCome_30 : decode YM_allCome.2.1 30 = .ok (.iload_n 1, 1) := by decide +kernel
theorem dM_allCome_31 : decode YM_allCome.2.1 31 = .ok (.bipush 10, 2) := by decide +kernel
theorem dM_allCome_33 : decode YM_allCome.2.1 33 = .ok (.idiv, 1) := by decide +kernel
theorem dM_allCome_34 : decode YM_allCome.2.1 34 = .ok (.goto 9, 3) := by decide +kernel
theorem dM_allCome_37 : decode YM_allCome.2.1 37 = .ok (.aload_n 0, 1) := by decide +kernel
theorem dM_allCome_38 : decode YM_allCome.2.1 38 = .ok (.getfield 41, 3) := by decide +kernel
theorem dM_allCome_41 : decode YM_allCome.2.1 41 = .ok (.iload_n 2, 1) := by decide +kernel
theorem dM_allCome_42 : decode YM_allCome.2.1 42 = .ok (.iaload, 1) := by decide +kernel
theorem dM_allCome_43 : decode YM_allCome.2.1 43 = .ok (.invokevirtual 316, 3) := by decide +kernel
theorem dM_allCome_46 : decode YM_allCome.2.1 46 = .ok (.pop, 1) := by decide +kernel
theorem dM_allCome_47 : decode YM_allCome.2.1 47 = .ok (.iinc 2 1, 3) := by decide +kernel
theorem dM_allCome_50 : decode YM_allCome.2.1 50 = .ok (.goto (-44), 3) := by decide +kernel
theorem dM_allCome_53 : decode YM_allCome.2.1 53 = .ok (.return_, 1) := by decide +kernel
theorem dM_isSo_0 : decode YM_isSo.2.1 0 = .ok (.aload_n 0, 1) := by decide +kernel
theorem dM_isSo_1 : decode YM_isSo.2.1 1 = .ok (.iload_n 1, 1) := by decide +kernel
theorem dM_isSo_2 : decode YM_isSo.2.1 2 = .ok (.invokevirtual 444, 3) := by decide +kernel
theorem dM_isSo_5 : decode YM_isSo.2.1 5 = .ok (.iconst 0, 1) := by decide +kernel
theorem dM_isSo_6 : decode YM_isSo.2.1 6 = .ok (.istore_n 2, 1) := by decide +kernel
theorem dM_isSo_7 : decode YM_isSo.2.1 7 = .ok (.iload_n 2, 1) := by decide +kernel
theorem dM_isSo_8 : decode YM_isSo.2.1 8 = .ok (.aload_n 0, 1) := by decide +kernel
theorem dM_isSo_9 : decode YM_isSo.2.1 9 = .ok (.invokevirtual 438, 3) := by decide +kernel
theorem dM_isSo_12 : decode YM_isSo.2.1 12 = .ok (.if_icmp .ge 31, 3) := by decide +kernel
theorem dM_isSo_15 : decode YM_isSo.2.1 15 = .ok (.aload_n 0, 1) := by decide +kernel
theorem dM_isSo_16 : decode YM_isSo.2.1 16 = .ok (.getfield 44, 3) := by decide +kernel
theorem dM_isSo_19 : decode YM_isSo.2.1 19 = .ok (.aload_n 0, 1) := by decide +kernel
theorem dM_isSo_20 : decode YM_isSo.2.1 20 = .ok (.iload_n 2, 1) := by decide +kernel
theorem dM_isSo_21 : decode YM_isSo.2.1 21 = .ok (.iconst 0, 1) := by decide +kernel
theorem dM_isSo_22 : decode YM_isSo.2.1 22 = .ok (.invokevirtual 441, 3) := by decide +kernel
theorem dM_isSo_25 : decode YM_isSo.2.1 25 = .ok (.iaload, 1) := by decide +kernel
theorem dM_isSo_26 : decode YM_isSo.2.1 26 = .ok (.aload_n 0, 1) := by decide +kernel
theorem dM_isSo_27 : decode YM_isSo.2.1 27 = .ok (.iload_n 2, 1) := by decide +kernel
theorem dM_isSo_28 : decode YM_isSo.2.1 28 = .ok (.iconst 1, 1) := by decide +kernel
theorem dM_isSo_29 : decode YM_isSo.2.1 29 = .ok (.invokevirtual 441, 3) := by decide +kernel
theorem dM_isSo_32 : decode YM_isSo.2.1 32 = .ok (.if_icmp .eq 5, 3) := by decide +kernel
theorem dM_isSo_35 : decode YM_isSo.2.1 35 = .ok (.iconst 0, 1) := by decide +kernel
theorem dM_isSo_36 : decode YM_isSo.2.1 36 = .ok (.ireturn, 1) := by decide +kernel
theorem dM_isSo_37 : decode YM_isSo.2.1 37 = .ok (.iinc 2 1, 3) := by decide +kernel
theorem dM_isSo_40 : decode YM_isSo.2.1 40 = .ok (.goto (-33), 3) := by decide +kernel
theorem dM_isSo_43 : decode YM_isSo.2.1 43 = .ok (.iconst 1, 1) := by decide +kernel
theorem dM_isSo_44 : decode YM_isSo.2.1 44 = .ok (.ireturn, 1) := by decide +kernel
theorem dM_layLog_0 : decode YM_layLog.2.1 0 = .ok (.aload_n 0, 1) := by decide +kernel
theorem dM_layLog_1 : decode YM_layLog.2.1 1 = .ok (.iload_n 2, 1) := by decide +kernel
theorem dM_layLog_2 : decode YM_layLog.2.1 2 = .ok (.invokevirtual 435, 3) := by decide +kernel
theorem dM_layLog_5 : decode YM_layLog.2.1 5 = .ok (.ifCond .eq 11, 3) := by decide +kernel
theorem dM_layLog_8 : decode YM_layLog.2.1 8 = .ok (.aload_n 0, 1) := by decide +kernel
theorem dM_layLog_9 : decode YM_layLog.2.1 9 = .ok (.iload_n 1, 1) := by decide +kernel
theorem dM_layLog_10 : decode YM_layLog.2.1 10 = .ok (.invokevirtual 277, 3) := by decide +kernel
theorem dM_layLog_13 : decode YM_layLog.2.1 13 = .ok (.ifCond .ne 5, 3) := by decide +kernel
theorem dM_layLog_16 : decode YM_layLog.2.1 16 = .ok (.iconst 0, 1) := by decide +kernel
theorem dM_layLog_17 : decode YM_layLog.2.1 17 = .ok (.ireturn, 1) := by decide +kernel
theorem dM_layLog_18 : decode YM_layLog.2.1 18 = .ok (.iconst 0, 1) := by decide +kernel
theorem dM_layLog_19 : decode YM_layLog.2.1 19 = .ok (.istore_n 3, 1) := by decide +kernel
theorem dM_layLog_20 : decode YM_layLog.2.1 20 = .ok (.iload_n 3, 1) := by decide +kernel
theorem dM_layLog_21 : decode YM_layLog.2.1 21 = .ok (.aload_n 0, 1) := by decide +kernel
