theorem dS_init_0 : decode YS_init.2.1 0 = .ok (.aload_n 0, 1) := by decide +kernel
theorem dS_init_1 : decode YS_init.2.1 1 = .ok (.invokespecial 1, 3) := by decide +kernel
theorem dS_init_4 : decode YS_init.2.1 4 = .ok (.aload_n 0, 1) := by decide +kernel
theorem dS_init_5 : decode YS_init.2.1 5 = .ok (.new 7, 3) := by decide +kernel
theorem dS_init_8 : decode YS_init.2.1 8 = .ok (.dup, 1) := by decide +kernel
theorem dS_init_9 : decode YS_init.2.1 9 = .ok (.invokespecial 9, 3) := by decide +kernel
theorem dS_init_12 : decode YS_init.2.1 12 = .ok (.putfield 10, 3) := by decide +kernel
theorem dS_init_15 : decode YS_init.2.1 15 = .ok (.aload_n 0, 1) := by decide +kernel
theorem dS_init_16 : decode YS_init.2.1 16 = .ok (.iconst 3, 1) := by decide +kernel
theorem dS_init_17 : decode YS_init.2.1 17 = .ok (.anewarray 7, 3) := by decide +kernel
theorem dS_init_20 : decode YS_init.2.1 20 = .ok (.putfield 16, 3) := by decide +kernel
theorem dS_init_23 : decode YS_init.2.1 23 = .ok (.aload_n 0, 1) := by decide +kernel
theorem dS_init_24 : decode YS_init.2.1 24 = .ok (.new 20, 3) := by decide +kernel
theorem dS_init_27 : decode YS_init.2.1 27 = .ok (.dup, 1) := by decide +kernel
theorem dS_init_28 : decode YS_init.2.1 28 = .ok (.invokespecial 22, 3) := by decide +kernel
theorem dS_init_31 : decode YS_init.2.1 31 = .ok (.putfield 23, 3) := by decide +kernel
theorem dS_init_34 : decode YS_init.2.1 34 = .ok (.aload_n 0, 1) := by decide +kernel
theorem dS_init_35 : decode YS_init.2.1 35 = .ok (.new 27, 3) := by decide +kernel
theorem dS_init_38 : decode YS_init.2.1 38 = .ok (.dup, 1) := by decide +kernel
theorem dS_init_39 : decode YS_init.2.1 39 = .ok (.invokespecial 29, 3) := by decide +kernel
theorem dS_init_42 : decode YS_init.2.1 42 = .ok (.putfield 30, 3) := by decide +kernel
theorem dS_init_45 : decode YS_init.2.1 45 = .ok (.aload_n 0, 1) := by decide +kernel
theorem dS_init_46 : decode YS_init.2.1 46 = .ok (.new 34, 3) := by decide +kernel
theorem dS_init_49 : decode YS_init.2.1 49 = .ok (.dup, 1) := by decide +kernel
theorem dS_init_50 : decode YS_init.2.1 50 = .ok (.invokespecial 36, 3) := by decide +kernel
theorem dS_init_53 : decode YS_init.2.1 53 = .ok (.putfield 37, 3) := by decide +kernel
theorem dS_init_56 : decode YS_init.2.1 56 = .ok (.aload_n 0, 1) := by decide +kernel
theorem dS_init_57 : decode YS_init.2.1 57 = .ok (.new 41, 3) := by decide +kernel
theorem dS_init_60 : decode YS_init.2.1 60 = .ok (.dup, 1) := by decide +kernel
theorem dS_init_61 : decode YS_init.2.1 61 = .ok (.invokespecial 43, 3) := by decide +kernel
theorem dS_init_64 : decode YS_init.2.1 64 = .ok (.putfield 44, 3) := by decide +kernel
theorem dS_init_67 : decode YS_init.2.1 67 = .ok (.aload_n 0, 1) := by decide +kernel
theorem dS_init_68 : decode YS_init.2.1 68 = .ok (.new 48, 3) := by decide +kernel
theorem dS_init_71 : decode YS_init.2.1 71 = .ok (.dup, 1) := by decide +kernel
theorem dS_init_72 : decode YS_init.2.1 72 = .ok (.invokespecial 50, 3) := by decide +kernel
theorem dS_init_75 : decode YS_init.2.1 75 = .ok (.putfield 51, 3) := by decide +kernel
theorem dS_init_78 : decode YS_init.2.1 78 = .ok (.aload_n 0, 1) := by decide +kernel
theorem dS_init_79 : decode YS_init.2.1 79 = .ok (.new 55, 3) := by decide +kernel
theorem dS_init_82 : decode YS_init.2.1 82 = .ok (.dup, 1) := by decide +kernel
theorem dS_init_83 : decode YS_init.2.1 83 = .ok (.invokespecial 57, 3) := by decide +kernel
theorem dS_init_86 : decode YS_init.2.1 86 = .ok (.putfield 58, 3) := by decide +kernel
theorem dS_init_89 : decode YS_init.2.1 89 = .ok (.aload_n 0, 1) := by decide +kernel
theorem dS_init_90 : decode YS_init.2.1 90 = .ok (.new 62, 3) := by decide +kernel
theorem dS_init_93 : decode YS_init.2.1 93 = .ok (.dup, 1) := by decide +kernel
theorem dS_init_94 : decode YS_init.2.1 94 = .ok (.invokespecial 64, 3) := by decide +kernel
theorem dS_init_97 : decode YS_init.2.1 97 = .ok (.putfield 65, 3) := by decide +kernel
theorem dS_init_100 : decode YS_init.2.1 100 = .ok (.return_, 1) := by decide +kernel
theorem dS_feed_0 : decode YS_feed.2.1 0 = .ok (.aload_n 0, 1) := by decide +kernel
theorem dS_feed_1 : decode YS_feed.2.1 1 = .ok (.getfield 10, 3) := by decide +kernel
theorem dS_feed_4 : decode YS_feed.2.1 4 = .ok (.getfield 69, 3) := by decide +kernel
theorem dS_feed_7 : decode YS_feed.2.1 7 = .ok (.bipush 20, 2) := by decide +kernel
theorem dS_feed_9 : decode YS_feed.2.1 9 = .ok (.iadd, 1) := by decide +kernel
theorem dS_feed_10 : decode YS_feed.2.1 10 = .ok (.sipush 600, 3) := by decide +kernel
theorem dS_feed_13 : decode YS_feed.2.1 13 = .ok (.if_icmp .le 5, 3) := by decide +kernel
theorem dS_feed_16 : decode YS_feed.2.1 16 = .ok (.iconst (-1), 1) := by decide +kernel
theorem dS_feed_17 : decode YS_feed.2.1 17 = .ok (.ireturn, 1) := by decide +kernel
theorem dS_feed_18 : decode YS_feed.2.1 18 = .ok (.aload_n 0, 1) := by decide +kernel
theorem dS_feed_19 : decode YS_feed.2.1 19 = .ok (.getfield 10, 3) := by decide +kernel
theorem dS_feed_22 : decode YS_feed.2.1 22 = .ok (.iload_n 1, 1) := by decide +kernel
theorem dS_feed_23 : decode YS_feed.2.1 23 = .ok (.invokevirtual 73, 3) := by decide +kernel
theorem dS_feed_26 : decode YS_feed.2.1 26 = .ok (.aload_n 0, 1) := by decide +kernel
theorem dS_feed_27 : decode YS_feed.2.1 27 = .ok (.getfield 10, 3) := by decide +kernel
theorem dS_feed_30 : decode YS_feed.2.1 30 = .ok (.iload_n 2, 1) := by decide +kernel
theorem dS_feed_31 : decode YS_feed.2.1 31 = .ok (.invokevirtual 73, 3) := by decide +kernel
theorem dS_feed_34 : decode YS_feed.2.1 34 = .ok (.aload_n 0, 1) := by decide +kernel
theorem dS_feed_35 : decode YS_feed.2.1 35 = .ok (.getfield 10, 3) := by decide +kernel
theorem dS_feed_38 : decode YS_feed.2.1 38 = .ok (.iload_n 3, 1) := by decide +kernel
theorem dS_feed_39 : decode YS_feed.2.1 39 = .ok (.invokevirtual 73, 3) := by decide +kernel
theorem dS_feed_42 : decode YS_feed.2.1 42 = .ok (.aload_n 0, 1) := by decide +kernel
theorem dS_feed_43 : decode YS_feed.2.1 43 = .ok (.getfield 10, 3) := by decide +kernel
theorem dS_feed_46 : decode YS_feed.2.1 46 = .ok (.iload 4, 2) := by decide +kernel
theorem dS_feed_48 : decode YS_feed.2.1 48 = .ok (.invokevirtual 73, 3) := by decide +kernel
theorem dS_feed_51 : decode YS_feed.2.1 51 = .ok (.aload_n 0, 1) := by decide +kernel
theorem dS_feed_52 : decode YS_feed.2.1 52 = .ok (.getfield 10, 3) := by decide +kernel
theorem dS_feed_55 : decode YS_feed.2.1 55 = .ok (.iload 5, 2) := by decide +kernel
theorem dS_feed_57 : decode YS_feed.2.1 57 = .ok (.invokevirtual 73, 3) := by decide +kernel
theorem dS_feed_60 : decode YS_feed.2.1 60 = .ok (.aload_n 0, 1) := by decide +kernel
theorem dS_feed_61 : decode YS_feed.2.1 61 = .ok (.getfield 10, 3) := by decide +kernel
theorem dS_feed_64 : decode YS_feed.2.1 64 = .ok (.getfield 69, 3) := by decide +kernel
theorem dS_feed_67 : decode YS_feed.2.1 67 = .ok (.ireturn, 1) := by decide +kernel
theorem dS_end_0 : decode YS_end.2.1 0 = .ok (.iload_n 1, 1) := by decide +kernel
theorem dS_end_1 : decode YS_end.2.1 1 = .ok (.ifCond .lt 14, 3) := by decide +kernel
theorem dS_end_4 : decode YS_end.2.1 4 = .ok (.iload_n 1, 1) := by decide +kernel
theorem dS_end_5 : decode YS_end.2.1 5 = .ok (.aload_n 0, 1) := by decide +kernel
theorem dS_end_6 : decode YS_end.2.1 6 = .ok (.getfield 10, 3) := by decide +kernel
theorem dS_end_9 : decode YS_end.2.1 9 = .ok (.getfield 69, 3) := by decide +kernel
theorem dS_end_12 : decode YS_end.2.1 12 = .ok (.if_icmp .le 5, 3) := by decide +kernel
theorem dS_end_15 : decode YS_end.2.1 15 = .ok (.iconst (-1), 1) := by decide +kernel
theorem dS_end_16 : decode YS_end.2.1 16 = .ok (.ireturn, 1) := by decide +kernel
theorem dS_end_17 : decode YS_end.2.1 17 = .ok (.aload_n 0, 1) := by decide +kernel
theorem dS_end_18 : decode YS_end.2.1 18 = .ok (.getfield 10, 3) := by decide +kernel
theorem dS_end_21 : decode YS_end.2.1 21 = .ok (.iload_n 1, 1) := by decide +kernel
theorem dS_end_22 : decode YS_end.2.1 22 = .ok (.putfield 69, 3) := by decide +kernel
theorem dS_end_25 : decode YS_end.2.1 25 = .ok (.iload_n 1, 1) := by decide +kernel
theorem dS_end_26 : decode YS_end.2.1 26 = .ok (.ireturn, 1) := by decide +kernel
theorem dS_text_0 : decode YS_text.2.1 0 = .ok (.aload_n 0, 1) := by decide +kernel
theorem dS_text_1 : decode YS_text.2.1 1 = .ok (.getfield 10, 3) := by decide +kernel
theorem dS_text_4 : decode YS_text.2.1 4 = .ok (.getfield 69, 3) := by decide +kernel
theorem dS_text_7 : decode YS_text.2.1 7 = .ok (.istore_n 3, 1) := by decide +kernel
theorem dS_text_8 : decode YS_text.2.1 8 = .ok (.aload_n 0, 1) := by decide +kernel
theorem dS_text_9 : decode YS_text.2.1 9 = .ok (.getfield 10, 3) := by decide +kernel
theorem dS_text_12 : decode YS_text.2.1 12 = .ok (.iconst 0, 1) := by decide +kernel
theorem dS_text_13 : decode YS_text.2.1 13 = .ok (.putfield 69, 3) := by decide +kernel
theorem dS_text_16 : decode YS_text.2.1 16 = .ok (.aload_n 0, 1) := by decide +kernel
theorem dS_text_17 : decode YS_text.2.1 17 = .ok (.getfield 10, 3) := by decide +kernel
theorem dS_text_20 : decode YS_text.2.1 20 = .ok (.iconst 0, 1) := by decide +kernel
theorem dS_text_21 : decode YS_text.2.1 21 = .ok (.putfield 77, 3) := by decide +kernel
theorem dS_text_24 : decode YS_text.2.1 24 = .ok (.aload_n 0, 1) := by decide +kernel
theorem dS_text_25 : decode YS_text.2.1 25 = .ok (.getfield 10, 3) := by decide +kernel
theorem dS_text_28 : decode YS_text.2.1 28 = .ok (.iconst (-1), 1) := by decide +kernel
theorem dS_text_29 : decode YS_text.2.1 29 = .ok (.putfield 80, 3) := by decide +kernel
theorem dS_text_32 : decode YS_text.2.1 32 = .ok (.aload_n 0, 1) := by decide +kernel
theorem dS_text_33 : decode YS_text.2.1 33 = .ok (.getfield 10, 3) := by decide +kernel
theorem dS_text_36 : decode YS_text.2.1 36 = .ok (.iload_n 1, 1) := by decide +kernel
theorem dS_text_37 : decode YS_text.2.1 37 = .ok (.iload_n 2, 1) := by decide +kernel
theorem dS_text_38 : decode YS_text.2.1 38 = .ok (.invokevirtual 83, 3) := by decide +kernel
theorem dS_text_41 : decode YS_text.2.1 41 = .ok (.ifCond .ne 6, 3) := by decide +kernel
theorem dS_text_44 : decode YS_text.2.1 44 = .ok (.bipush (-2), 2) := by decide +kernel
theorem dS_text_46 : decode YS_text.2.1 46 = .ok (.ireturn, 1) := by decide +kernel
theorem dS_text_47 : decode YS_text.2.1 47 = .ok (.aload_n 0, 1) := by decide +kernel
theorem dS_text_48 : decode YS_text.2.1 48 = .ok (.getfield 23, 3) := by decide +kernel
theorem dS_text_51 : decode YS_text.2.1 51 = .ok (.iload_n 1, 1) := by decide +kernel
theorem dS_text_52 : decode YS_text.2.1 52 = .ok (.aload_n 0, 1) := by decide +kernel
theorem dS_text_53 : decode YS_text.2.1 53 = .ok (.getfield 10, 3) := by decide +kernel
theorem dS_text_56 : decode YS_text.2.1 56 = .ok (.getfield 87, 3) := by decide +kernel
theorem dS_text_59 : decode YS_text.2.1 59 = .ok (.iload_n 3, 1) := by decide +kernel
theorem dS_text_60 : decode YS_text.2.1 60 = .ok (.invokevirtual 91, 3) := by decide +kernel
theorem dS_text_63 : decode YS_text.2.1 63 = .ok (.aload_n 0, 1) := by decide +kernel
theorem dS_text_64 : decode YS_text.2.1 64 = .ok (.getfield 10, 3) := by decide +kernel
theorem dS_text_67 : decode YS_text.2.1 67 = .ok (.aload_n 0, 1) := by decide +kernel
theorem dS_text_68 : decode YS_text.2.1 68 = .ok (.getfield 23, 3) := by decide +kernel
theorem dS_text_71 : decode YS_text.2.1 71 = .ok (.getfield 95, 3) := by decide +kernel
theorem dS_text_74 : decode YS_text.2.1 74 = .ok (.putfield 77, 3) := by decide +kernel
theorem dS_text_77 : decode YS_text.2.1 77 = .ok (.aload_n 0, 1) := by decide +kernel
theorem dS_text_78 : decode YS_text.2.1 78 = .ok (.getfield 10, 3) := by decide +kernel
theorem dS_text_81 : decode YS_text.2.1 81 = .ok (.aload_n 0, 1) := by decide +kernel
theorem dS_text_82 : decode YS_text.2.1 82 = .ok (.getfield 23, 3) := by decide +kernel
theorem dS_text_85 : decode YS_text.2.1 85 = .ok (.getfield 96, 3) := by decide +kernel
theorem dS_text_88 : decode YS_text.2.1 88 = .ok (.putfield 80, 3) := by decide +kernel
theorem dS_text_91 : decode YS_text.2.1 91 = .ok (.aload_n 0, 1) := by decide +kernel
theorem dS_text_92 : decode YS_text.2.1 92 = .ok (.getfield 10, 3) := by decide +kernel
theorem dS_text_95 : decode YS_text.2.1 95 = .ok (.getfield 77, 3) := by decide +kernel
theorem dS_text_98 : decode YS_text.2.1 98 = .ok (.ifCond .eq 5, 3) := by decide +kernel
theorem dS_text_101 : decode YS_text.2.1 101 = .ok (.iconst (-1), 1) := by decide +kernel
theorem dS_text_102 : decode YS_text.2.1 102 = .ok (.ireturn, 1) := by decide +kernel
theorem dS_text_103 : decode YS_text.2.1 103 = .ok (.aload_n 0, 1) := by decide +kernel
theorem dS_text_104 : decode YS_text.2.1 104 = .ok (.getfield 10, 3) := by decide +kernel
theorem dS_text_107 : decode YS_text.2.1 107 = .ok (.iload_n 1, 1) := by decide +kernel
theorem dS_text_108 : decode YS_text.2.1 108 = .ok (.iload_n 2, 1) := by decide +kernel
theorem dS_text_109 : decode YS_text.2.1 109 = .ok (.aload_n 0, 1) := by decide +kernel
theorem dS_text_110 : decode YS_text.2.1 110 = .ok (.getfield 23, 3) := by decide +kernel
theorem dS_text_113 : decode YS_text.2.1 113 = .ok (.invokevirtual 97, 3) := by decide +kernel
theorem dS_text_116 : decode YS_text.2.1 116 = .ok (.ireturn, 1) := by decide +kernel
theorem dS_fault_0 : decode YS_fault.2.1 0 = .ok (.iload_n 1, 1) := by decide +kernel
theorem dS_fault_1 : decode YS_fault.2.1 1 = .ok (.ifCond .ne 11, 3) := by decide +kernel
theorem dS_fault_4 : decode YS_fault.2.1 4 = .ok (.aload_n 0, 1) := by decide +kernel
theorem dS_fault_5 : decode YS_fault.2.1 5 = .ok (.getfield 10, 3) := by decide +kernel
theorem dS_fault_8 : decode YS_fault.2.1 8 = .ok (.getfield 77, 3) := by decide +kernel
theorem dS_fault_11 : decode YS_fault.2.1 11 = .ok (.ireturn, 1) := by decide +kernel
theorem dS_fault_12 : decode YS_fault.2.1 12 = .ok (.iload_n 1, 1) := by decide +kernel
theorem dS_fault_13 : decode YS_fault.2.1 13 = .ok (.iconst 1, 1) := by decide +kernel
theorem dS_fault_14 : decode YS_fault.2.1 14 = .ok (.if_icmp .ne 13, 3) := by decide +kernel
theorem dS_fault_17 : decode YS_fault.2.1 17 = .ok (.aload_n 0, 1) := by decide +kernel
theorem dS_fault_18 : decode YS_fault.2.1 18 = .ok (.getfield 10, 3) := by decide +kernel
theorem dS_fault_21 : decode YS_fault.2.1 21 = .ok (.getfield 80, 3) := by decide +kernel
theorem dS_fault_24 : decode YS_fault.2.1 24 = .ok (.goto 4, 3) := by decide +kernel
theorem dS_fault_27 : decode YS_fault.2.1 27 = .ok (.iconst (-1), 1) := by decide +kernel
theorem dS_fault_28 : decode YS_fault.2.1 28 = .ok (.ireturn, 1) := by decide +kernel
theorem dS_office_0 : decode YS_office.2.1 0 = .ok (.aload_n 0, 1) := by decide +kernel
theorem dS_office_1 : decode YS_office.2.1 1 = .ok (.getfield 10, 3) := by decide +kernel
theorem dS_office_4 : decode YS_office.2.1 4 = .ok (.iload_n 1, 1) := by decide +kernel
theorem dS_office_5 : decode YS_office.2.1 5 = .ok (.invokevirtual 101, 3) := by decide +kernel
theorem dS_office_8 : decode YS_office.2.1 8 = .ok (.astore_n 3, 1) := by decide +kernel
theorem dS_office_9 : decode YS_office.2.1 9 = .ok (.aload_n 3, 1) := by decide +kernel
theorem dS_office_10 : decode YS_office.2.1 10 = .ok (.ifnonnull 8, 3) := by decide +kernel
theorem dS_office_13 : decode YS_office.2.1 13 = .ok (.bipush (-2), 2) := by decide +kernel
theorem dS_office_15 : decode YS_office.2.1 15 = .ok (.goto 8, 3) := by decide +kernel
theorem dS_office_18 : decode YS_office.2.1 18 = .ok (.aload_n 3, 1) := by decide +kernel
theorem dS_office_19 : decode YS_office.2.1 19 = .ok (.iload_n 2, 1) := by decide +kernel
theorem dS_office_20 : decode YS_office.2.1 20 = .ok (.invokevirtual 105, 3) := by decide +kernel
theorem dS_office_23 : decode YS_office.2.1 23 = .ok (.ireturn, 1) := by decide +kernel
theorem dS_doing_0 : decode YS_doing.2.1 0 = .ok (.aload_n 0, 1) := by decide +kernel
theorem dS_doing_1 : decode YS_doing.2.1 1 = .ok (.getfield 10, 3) := by decide +kernel
theorem dS_doing_4 : decode YS_doing.2.1 4 = .ok (.iload_n 1, 1) := by decide +kernel
theorem dS_doing_5 : decode YS_doing.2.1 5 = .ok (.invokevirtual 101, 3) := by decide +kernel
theorem dS_doing_8 : decode YS_doing.2.1 8 = .ok (.astore 4, 2) := by decide +kernel
theorem dS_doing_10 : decode YS_doing.2.1 10 = .ok (.aload 4, 2) := by decide +kernel
theorem dS_doing_12 : decode YS_doing.2.1 12 = .ok (.ifnull 22, 3) := by decide +kernel
theorem dS_doing_15 : decode YS_doing.2.1 15 = .ok (.aload 4, 2) := by decide +kernel
theorem dS_doing_17 : decode YS_doing.2.1 17 = .ok (.iload_n 2, 1) := by decide +kernel
theorem dS_doing_18 : decode YS_doing.2.1 18 = .ok (.invokevirtual 111, 3) := by decide +kernel
theorem dS_doing_21 : decode YS_doing.2.1 21 = .ok (.ifCond .eq 13, 3) := by decide +kernel
theorem dS_doing_24 : decode YS_doing.2.1 24 = .ok (.iload_n 3, 1) := by decide +kernel
theorem dS_doing_25 : decode YS_doing.2.1 25 = .ok (.iconst (-1), 1) := by decide +kernel
theorem dS_doing_26 : decode YS_doing.2.1 26 = .ok (.if_icmp .lt 8, 3) := by decide +kernel
theorem dS_doing_29 : decode YS_doing.2.1 29 = .ok (.iload_n 3, 1) := by decide +kernel
theorem dS_doing_30 : decode YS_doing.2.1 30 = .ok (.iconst 4, 1) := by decide +kernel
theorem dS_doing_31 : decode YS_doing.2.1 31 = .ok (.if_icmp .lt 7, 3) := by decide +kernel
theorem dS_doing_34 : decode YS_doing.2.1 34 = .ok (.sipush (-1000), 3) := by decide +kernel
theorem dS_doing_37 : decode YS_doing.2.1 37 = .ok (.ireturn, 1) := by decide +kernel
theorem dS_doing_38 : decode YS_doing.2.1 38 = .ok (.aload 4, 2) := by decide +kernel
theorem dS_doing_40 : decode YS_doing.2.1 40 = .ok (.iload_n 2, 1) := by decide +kernel
theorem dS_doing_41 : decode YS_doing.2.1 41 = .ok (.iload_n 3, 1) := by decide +kernel
theorem dS_doing_42 : decode YS_doing.2.1 42 = .ok (.invokevirtual 115, 3) := by decide +kernel
theorem dS_doing_45 : decode YS_doing.2.1 45 = .ok (.ireturn, 1) := by decide +kernel
theorem dS_deed_0 : decode YS_deed.2.1 0 = .ok (.aload_n 0, 1) := by decide +kernel
theorem dS_deed_1 : decode YS_deed.2.1 1 = .ok (.getfield 10, 3) := by decide +kernel
theorem dS_deed_4 : decode YS_deed.2.1 4 = .ok (.iload_n 1, 1) := by decide +kernel
theorem dS_deed_5 : decode YS_deed.2.1 5 = .ok (.invokevirtual 119, 3) := by decide +kernel
theorem dS_deed_8 : decode YS_deed.2.1 8 = .ok (.astore 4, 2) := by decide +kernel
theorem dS_deed_10 : decode YS_deed.2.1 10 = .ok (.aload 4, 2) := by decide +kernel
theorem dS_deed_12 : decode YS_deed.2.1 12 = .ok (.ifnonnull 8, 3) := by decide +kernel
theorem dS_deed_15 : decode YS_deed.2.1 15 = .ok (.bipush (-2), 2) := by decide +kernel
theorem dS_deed_17 : decode YS_deed.2.1 17 = .ok (.goto 10, 3) := by decide +kernel
theorem dS_deed_20 : decode YS_deed.2.1 20 = .ok (.aload 4, 2) := by decide +kernel
theorem dS_deed_22 : decode YS_deed.2.1 22 = .ok (.iload_n 2, 1) := by decide +kernel
theorem dS_deed_23 : decode YS_deed.2.1 23 = .ok (.iload_n 3, 1) := by decide +kernel
theorem dS_deed_24 : decode YS_deed.2.1 24 = .ok (.invokevirtual 123, 3) := by decide +kernel
theorem dS_deed_27 : decode YS_deed.2.1 27 = .ok (.ireturn, 1) := by decide +kernel
theorem dS_till_0 : decode YS_till.2.1 0 = .ok (.aload_n 0, 1) := by decide +kernel
theorem dS_till_1 : decode YS_till.2.1 1 = .ok (.getfield 10, 3) := by decide +kernel
theorem dS_till_4 : decode YS_till.2.1 4 = .ok (.iload_n 1, 1) := by decide +kernel
theorem dS_till_5 : decode YS_till.2.1 5 = .ok (.invokevirtual 101, 3) := by decide +kernel
theorem dS_till_8 : decode YS_till.2.1 8 = .ok (.astore_n 3, 1) := by decide +kernel
theorem dS_till_9 : decode YS_till.2.1 9 = .ok (.aload_n 0, 1) := by decide +kernel
theorem dS_till_10 : decode YS_till.2.1 10 = .ok (.getfield 10, 3) := by decide +kernel
theorem dS_till_13 : decode YS_till.2.1 13 = .ok (.iload_n 2, 1) := by decide +kernel
theorem dS_till_14 : decode YS_till.2.1 14 = .ok (.invokevirtual 119, 3) := by decide +kernel
theorem dS_till_17 : decode YS_till.2.1 17 = .ok (.astore 4, 2) := by decide +kernel
theorem dS_till_19 : decode YS_till.2.1 19 = .ok (.aload_n 3, 1) := by decide +kernel
theorem dS_till_20 : decode YS_till.2.1 20 = .ok (.ifnull 8, 3) := by decide +kernel
theorem dS_till_23 : decode YS_till.2.1 23 = .ok (.aload 4, 2) := by decide +kernel
theorem dS_till_25 : decode YS_till.2.1 25 = .ok (.ifnonnull 5, 3) := by decide +kernel
theorem dS_till_28 : decode YS_till.2.1 28 = .ok (.iconst (-1), 1) := by decide +kernel
theorem dS_till_29 : decode YS_till.2.1 29 = .ok (.ireturn, 1) := by decide +kernel
theorem dS_till_30 : decode YS_till.2.1 30 = .ok (.aload_n 0, 1) := by decide +kernel
theorem dS_till_31 : decode YS_till.2.1 31 = .ok (.getfield 30, 3) := by decide +kernel
theorem dS_till_34 : decode YS_till.2.1 34 = .ok (.aload_n 3, 1) := by decide +kernel
theorem dS_till_35 : decode YS_till.2.1 35 = .ok (.aload 4, 2) := by decide +kernel
theorem dS_till_37 : decode YS_till.2.1 37 = .ok (.aload 4, 2) := by decide +kernel
theorem dS_till_39 : decode YS_till.2.1 39 = .ok (.getfield 127, 3) := by decide +kernel
theorem dS_till_42 : decode YS_till.2.1 42 = .ok (.invokevirtual 130, 3) := by decide +kernel
theorem dS_till_45 : decode YS_till.2.1 45 = .ok (.ireturn, 1) := by decide +kernel
theorem dS_state_0 : decode YS_state.2.1 0 = .ok (.aload_n 0, 1) := by decide +kernel
theorem dS_state_1 : decode YS_state.2.1 1 = .ok (.getfield 10, 3) := by decide +kernel
theorem dS_state_4 : decode YS_state.2.1 4 = .ok (.iload_n 1, 1) := by decide +kernel
theorem dS_state_5 : decode YS_state.2.1 5 = .ok (.invokevirtual 101, 3) := by decide +kernel
theorem dS_state_8 : decode YS_state.2.1 8 = .ok (.astore 5, 2) := by decide +kernel
theorem dS_state_10 : decode YS_state.2.1 10 = .ok (.aload_n 0, 1) := by decide +kernel
theorem dS_state_11 : decode YS_state.2.1 11 = .ok (.getfield 10, 3) := by decide +kernel
theorem dS_state_14 : decode YS_state.2.1 14 = .ok (.iload_n 2, 1) := by decide +kernel
theorem dS_state_15 : decode YS_state.2.1 15 = .ok (.invokevirtual 119, 3) := by decide +kernel
theorem dS_state_18 : decode YS_state.2.1 18 = .ok (.astore 6, 2) := by decide +kernel
theorem dS_state_20 : decode YS_state.2.1 20 = .ok (.aload 5, 2) := by decide +kernel
theorem dS_state_22 : decode YS_state.2.1 22 = .ok (.ifnull 21, 3) := by decide +kernel
theorem dS_state_25 : decode YS_state.2.1 25 = .ok (.aload 6, 2) := by decide +kernel
theorem dS_state_27 : decode YS_state.2.1 27 = .ok (.ifnull 16, 3) := by decide +kernel
theorem dS_state_30 : decode YS_state.2.1 30 = .ok (.iload_n 3, 1) := by decide +kernel
theorem dS_state_31 : decode YS_state.2.1 31 = .ok (.ifCond .lt 12, 3) := by decide +kernel
theorem dS_state_34 : decode YS_state.2.1 34 = .ok (.iload_n 3, 1) := by decide +kernel
theorem dS_state_35 : decode YS_state.2.1 35 = .ok (.aload 6, 2) := by decide +kernel
theorem dS_state_37 : decode YS_state.2.1 37 = .ok (.getfield 127, 3) := by decide +kernel
theorem dS_state_40 : decode YS_state.2.1 40 = .ok (.if_icmp .le 7, 3) := by decide +kernel
theorem dS_state_43 : decode YS_state.2.1 43 = .ok (.sipush (-1000), 3) := by decide +kernel
theorem dS_state_46 : decode YS_state.2.1 46 = .ok (.ireturn, 1) := by decide +kernel
theorem dS_state_47 : decode YS_state.2.1 47 = .ok (.aload_n 0, 1) := by decide +kernel
theorem dS_state_48 : decode YS_state.2.1 48 = .ok (.getfield 30, 3) := by decide +kernel
theorem dS_state_51 : decode YS_state.2.1 51 = .ok (.aload 5, 2) := by decide +kernel
theorem dS_state_53 : decode YS_state.2.1 53 = .ok (.aload 6, 2) := by decide +kernel
theorem dS_state_55 : decode YS_state.2.1 55 = .ok (.iload_n 3, 1) := by decide +kernel
theorem dS_state_56 : decode YS_state.2.1 56 = .ok (.invokevirtual 130, 3) := by decide +kernel
theorem dS_state_59 : decode YS_state.2.1 59 = .ok (.iload_n 3, 1) := by decide +kernel
theorem dS_state_60 : decode YS_state.2.1 60 = .ok (.if_icmp .ge 9, 3) := by decide +kernel
theorem dS_state_63 : decode YS_state.2.1 63 = .ok (.sipush (-1000), 3) := by decide +kernel
theorem dS_state_66 : decode YS_state.2.1 66 = .ok (.goto 12, 3) := by decide +kernel
theorem dS_state_69 : decode YS_state.2.1 69 = .ok (.aload_n 0, 1) := by decide +kernel
theorem dS_state_70 : decode YS_state.2.1 70 = .ok (.getfield 30, 3) := by decide +kernel
theorem dS_state_73 : decode YS_state.2.1 73 = .ok (.iload 4, 2) := by decide +kernel
theorem dS_state_75 : decode YS_state.2.1 75 = .ok (.invokevirtual 134, 3) := by decide +kernel
theorem dS_state_78 : decode YS_state.2.1 78 = .ok (.ireturn, 1) := by decide +kernel
theorem dS_order_0 : decode YS_order.2.1 0 = .ok (.aload_n 0, 1) := by decide +kernel
theorem dS_order_1 : decode YS_order.2.1 1 = .ok (.getfield 10, 3) := by decide +kernel
theorem dS_order_4 : decode YS_order.2.1 4 = .ok (.iload_n 1, 1) := by decide +kernel
theorem dS_order_5 : decode YS_order.2.1 5 = .ok (.invokevirtual 101, 3) := by decide +kernel
theorem dS_order_8 : decode YS_order.2.1 8 = .ok (.astore 5, 2) := by decide +kernel
theorem dS_order_10 : decode YS_order.2.1 10 = .ok (.aload 5, 2) := by decide +kernel
theorem dS_order_12 : decode YS_order.2.1 12 = .ok (.ifnull 25, 3) := by decide +kernel
theorem dS_order_15 : decode YS_order.2.1 15 = .ok (.aload 5, 2) := by decide +kernel
theorem dS_order_17 : decode YS_order.2.1 17 = .ok (.iload_n 2, 1) := by decide +kernel
theorem dS_order_18 : decode YS_order.2.1 18 = .ok (.invokevirtual 135, 3) := by decide +kernel
theorem dS_order_21 : decode YS_order.2.1 21 = .ok (.ifCond .eq 16, 3) := by decide +kernel
theorem dS_order_24 : decode YS_order.2.1 24 = .ok (.iload 4, 2) := by decide +kernel
theorem dS_order_26 : decode YS_order.2.1 26 = .ok (.iconst (-1), 1) := by decide +kernel
theorem dS_order_27 : decode YS_order.2.1 27 = .ok (.if_icmp .lt 10, 3) := by decide +kernel
theorem dS_order_30 : decode YS_order.2.1 30 = .ok (.iload 4, 2) := by decide +kernel
theorem dS_order_32 : decode YS_order.2.1 32 = .ok (.bipush 10, 2) := by decide +kernel
theorem dS_order_34 : decode YS_order.2.1 34 = .ok (.if_icmp .lt 7, 3) := by decide +kernel
theorem dS_order_37 : decode YS_order.2.1 37 = .ok (.sipush (-1000), 3) := by decide +kernel
theorem dS_order_40 : decode YS_order.2.1 40 = .ok (.ireturn, 1) := by decide +kernel
theorem dS_order_41 : decode YS_order.2.1 41 = .ok (.aload_n 0, 1) := by decide +kernel
theorem dS_order_42 : decode YS_order.2.1 42 = .ok (.getfield 37, 3) := by decide +kernel
theorem dS_order_45 : decode YS_order.2.1 45 = .ok (.aload 5, 2) := by decide +kernel
theorem dS_order_47 : decode YS_order.2.1 47 = .ok (.iload_n 2, 1) := by decide +kernel
theorem dS_order_48 : decode YS_order.2.1 48 = .ok (.iconst (-1), 1) := by decide +kernel
theorem dS_order_49 : decode YS_order.2.1 49 = .ok (.iload_n 3, 1) := by decide +kernel
theorem dS_order_50 : decode YS_order.2.1 50 = .ok (.invokevirtual 138, 3) := by decide +kernel
theorem dS_order_53 : decode YS_order.2.1 53 = .ok (.istore 6, 2) := by decide +kernel
theorem dS_order_55 : decode YS_order.2.1 55 = .ok (.iload 4, 2) := by decide +kernel
theorem dS_order_57 : decode YS_order.2.1 57 = .ok (.iconst (-1), 1) := by decide +kernel
theorem dS_order_58 : decode YS_order.2.1 58 = .ok (.if_icmp .ne 8, 3) := by decide +kernel
theorem dS_order_61 : decode YS_order.2.1 61 = .ok (.iload 6, 2) := by decide +kernel
theorem dS_order_63 : decode YS_order.2.1 63 = .ok (.goto 12, 3) := by decide +kernel
theorem dS_order_66 : decode YS_order.2.1 66 = .ok (.aload_n 0, 1) := by decide +kernel
theorem dS_order_67 : decode YS_order.2.1 67 = .ok (.getfield 37, 3) := by decide +kernel
theorem dS_order_70 : decode YS_order.2.1 70 = .ok (.iload 4, 2) := by decide +kernel
theorem dS_order_72 : decode YS_order.2.1 72 = .ok (.invokevirtual 142, 3) := by decide +kernel
theorem dS_order_75 : decode YS_order.2.1 75 = .ok (.ireturn, 1) := by decide +kernel
theorem dS_mean_0 : decode YS_mean.2.1 0 = .ok (.aload_n 0, 1) := by decide +kernel
theorem dS_mean_1 : decode YS_mean.2.1 1 = .ok (.getfield 10, 3) := by decide +kernel
theorem dS_mean_4 : decode YS_mean.2.1 4 = .ok (.iload_n 1, 1) := by decide +kernel
theorem dS_mean_5 : decode YS_mean.2.1 5 = .ok (.invokevirtual 101, 3) := by decide +kernel
theorem dS_mean_8 : decode YS_mean.2.1 8 = .ok (.astore 4, 2) := by decide +kernel
theorem dS_mean_10 : decode YS_mean.2.1 10 = .ok (.aload 4, 2) := by decide +kernel
theorem dS_mean_12 : decode YS_mean.2.1 12 = .ok (.ifnull 12, 3) := by decide +kernel
theorem dS_mean_15 : decode YS_mean.2.1 15 = .ok (.aload 4, 2) := by decide +kernel
theorem dS_mean_17 : decode YS_mean.2.1 17 = .ok (.iload_n 2, 1) := by decide +kernel
theorem dS_mean_18 : decode YS_mean.2.1 18 = .ok (.invokevirtual 135, 3) := by decide +kernel
theorem dS_mean_21 : decode YS_mean.2.1 21 = .ok (.ifCond .ne 7, 3) := by decide +kernel
theorem dS_mean_24 : decode YS_mean.2.1 24 = .ok (.ldc2_w 145, 3) := by decide +kernel
theorem dS_mean_27 : decode YS_mean.2.1 27 = .ok (.lreturn, 1) := by decide +kernel
theorem dS_mean_28 : decode YS_mean.2.1 28 = .ok (.aload_n 0, 1) := by decide +kernel
theorem dS_mean_29 : decode YS_mean.2.1 29 = .ok (.getfield 65, 3) := by decide +kernel
theorem dS_mean_32 : decode YS_mean.2.1 32 = .ok (.aload 4, 2) := by decide +kernel
theorem dS_mean_34 : decode YS_mean.2.1 34 = .ok (.iload_n 2, 1) := by decide +kernel
theorem dS_mean_35 : decode YS_mean.2.1 35 = .ok (.invokevirtual 147, 3) := by decide +kernel
theorem dS_mean_38 : decode YS_mean.2.1 38 = .ok (.aload_n 0, 1) := by decide +kernel
theorem dS_mean_39 : decode YS_mean.2.1 39 = .ok (.getfield 65, 3) := by decide +kernel
theorem dS_mean_42 : decode YS_mean.2.1 42 = .ok (.iload_n 3, 1) := by decide +kernel
theorem dS_mean_43 : decode YS_mean.2.1 43 = .ok (.invokevirtual 151, 3) := by decide +kernel
theorem dS_mean_46 : decode YS_mean.2.1 46 = .ok (.lreturn, 1) := by decide +kernel
theorem dS_spared_0 : decode YS_spared.2.1 0 = .ok (.aload_n 0, 1) := by decide +kernel
theorem dS_spared_1 : decode YS_spared.2.1 1 = .ok (.getfield 10, 3) := by decide +kernel
theorem dS_spared_4 : decode YS_spared.2.1 4 = .ok (.iload_n 1, 1) := by decide +kernel
theorem dS_spared_5 : decode YS_spared.2.1 5 = .ok (.invokevirtual 101, 3) := by decide +kernel
theorem dS_spared_8 : decode YS_spared.2.1 8 = .ok (.astore 6, 2) := by decide +kernel
theorem dS_spared_10 : decode YS_spared.2.1 10 = .ok (.aload 6, 2) := by decide +kernel
theorem dS_spared_12 : decode YS_spared.2.1 12 = .ok (.ifnull 12, 3) := by decide +kernel
theorem dS_spared_15 : decode YS_spared.2.1 15 = .ok (.aload 6, 2) := by decide +kernel
theorem dS_spared_17 : decode YS_spared.2.1 17 = .ok (.iload_n 2, 1) := by decide +kernel
theorem dS_spared_18 : decode YS_spared.2.1 18 = .ok (.invokevirtual 135, 3) := by decide +kernel
theorem dS_spared_21 : decode YS_spared.2.1 21 = .ok (.ifCond .ne 7, 3) := by decide +kernel
theorem dS_spared_24 : decode YS_spared.2.1 24 = .ok (.ldc2_w 154, 3) := by decide +kernel
theorem dS_spared_27 : decode YS_spared.2.1 27 = .ok (.lreturn, 1) := by decide +kernel
theorem dS_spared_28 : decode YS_spared.2.1 28 = .ok (.iload_n 3, 1) := by decide +kernel
theorem dS_spared_29 : decode YS_spared.2.1 29 = .ok (.ifCond .lt 21, 3) := by decide +kernel
theorem dS_spared_32 : decode YS_spared.2.1 32 = .ok (.iload_n 3, 1) := by decide +kernel
theorem dS_spared_33 : decode YS_spared.2.1 33 = .ok (.bipush 10, 2) := by decide +kernel
theorem dS_spared_35 : decode YS_spared.2.1 35 = .ok (.if_icmp .gt 15, 3) := by decide +kernel
theorem dS_spared_38 : decode YS_spared.2.1 38 = .ok (.iload 4, 2) := by decide +kernel
theorem dS_spared_40 : decode YS_spared.2.1 40 = .ok (.ifCond .lt 10, 3) := by decide +kernel
theorem dS_spared_43 : decode YS_spared.2.1 43 = .ok (.iload 4, 2) := by decide +kernel
theorem dS_spared_45 : decode YS_spared.2.1 45 = .ok (.bipush 99, 2) := by decide +kernel
theorem dS_spared_47 : decode YS_spared.2.1 47 = .ok (.if_icmp .le 7, 3) := by decide +kernel
theorem dS_spared_50 : decode YS_spared.2.1 50 = .ok (.ldc2_w 154, 3) := by decide +kernel
theorem dS_spared_53 : decode YS_spared.2.1 53 = .ok (.lreturn, 1) := by decide +kernel
theorem dS_spared_54 : decode YS_spared.2.1 54 = .ok (.aload_n 0, 1) := by decide +kernel
theorem dS_spared_55 : decode YS_spared.2.1 55 = .ok (.getfield 65, 3) := by decide +kernel
theorem dS_spared_58 : decode YS_spared.2.1 58 = .ok (.aload 6, 2) := by decide +kernel
theorem dS_spared_60 : decode YS_spared.2.1 60 = .ok (.iload_n 2, 1) := by decide +kernel
theorem dS_spared_61 : decode YS_spared.2.1 61 = .ok (.iload_n 3, 1) := by decide +kernel
theorem dS_spared_62 : decode YS_spared.2.1 62 = .ok (.iload 4, 2) := by decide +kernel
theorem dS_spared_64 : decode YS_spared.2.1 64 = .ok (.invokevirtual 156, 3) := by decide +kernel
theorem dS_spared_67 : decode YS_spared.2.1 67 = .ok (.aload_n 0, 1) := by decide +kernel
theorem dS_spared_68 : decode YS_spared.2.1 68 = .ok (.getfield 65, 3) := by decide +kernel
theorem dS_spared_71 : decode YS_spared.2.1 71 = .ok (.iload 5, 2) := by decide +kernel
theorem dS_spared_73 : decode YS_spared.2.1 73 = .ok (.invokevirtual 151, 3) := by decide +kernel
theorem dS_spared_76 : decode YS_spared.2.1 76 = .ok (.lreturn, 1) := by decide +kernel
theorem dS_rack_0 : decode YS_rack.2.1 0 = .ok (.aload_n 0, 1) := by decide +kernel
theorem dS_rack_1 : decode YS_rack.2.1 1 = .ok (.getfield 10, 3) := by decide +kernel
theorem dS_rack_4 : decode YS_rack.2.1 4 = .ok (.iload_n 1, 1) := by decide +kernel
theorem dS_rack_5 : decode YS_rack.2.1 5 = .ok (.invokevirtual 101, 3) := by decide +kernel
theorem dS_rack_8 : decode YS_rack.2.1 8 = .ok (.astore 4, 2) := by decide +kernel
theorem dS_rack_10 : decode YS_rack.2.1 10 = .ok (.aload 4, 2) := by decide +kernel
theorem dS_rack_12 : decode YS_rack.2.1 12 = .ok (.ifnull 23, 3) := by decide +kernel
theorem dS_rack_15 : decode YS_rack.2.1 15 = .ok (.aload 4, 2) := by decide +kernel
theorem dS_rack_17 : decode YS_rack.2.1 17 = .ok (.iload_n 2, 1) := by decide +kernel
theorem dS_rack_18 : decode YS_rack.2.1 18 = .ok (.invokevirtual 111, 3) := by decide +kernel
theorem dS_rack_21 : decode YS_rack.2.1 21 = .ok (.ifCond .eq 14, 3) := by decide +kernel
theorem dS_rack_24 : decode YS_rack.2.1 24 = .ok (.iload_n 3, 1) := by decide +kernel
theorem dS_rack_25 : decode YS_rack.2.1 25 = .ok (.ifCond .lt 10, 3) := by decide +kernel
theorem dS_rack_28 : decode YS_rack.2.1 28 = .ok (.iload_n 3, 1) := by decide +kernel
theorem dS_rack_29 : decode YS_rack.2.1 29 = .ok (.sipush 999, 3) := by decide +kernel
theorem dS_rack_32 : decode YS_rack.2.1 32 = .ok (.if_icmp .le 5, 3) := by decide +kernel
theorem dS_rack_35 : decode YS_rack.2.1 35 = .ok (.iconst (-1), 1) := by decide +kernel
theorem dS_rack_36 : decode YS_rack.2.1 36 = .ok (.ireturn, 1) := by decide +kernel
theorem dS_rack_37 : decode YS_rack.2.1 37 = .ok (.aload_n 0, 1) := by decide +kernel
theorem dS_rack_38 : decode YS_rack.2.1 38 = .ok (.getfield 44, 3) := by decide +kernel
theorem dS_rack_41 : decode YS_rack.2.1 41 = .ok (.aload 4, 2) := by decide +kernel
theorem dS_rack_43 : decode YS_rack.2.1 43 = .ok (.iload_n 2, 1) := by decide +kernel
theorem dS_rack_44 : decode YS_rack.2.1 44 = .ok (.iload_n 3, 1) := by decide +kernel
theorem dS_rack_45 : decode YS_rack.2.1 45 = .ok (.invokevirtual 160, 3) := by decide +kernel
theorem dS_rack_48 : decode YS_rack.2.1 48 = .ok (.ireturn, 1) := by decide +kernel
theorem dS_settled_0 : decode YS_settled.2.1 0 = .ok (.aload_n 0, 1) := by decide +kernel
theorem dS_settled_1 : decode YS_settled.2.1 1 = .ok (.getfield 10, 3) := by decide +kernel
theorem dS_settled_4 : decode YS_settled.2.1 4 = .ok (.iload_n 1, 1) := by decide +kernel
theorem dS_settled_5 : decode YS_settled.2.1 5 = .ok (.invokevirtual 101, 3) := by decide +kernel
theorem dS_settled_8 : decode YS_settled.2.1 8 = .ok (.astore_n 3, 1) := by decide +kernel
theorem dS_settled_9 : decode YS_settled.2.1 9 = .ok (.aload_n 3, 1) := by decide +kernel
theorem dS_settled_10 : decode YS_settled.2.1 10 = .ok (.ifnull 12, 3) := by decide +kernel
theorem dS_settled_13 : decode YS_settled.2.1 13 = .ok (.iload_n 2, 1) := by decide +kernel
theorem dS_settled_14 : decode YS_settled.2.1 14 = .ok (.ifCond .lt 8, 3) := by decide +kernel
theorem dS_settled_17 : decode YS_settled.2.1 17 = .ok (.iload_n 2, 1) := by decide +kernel
theorem dS_settled_18 : decode YS_settled.2.1 18 = .ok (.iconst 2, 1) := by decide +kernel
theorem dS_settled_19 : decode YS_settled.2.1 19 = .ok (.if_icmp .le 6, 3) := by decide +kernel
theorem dS_settled_22 : decode YS_settled.2.1 22 = .ok (.bipush (-2), 2) := by decide +kernel
theorem dS_settled_24 : decode YS_settled.2.1 24 = .ok (.ireturn, 1) := by decide +kernel
theorem dS_settled_25 : decode YS_settled.2.1 25 = .ok (.iload_n 2, 1) := by decide +kernel
theorem dS_settled_26 : decode YS_settled.2.1 26 = .ok (.ifCond .ne 12, 3) := by decide +kernel
theorem dS_settled_29 : decode YS_settled.2.1 29 = .ok (.aload_n 0, 1) := by decide +kernel
theorem dS_settled_30 : decode YS_settled.2.1 30 = .ok (.getfield 44, 3) := by decide +kernel
theorem dS_settled_33 : decode YS_settled.2.1 33 = .ok (.aload_n 3, 1) := by decide +kernel
theorem dS_settled_34 : decode YS_settled.2.1 34 = .ok (.invokevirtual 164, 3) := by decide +kernel
theorem dS_settled_37 : decode YS_settled.2.1 37 = .ok (.ireturn, 1) := by decide +kernel
theorem dS_settled_38 : decode YS_settled.2.1 38 = .ok (.aload_n 0, 1) := by decide +kernel
theorem dS_settled_39 : decode YS_settled.2.1 39 = .ok (.getfield 44, 3) := by decide +kernel
theorem dS_settled_42 : decode YS_settled.2.1 42 = .ok (.aload_n 3, 1) := by decide +kernel
theorem dS_settled_43 : decode YS_settled.2.1 43 = .ok (.invokevirtual 168, 3) := by decide +kernel
theorem dS_settled_46 : decode YS_settled.2.1 46 = .ok (.iload_n 2, 1) := by decide +kernel
theorem dS_settled_47 : decode YS_settled.2.1 47 = .ok (.iconst 1, 1) := by decide +kernel
theorem dS_settled_48 : decode YS_settled.2.1 48 = .ok (.if_icmp .ne 13, 3) := by decide +kernel
theorem dS_settled_51 : decode YS_settled.2.1 51 = .ok (.aload_n 0, 1) := by decide +kernel
theorem dS_settled_52 : decode YS_settled.2.1 52 = .ok (.getfield 44, 3) := by decide +kernel
theorem dS_settled_55 : decode YS_settled.2.1 55 = .ok (.getfield 172, 3) := by decide +kernel
theorem dS_settled_58 : decode YS_settled.2.1 58 = .ok (.goto 10, 3) := by decide +kernel
theorem dS_settled_61 : decode YS_settled.2.1 61 = .ok (.aload_n 0, 1) := by decide +kernel
theorem dS_settled_62 : decode YS_settled.2.1 62 = .ok (.getfield 44, 3) := by decide +kernel
theorem dS_settled_65 : decode YS_settled.2.1 65 = .ok (.getfield 175, 3) := by decide +kernel
theorem dS_settled_68 : decode YS_settled.2.1 68 = .ok (.ireturn, 1) := by decide +kernel
theorem dS_bags_0 : decode YS_bags.2.1 0 = .ok (.aload_n 0, 1) := by decide +kernel
theorem dS_bags_1 : decode YS_bags.2.1 1 = .ok (.getfield 10, 3) := by decide +kernel
theorem dS_bags_4 : decode YS_bags.2.1 4 = .ok (.iload_n 1, 1) := by decide +kernel
theorem dS_bags_5 : decode YS_bags.2.1 5 = .ok (.invokevirtual 101, 3) := by decide +kernel
theorem dS_bags_8 : decode YS_bags.2.1 8 = .ok (.astore 5, 2) := by decide +kernel
theorem dS_bags_10 : decode YS_bags.2.1 10 = .ok (.aload 5, 2) := by decide +kernel
theorem dS_bags_12 : decode YS_bags.2.1 12 = .ok (.ifnull 25, 3) := by decide +kernel
theorem dS_bags_15 : decode YS_bags.2.1 15 = .ok (.iload_n 2, 1) := by decide +kernel
theorem dS_bags_16 : decode YS_bags.2.1 16 = .ok (.iconst 1, 1) := by decide +kernel
theorem dS_bags_17 : decode YS_bags.2.1 17 = .ok (.if_icmp .lt 20, 3) := by decide +kernel
theorem dS_bags_20 : decode YS_bags.2.1 20 = .ok (.iload_n 2, 1) := by decide +kernel
theorem dS_bags_21 : decode YS_bags.2.1 21 = .ok (.bipush 99, 2) := by decide +kernel
theorem dS_bags_23 : decode YS_bags.2.1 23 = .ok (.if_icmp .gt 14, 3) := by decide +kernel
theorem dS_bags_26 : decode YS_bags.2.1 26 = .ok (.iload_n 3, 1) := by decide +kernel
theorem dS_bags_27 : decode YS_bags.2.1 27 = .ok (.iconst 1, 1) := by decide +kernel
theorem dS_bags_28 : decode YS_bags.2.1 28 = .ok (.if_icmp .lt 9, 3) := by decide +kernel
theorem dS_bags_31 : decode YS_bags.2.1 31 = .ok (.iload_n 3, 1) := by decide +kernel
theorem dS_bags_32 : decode YS_bags.2.1 32 = .ok (.bipush 10, 2) := by decide +kernel
theorem dS_bags_34 : decode YS_bags.2.1 34 = .ok (.if_icmp .le 5, 3) := by decide +kernel
theorem dS_bags_37 : decode YS_bags.2.1 37 = .ok (.iconst (-1), 1) := by decide +kernel
theorem dS_bags_38 : decode YS_bags.2.1 38 = .ok (.ireturn, 1) := by decide +kernel
theorem dS_bags_39 : decode YS_bags.2.1 39 = .ok (.iload 4, 2) := by decide +kernel
theorem dS_bags_41 : decode YS_bags.2.1 41 = .ok (.iconst (-1), 1) := by decide +kernel
theorem dS_bags_42 : decode YS_bags.2.1 42 = .ok (.if_icmp .eq 15, 3) := by decide +kernel
theorem dS_bags_45 : decode YS_bags.2.1 45 = .ok (.aload 5, 2) := by decide +kernel
theorem dS_bags_47 : decode YS_bags.2.1 47 = .ok (.iload 4, 2) := by decide +kernel
theorem dS_bags_49 : decode YS_bags.2.1 49 = .ok (.invokevirtual 111, 3) := by decide +kernel
theorem dS_bags_52 : decode YS_bags.2.1 52 = .ok (.ifCond .ne 5, 3) := by decide +kernel
theorem dS_bags_55 : decode YS_bags.2.1 55 = .ok (.iconst (-1), 1) := by decide +kernel
theorem dS_bags_56 : decode YS_bags.2.1 56 = .ok (.ireturn, 1) := by decide +kernel
theorem dS_bags_57 : decode YS_bags.2.1 57 = .ok (.aload_n 0, 1) := by decide +kernel
theorem dS_bags_58 : decode YS_bags.2.1 58 = .ok (.getfield 51, 3) := by decide +kernel
theorem dS_bags_61 : decode YS_bags.2.1 61 = .ok (.aload 5, 2) := by decide +kernel
theorem dS_bags_63 : decode YS_bags.2.1 63 = .ok (.iload_n 2, 1) := by decide +kernel
theorem dS_bags_64 : decode YS_bags.2.1 64 = .ok (.iload_n 3, 1) := by decide +kernel
theorem dS_bags_65 : decode YS_bags.2.1 65 = .ok (.invokevirtual 178, 3) := by decide +kernel
theorem dS_bags_68 : decode YS_bags.2.1 68 = .ok (.istore 6, 2) := by decide +kernel
theorem dS_bags_70 : decode YS_bags.2.1 70 = .ok (.iload 4, 2) := by decide +kernel
theorem dS_bags_72 : decode YS_bags.2.1 72 = .ok (.iconst (-1), 1) := by decide +kernel
theorem dS_bags_73 : decode YS_bags.2.1 73 = .ok (.if_icmp .eq 9, 3) := by decide +kernel
theorem dS_bags_76 : decode YS_bags.2.1 76 = .ok (.iload 6, 2) := by decide +kernel
theorem dS_bags_78 : decode YS_bags.2.1 78 = .ok (.iconst (-1), 1) := by decide +kernel
theorem dS_bags_79 : decode YS_bags.2.1 79 = .ok (.if_icmp .ne 8, 3) := by decide +kernel
theorem dS_bags_82 : decode YS_bags.2.1 82 = .ok (.iload 6, 2) := by decide +kernel
theorem dS_bags_84 : decode YS_bags.2.1 84 = .ok (.goto 13, 3) := by decide +kernel
theorem dS_bags_87 : decode YS_bags.2.1 87 = .ok (.aload_n 0, 1) := by decide +kernel
theorem dS_bags_88 : decode YS_bags.2.1 88 = .ok (.getfield 51, 3) := by decide +kernel
theorem dS_bags_91 : decode YS_bags.2.1 91 = .ok (.getfield 181, 3) := by decide +kernel
theorem dS_bags_94 : decode YS_bags.2.1 94 = .ok (.iload 4, 2) := by decide +kernel
theorem dS_bags_96 : decode YS_bags.2.1 96 = .ok (.iaload, 1) := by decide +kernel
theorem dS_bags_97 : decode YS_bags.2.1 97 = .ok (.ireturn, 1) := by decide +kernel
theorem dS_sorters_0 : decode YS_sorters.2.1 0 = .ok (.aload_n 0, 1) := by decide +kernel
theorem dS_sorters_1 : decode YS_sorters.2.1 1 = .ok (.getfield 10, 3) := by decide +kernel
theorem dS_sorters_4 : decode YS_sorters.2.1 4 = .ok (.iload_n 1, 1) := by decide +kernel
theorem dS_sorters_5 : decode YS_sorters.2.1 5 = .ok (.invokevirtual 101, 3) := by decide +kernel
theorem dS_sorters_8 : decode YS_sorters.2.1 8 = .ok (.astore_n 3, 1) := by decide +kernel
theorem dS_sorters_9 : decode YS_sorters.2.1 9 = .ok (.aload_n 3, 1) := by decide +kernel
theorem dS_sorters_10 : decode YS_sorters.2.1 10 = .ok (.ifnonnull 9, 3) := by decide +kernel
theorem dS_sorters_13 : decode YS_sorters.2.1 13 = .ok (.sipush (-1000), 3) := by decide +kernel
theorem dS_sorters_16 : decode YS_sorters.2.1 16 = .ok (.goto 12, 3) := by decide +kernel
theorem dS_sorters_19 : decode YS_sorters.2.1 19 = .ok (.aload_n 0, 1) := by decide +kernel
theorem dS_sorters_20 : decode YS_sorters.2.1 20 = .ok (.getfield 37, 3) := by decide +kernel
theorem dS_sorters_23 : decode YS_sorters.2.1 23 = .ok (.aload_n 3, 1) := by decide +kernel
theorem dS_sorters_24 : decode YS_sorters.2.1 24 = .ok (.iload_n 2, 1) := by decide +kernel
theorem dS_sorters_25 : decode YS_sorters.2.1 25 = .ok (.invokevirtual 185, 3) := by decide +kernel
theorem dS_sorters_28 : decode YS_sorters.2.1 28 = .ok (.ireturn, 1) := by decide +kernel
theorem dS_fact_0 : decode YS_fact.2.1 0 = .ok (.aload_n 0, 1) := by decide +kernel
theorem dS_fact_1 : decode YS_fact.2.1 1 = .ok (.getfield 10, 3) := by decide +kernel
theorem dS_fact_4 : decode YS_fact.2.1 4 = .ok (.iload_n 1, 1) := by decide +kernel
theorem dS_fact_5 : decode YS_fact.2.1 5 = .ok (.invokevirtual 189, 3) := by decide +kernel
theorem dS_fact_8 : decode YS_fact.2.1 8 = .ok (.astore 4, 2) := by decide +kernel
theorem dS_fact_10 : decode YS_fact.2.1 10 = .ok (.aload 4, 2) := by decide +kernel
theorem dS_fact_12 : decode YS_fact.2.1 12 = .ok (.ifnonnull 8, 3) := by decide +kernel
theorem dS_fact_15 : decode YS_fact.2.1 15 = .ok (.bipush (-2), 2) := by decide +kernel
theorem dS_fact_17 : decode YS_fact.2.1 17 = .ok (.goto 10, 3) := by decide +kernel
theorem dS_fact_20 : decode YS_fact.2.1 20 = .ok (.aload 4, 2) := by decide +kernel
theorem dS_fact_22 : decode YS_fact.2.1 22 = .ok (.iload_n 2, 1) := by decide +kernel
theorem dS_fact_23 : decode YS_fact.2.1 23 = .ok (.iload_n 3, 1) := by decide +kernel
theorem dS_fact_24 : decode YS_fact.2.1 24 = .ok (.invokevirtual 193, 3) := by decide +kernel
theorem dS_fact_27 : decode YS_fact.2.1 27 = .ok (.ireturn, 1) := by decide +kernel
theorem dS_fits_0 : decode YS_fits.2.1 0 = .ok (.aload_n 0, 1) := by decide +kernel
theorem dS_fits_1 : decode YS_fits.2.1 1 = .ok (.getfield 10, 3) := by decide +kernel
theorem dS_fits_4 : decode YS_fits.2.1 4 = .ok (.iload_n 1, 1) := by decide +kernel
theorem dS_fits_5 : decode YS_fits.2.1 5 = .ok (.invokevirtual 101, 3) := by decide +kernel
theorem dS_fits_8 : decode YS_fits.2.1 8 = .ok (.astore 4, 2) := by decide +kernel
theorem dS_fits_10 : decode YS_fits.2.1 10 = .ok (.aload_n 0, 1) := by decide +kernel
theorem dS_fits_11 : decode YS_fits.2.1 11 = .ok (.getfield 10, 3) := by decide +kernel
theorem dS_fits_14 : decode YS_fits.2.1 14 = .ok (.iload_n 2, 1) := by decide +kernel
theorem dS_fits_15 : decode YS_fits.2.1 15 = .ok (.invokevirtual 189, 3) := by decide +kernel
theorem dS_fits_18 : decode YS_fits.2.1 18 = .ok (.astore 5, 2) := by decide +kernel
theorem dS_fits_20 : decode YS_fits.2.1 20 = .ok (.aload 4, 2) := by decide +kernel
theorem dS_fits_22 : decode YS_fits.2.1 22 = .ok (.ifnull 18, 3) := by decide +kernel
theorem dS_fits_25 : decode YS_fits.2.1 25 = .ok (.aload 5, 2) := by decide +kernel
theorem dS_fits_27 : decode YS_fits.2.1 27 = .ok (.ifnull 13, 3) := by decide +kernel
theorem dS_fits_30 : decode YS_fits.2.1 30 = .ok (.aload 5, 2) := by decide +kernel
theorem dS_fits_32 : decode YS_fits.2.1 32 = .ok (.aload 4, 2) := by decide +kernel
theorem dS_fits_34 : decode YS_fits.2.1 34 = .ok (.invokevirtual 196, 3) := by decide +kernel
theorem dS_fits_37 : decode YS_fits.2.1 37 = .ok (.ifCond .ne 6, 3) := by decide +kernel
theorem dS_fits_40 : decode YS_fits.2.1 40 = .ok (.bipush (-2), 2) := by decide +kernel
theorem dS_fits_42 : decode YS_fits.2.1 42 = .ok (.ireturn, 1) := by decide +kernel
theorem dS_fits_43 : decode YS_fits.2.1 43 = .ok (.aload_n 0, 1) := by decide +kernel
theorem dS_fits_44 : decode YS_fits.2.1 44 = .ok (.getfield 58, 3) := by decide +kernel
theorem dS_fits_47 : decode YS_fits.2.1 47 = .ok (.aload 4, 2) := by decide +kernel
theorem dS_fits_49 : decode YS_fits.2.1 49 = .ok (.aload 5, 2) := by decide +kernel
theorem dS_fits_51 : decode YS_fits.2.1 51 = .ok (.invokevirtual 200, 3) := by decide +kernel
theorem dS_fits_54 : decode YS_fits.2.1 54 = .ok (.aload_n 0, 1) := by decide +kernel
theorem dS_fits_55 : decode YS_fits.2.1 55 = .ok (.getfield 58, 3) := by decide +kernel
theorem dS_fits_58 : decode YS_fits.2.1 58 = .ok (.iload_n 3, 1) := by decide +kernel
theorem dS_fits_59 : decode YS_fits.2.1 59 = .ok (.invokevirtual 204, 3) := by decide +kernel
theorem dS_fits_62 : decode YS_fits.2.1 62 = .ok (.ireturn, 1) := by decide +kernel
theorem dS_drawn_0 : decode YS_drawn.2.1 0 = .ok (.aload_n 0, 1) := by decide +kernel
theorem dS_drawn_1 : decode YS_drawn.2.1 1 = .ok (.getfield 10, 3) := by decide +kernel
theorem dS_drawn_4 : decode YS_drawn.2.1 4 = .ok (.iload_n 1, 1) := by decide +kernel
theorem dS_drawn_5 : decode YS_drawn.2.1 5 = .ok (.invokevirtual 101, 3) := by decide +kernel
theorem dS_drawn_8 : decode YS_drawn.2.1 8 = .ok (.astore 5, 2) := by decide +kernel
theorem dS_drawn_10 : decode YS_drawn.2.1 10 = .ok (.aload 5, 2) := by decide +kernel
theorem dS_drawn_12 : decode YS_drawn.2.1 12 = .ok (.ifnull 13, 3) := by decide +kernel
theorem dS_drawn_15 : decode YS_drawn.2.1 15 = .ok (.iload_n 3, 1) := by decide +kernel
theorem dS_drawn_16 : decode YS_drawn.2.1 16 = .ok (.ifCond .lt 9, 3) := by decide +kernel
theorem dS_drawn_19 : decode YS_drawn.2.1 19 = .ok (.iload_n 3, 1) := by decide +kernel
theorem dS_drawn_20 : decode YS_drawn.2.1 20 = .ok (.bipush 60, 2) := by decide +kernel
theorem dS_drawn_22 : decode YS_drawn.2.1 22 = .ok (.if_icmp .le 7, 3) := by decide +kernel
theorem dS_drawn_25 : decode YS_drawn.2.1 25 = .ok (.sipush (-1000), 3) := by decide +kernel
theorem dS_drawn_28 : decode YS_drawn.2.1 28 = .ok (.ireturn, 1) := by decide +kernel
theorem dS_drawn_29 : decode YS_drawn.2.1 29 = .ok (.aload_n 0, 1) := by decide +kernel
theorem dS_drawn_30 : decode YS_drawn.2.1 30 = .ok (.getfield 30, 3) := by decide +kernel
theorem dS_drawn_33 : decode YS_drawn.2.1 33 = .ok (.aload 5, 2) := by decide +kernel
theorem dS_drawn_35 : decode YS_drawn.2.1 35 = .ok (.iload_n 2, 1) := by decide +kernel
theorem dS_drawn_36 : decode YS_drawn.2.1 36 = .ok (.iload_n 3, 1) := by decide +kernel
theorem dS_drawn_37 : decode YS_drawn.2.1 37 = .ok (.invokevirtual 205, 3) := by decide +kernel
theorem dS_drawn_40 : decode YS_drawn.2.1 40 = .ok (.aload_n 0, 1) := by decide +kernel
theorem dS_drawn_41 : decode YS_drawn.2.1 41 = .ok (.getfield 30, 3) := by decide +kernel
theorem dS_drawn_44 : decode YS_drawn.2.1 44 = .ok (.iload 4, 2) := by decide +kernel
theorem dS_drawn_46 : decode YS_drawn.2.1 46 = .ok (.invokevirtual 134, 3) := by decide +kernel
theorem dS_drawn_49 : decode YS_drawn.2.1 49 = .ok (.ireturn, 1) := by decide +kernel
theorem dS_dear_0 : decode YS_dear.2.1 0 = .ok (.aload_n 0, 1) := by decide +kernel
theorem dS_dear_1 : decode YS_dear.2.1 1 = .ok (.getfield 10, 3) := by decide +kernel
theorem dS_dear_4 : decode YS_dear.2.1 4 = .ok (.iload_n 1, 1) := by decide +kernel
theorem dS_dear_5 : decode YS_dear.2.1 5 = .ok (.invokevirtual 101, 3) := by decide +kernel
theorem dS_dear_8 : decode YS_dear.2.1 8 = .ok (.astore_n 3, 1) := by decide +kernel
theorem dS_dear_9 : decode YS_dear.2.1 9 = .ok (.aload_n 3, 1) := by decide +kernel
theorem dS_dear_10 : decode YS_dear.2.1 10 = .ok (.ifnull 11, 3) := by decide +kernel
theorem dS_dear_13 : decode YS_dear.2.1 13 = .ok (.aload_n 3, 1) := by decide +kernel
theorem dS_dear_14 : decode YS_dear.2.1 14 = .ok (.iload_n 2, 1) := by decide +kernel
theorem dS_dear_15 : decode YS_dear.2.1 15 = .ok (.invokevirtual 111, 3) := by decide +kernel
theorem dS_dear_18 : decode YS_dear.2.1 18 = .ok (.ifCond .ne 7, 3) := by decide +kernel
theorem dS_dear_21 : decode YS_dear.2.1 21 = .ok (.sipush (-1000), 3) := by decide +kernel
theorem dS_dear_24 : decode YS_dear.2.1 24 = .ok (.ireturn, 1) := by decide +kernel
theorem dS_dear_25 : decode YS_dear.2.1 25 = .ok (.aload_n 3, 1) := by decide +kernel
theorem dS_dear_26 : decode YS_dear.2.1 26 = .ok (.getfield 209, 3) := by decide +kernel
theorem dS_dear_29 : decode YS_dear.2.1 29 = .ok (.iload_n 2, 1) := by decide +kernel
theorem dS_dear_30 : decode YS_dear.2.1 30 = .ok (.iaload, 1) := by decide +kernel
theorem dS_dear_31 : decode YS_dear.2.1 31 = .ok (.istore 4, 2) := by decide +kernel
theorem dS_dear_33 : decode YS_dear.2.1 33 = .ok (.aload_n 0, 1) := by decide +kernel
theorem dS_dear_34 : decode YS_dear.2.1 34 = .ok (.getfield 37, 3) := by decide +kernel
theorem dS_dear_37 : decode YS_dear.2.1 37 = .ok (.aload_n 3, 1) := by decide +kernel
theorem dS_dear_38 : decode YS_dear.2.1 38 = .ok (.iload 4, 2) := by decide +kernel
theorem dS_dear_40 : decode YS_dear.2.1 40 = .ok (.iconst (-1), 1) := by decide +kernel
theorem dS_dear_41 : decode YS_dear.2.1 41 = .ok (.iconst 0, 1) := by decide +kernel
theorem dS_dear_42 : decode YS_dear.2.1 42 = .ok (.invokevirtual 138, 3) := by decide +kernel
theorem dS_dear_45 : decode YS_dear.2.1 45 = .ok (.aload_n 0, 1) := by decide +kernel
theorem dS_dear_46 : decode YS_dear.2.1 46 = .ok (.getfield 37, 3) := by decide +kernel
theorem dS_dear_49 : decode YS_dear.2.1 49 = .ok (.aload_n 3, 1) := by decide +kernel
theorem dS_dear_50 : decode YS_dear.2.1 50 = .ok (.iload 4, 2) := by decide +kernel
theorem dS_dear_52 : decode YS_dear.2.1 52 = .ok (.iload_n 2, 1) := by decide +kernel
theorem dS_dear_53 : decode YS_dear.2.1 53 = .ok (.iconst 0, 1) := by decide +kernel
theorem dS_dear_54 : decode YS_dear.2.1 54 = .ok (.invokevirtual 138, 3) := by decide +kernel
theorem dS_dear_57 : decode YS_dear.2.1 57 = .ok (.isub, 1) := by decide +kernel
theorem dS_dear_58 : decode YS_dear.2.1 58 = .ok (.ireturn, 1) := by decide +kernel
theorem dS_spoilt_0 : decode YS_spoilt.2.1 0 = .ok (.aload_n 0, 1) := by decide +kernel
theorem dS_spoilt_1 : decode YS_spoilt.2.1 1 = .ok (.getfield 10, 3) := by decide +kernel
theorem dS_spoilt_4 : decode YS_spoilt.2.1 4 = .ok (.iload_n 1, 1) := by decide +kernel
theorem dS_spoilt_5 : decode YS_spoilt.2.1 5 = .ok (.invokevirtual 101, 3) := by decide +kernel
theorem dS_spoilt_8 : decode YS_spoilt.2.1 8 = .ok (.astore 4, 2) := by decide +kernel
theorem dS_spoilt_10 : decode YS_spoilt.2.1 10 = .ok (.aload 4, 2) := by decide +kernel
theorem dS_spoilt_12 : decode YS_spoilt.2.1 12 = .ok (.ifnull 12, 3) := by decide +kernel
theorem dS_spoilt_15 : decode YS_spoilt.2.1 15 = .ok (.aload 4, 2) := by decide +kernel
theorem dS_spoilt_17 : decode YS_spoilt.2.1 17 = .ok (.iload_n 2, 1) := by decide +kernel
theorem dS_spoilt_18 : decode YS_spoilt.2.1 18 = .ok (.invokevirtual 135, 3) := by decide +kernel
theorem dS_spoilt_21 : decode YS_spoilt.2.1 21 = .ok (.ifCond .ne 7, 3) := by decide +kernel
theorem dS_spoilt_24 : decode YS_spoilt.2.1 24 = .ok (.sipush (-1000), 3) := by decide +kernel
theorem dS_spoilt_27 : decode YS_spoilt.2.1 27 = .ok (.ireturn, 1) := by decide +kernel
theorem dS_spoilt_28 : decode YS_spoilt.2.1 28 = .ok (.aload 4, 2) := by decide +kernel
theorem dS_spoilt_30 : decode YS_spoilt.2.1 30 = .ok (.iload_n 2, 1) := by decide +kernel
theorem dS_spoilt_31 : decode YS_spoilt.2.1 31 = .ok (.invokevirtual 212, 3) := by decide +kernel
theorem dS_spoilt_34 : decode YS_spoilt.2.1 34 = .ok (.istore 5, 2) := by decide +kernel
theorem dS_spoilt_36 : decode YS_spoilt.2.1 36 = .ok (.iload_n 3, 1) := by decide +kernel
theorem dS_spoilt_37 : decode YS_spoilt.2.1 37 = .ok (.ifCond .eq 12, 3) := by decide +kernel
theorem dS_spoilt_40 : decode YS_spoilt.2.1 40 = .ok (.aload 4, 2) := by decide +kernel
theorem dS_spoilt_42 : decode YS_spoilt.2.1 42 = .ok (.iload_n 2, 1) := by decide +kernel
theorem dS_spoilt_43 : decode YS_spoilt.2.1 43 = .ok (.iload 5, 2) := by decide +kernel
theorem dS_spoilt_45 : decode YS_spoilt.2.1 45 = .ok (.invokevirtual 215, 3) := by decide +kernel
theorem dS_spoilt_48 : decode YS_spoilt.2.1 48 = .ok (.ireturn, 1) := by decide +kernel
theorem dS_spoilt_49 : decode YS_spoilt.2.1 49 = .ok (.aload_n 0, 1) := by decide +kernel
theorem dS_spoilt_50 : decode YS_spoilt.2.1 50 = .ok (.getfield 37, 3) := by decide +kernel
theorem dS_spoilt_53 : decode YS_spoilt.2.1 53 = .ok (.aload 4, 2) := by decide +kernel
theorem dS_spoilt_55 : decode YS_spoilt.2.1 55 = .ok (.iload_n 2, 1) := by decide +kernel
theorem dS_spoilt_56 : decode YS_spoilt.2.1 56 = .ok (.iconst (-1), 1) := by decide +kernel
theorem dS_spoilt_57 : decode YS_spoilt.2.1 57 = .ok (.iconst 0, 1) := by decide +kernel
theorem dS_spoilt_58 : decode YS_spoilt.2.1 58 = .ok (.invokevirtual 138, 3) := by decide +kernel
theorem dS_spoilt_61 : decode YS_spoilt.2.1 61 = .ok (.aload 4, 2) := by decide +kernel
theorem dS_spoilt_63 : decode YS_spoilt.2.1 63 = .ok (.iload_n 2, 1) := by decide +kernel
theorem dS_spoilt_64 : decode YS_spoilt.2.1 64 = .ok (.iload 5, 2) := by decide +kernel
theorem dS_spoilt_66 : decode YS_spoilt.2.1 66 = .ok (.invokevirtual 218, 3) := by decide +kernel
theorem dS_spoilt_69 : decode YS_spoilt.2.1 69 = .ok (.isub, 1) := by decide +kernel
theorem dS_spoilt_70 : decode YS_spoilt.2.1 70 = .ok (.ireturn, 1) := by decide +kernel
theorem dS_calm_0 : decode YS_calm.2.1 0 = .ok (.aload_n 0, 1) := by decide +kernel
theorem dS_calm_1 : decode YS_calm.2.1 1 = .ok (.getfield 10, 3) := by decide +kernel
theorem dS_calm_4 : decode YS_calm.2.1 4 = .ok (.iload_n 1, 1) := by decide +kernel
theorem dS_calm_5 : decode YS_calm.2.1 5 = .ok (.invokevirtual 101, 3) := by decide +kernel
theorem dS_calm_8 : decode YS_calm.2.1 8 = .ok (.astore 5, 2) := by decide +kernel
theorem dS_calm_10 : decode YS_calm.2.1 10 = .ok (.aload 5, 2) := by decide +kernel
theorem dS_calm_12 : decode YS_calm.2.1 12 = .ok (.ifnull 22, 3) := by decide +kernel
theorem dS_calm_15 : decode YS_calm.2.1 15 = .ok (.aload 5, 2) := by decide +kernel
theorem dS_calm_17 : decode YS_calm.2.1 17 = .ok (.iload_n 2, 1) := by decide +kernel
theorem dS_calm_18 : decode YS_calm.2.1 18 = .ok (.invokevirtual 135, 3) := by decide +kernel
theorem dS_calm_21 : decode YS_calm.2.1 21 = .ok (.ifCond .eq 13, 3) := by decide +kernel
theorem dS_calm_24 : decode YS_calm.2.1 24 = .ok (.iload_n 3, 1) := by decide +kernel
theorem dS_calm_25 : decode YS_calm.2.1 25 = .ok (.ifCond .lt 9, 3) := by decide +kernel
theorem dS_calm_28 : decode YS_calm.2.1 28 = .ok (.iload_n 3, 1) := by decide +kernel
theorem dS_calm_29 : decode YS_calm.2.1 29 = .ok (.bipush 99, 2) := by decide +kernel
theorem dS_calm_31 : decode YS_calm.2.1 31 = .ok (.if_icmp .le 5, 3) := by decide +kernel
theorem dS_calm_34 : decode YS_calm.2.1 34 = .ok (.iconst (-1), 1) := by decide +kernel
theorem dS_calm_35 : decode YS_calm.2.1 35 = .ok (.ireturn, 1) := by decide +kernel
theorem dS_calm_36 : decode YS_calm.2.1 36 = .ok (.aload 5, 2) := by decide +kernel
theorem dS_calm_38 : decode YS_calm.2.1 38 = .ok (.iload_n 2, 1) := by decide +kernel
theorem dS_calm_39 : decode YS_calm.2.1 39 = .ok (.iload_n 3, 1) := by decide +kernel
theorem dS_calm_40 : decode YS_calm.2.1 40 = .ok (.invokevirtual 221, 3) := by decide +kernel
theorem dS_calm_43 : decode YS_calm.2.1 43 = .ok (.istore 6, 2) := by decide +kernel
theorem dS_calm_45 : decode YS_calm.2.1 45 = .ok (.iload 4, 2) := by decide +kernel
theorem dS_calm_47 : decode YS_calm.2.1 47 = .ok (.ifCond .ne 9, 3) := by decide +kernel
theorem dS_calm_50 : decode YS_calm.2.1 50 = .ok (.iload 6, 2) := by decide +kernel
theorem dS_calm_52 : decode YS_calm.2.1 52 = .ok (.iconst (-1), 1) := by decide +kernel
theorem dS_calm_53 : decode YS_calm.2.1 53 = .ok (.if_icmp .ne 8, 3) := by decide +kernel
theorem dS_calm_56 : decode YS_calm.2.1 56 = .ok (.iload 6, 2) := by decide +kernel
theorem dS_calm_58 : decode YS_calm.2.1 58 = .ok (.goto 8, 3) := by decide +kernel
theorem dS_calm_61 : decode YS_calm.2.1 61 = .ok (.iload 6, 2) := by decide +kernel
theorem dS_calm_63 : decode YS_calm.2.1 63 = .ok (.invokestatic 224, 3) := by decide +kernel
theorem dS_calm_66 : decode YS_calm.2.1 66 = .ok (.ireturn, 1) := by decide +kernel
theorem dS_hoped_0 : decode YS_hoped.2.1 0 = .ok (.aload_n 0, 1) := by decide +kernel
theorem dS_hoped_1 : decode YS_hoped.2.1 1 = .ok (.getfield 10, 3) := by decide +kernel
theorem dS_hoped_4 : decode YS_hoped.2.1 4 = .ok (.iload_n 1, 1) := by decide +kernel
theorem dS_hoped_5 : decode YS_hoped.2.1 5 = .ok (.invokevirtual 101, 3) := by decide +kernel
theorem dS_hoped_8 : decode YS_hoped.2.1 8 = .ok (.astore 4, 2) := by decide +kernel
theorem dS_hoped_10 : decode YS_hoped.2.1 10 = .ok (.aload 4, 2) := by decide +kernel
theorem dS_hoped_12 : decode YS_hoped.2.1 12 = .ok (.ifnull 16, 3) := by decide +kernel
theorem dS_hoped_15 : decode YS_hoped.2.1 15 = .ok (.iload_n 2, 1) := by decide +kernel
theorem dS_hoped_16 : decode YS_hoped.2.1 16 = .ok (.ifCond .lt 12, 3) := by decide +kernel
theorem dS_hoped_19 : decode YS_hoped.2.1 19 = .ok (.iload_n 2, 1) := by decide +kernel
theorem dS_hoped_20 : decode YS_hoped.2.1 20 = .ok (.aload 4, 2) := by decide +kernel
theorem dS_hoped_22 : decode YS_hoped.2.1 22 = .ok (.getfield 229, 3) := by decide +kernel
theorem dS_hoped_25 : decode YS_hoped.2.1 25 = .ok (.if_icmp .le 7, 3) := by decide +kernel
theorem dS_hoped_28 : decode YS_hoped.2.1 28 = .ok (.ldc2_w 145, 3) := by decide +kernel
theorem dS_hoped_31 : decode YS_hoped.2.1 31 = .ok (.lreturn, 1) := by decide +kernel
theorem dS_hoped_32 : decode YS_hoped.2.1 32 = .ok (.aload_n 0, 1) := by decide +kernel
theorem dS_hoped_33 : decode YS_hoped.2.1 33 = .ok (.getfield 65, 3) := by decide +kernel
theorem dS_hoped_36 : decode YS_hoped.2.1 36 = .ok (.aload 4, 2) := by decide +kernel
theorem dS_hoped_38 : decode YS_hoped.2.1 38 = .ok (.iload_n 2, 1) := by decide +kernel
theorem dS_hoped_39 : decode YS_hoped.2.1 39 = .ok (.invokevirtual 232, 3) := by decide +kernel
theorem dS_hoped_42 : decode YS_hoped.2.1 42 = .ok (.aload_n 0, 1) := by decide +kernel
theorem dS_hoped_43 : decode YS_hoped.2.1 43 = .ok (.getfield 65, 3) := by decide +kernel
theorem dS_hoped_46 : decode YS_hoped.2.1 46 = .ok (.iload_n 3, 1) := by decide +kernel
theorem dS_hoped_47 : decode YS_hoped.2.1 47 = .ok (.invokevirtual 151, 3) := by decide +kernel
theorem dS_hoped_50 : decode YS_hoped.2.1 50 = .ok (.lreturn, 1) := by decide +kernel
theorem dS_strongest_0 : decode YS_strongest.2.1 0 = .ok (.aload_n 0, 1) := by decide +kernel
theorem dS_strongest_1 : decode YS_strongest.2.1 1 = .ok (.getfield 10, 3) := by decide +kernel
theorem dS_strongest_4 : decode YS_strongest.2.1 4 = .ok (.iload_n 1, 1) := by decide +kernel
theorem dS_strongest_5 : decode YS_strongest.2.1 5 = .ok (.invokevirtual 101, 3) := by decide +kernel
theorem dS_strongest_8 : decode YS_strongest.2.1 8 = .ok (.astore_n 3, 1) := by decide +kernel
theorem dS_strongest_9 : decode YS_strongest.2.1 9 = .ok (.aload_n 3, 1) := by decide +kernel
theorem dS_strongest_10 : decode YS_strongest.2.1 10 = .ok (.ifnull 10, 3) := by decide +kernel
theorem dS_strongest_13 : decode YS_strongest.2.1 13 = .ok (.aload_n 3, 1) := by decide +kernel
theorem dS_strongest_14 : decode YS_strongest.2.1 14 = .ok (.getfield 235, 3) := by decide +kernel
theorem dS_strongest_17 : decode YS_strongest.2.1 17 = .ok (.ifCond .ne 5, 3) := by decide +kernel
theorem dS_strongest_20 : decode YS_strongest.2.1 20 = .ok (.iconst (-1), 1) := by decide +kernel
theorem dS_strongest_21 : decode YS_strongest.2.1 21 = .ok (.ireturn, 1) := by decide +kernel
theorem dS_strongest_22 : decode YS_strongest.2.1 22 = .ok (.aload_n 0, 1) := by decide +kernel
theorem dS_strongest_23 : decode YS_strongest.2.1 23 = .ok (.getfield 37, 3) := by decide +kernel
theorem dS_strongest_26 : decode YS_strongest.2.1 26 = .ok (.aload_n 3, 1) := by decide +kernel
theorem dS_strongest_27 : decode YS_strongest.2.1 27 = .ok (.invokevirtual 238, 3) := by decide +kernel
theorem dS_strongest_30 : decode YS_strongest.2.1 30 = .ok (.iload_n 2, 1) := by decide +kernel
theorem dS_strongest_31 : decode YS_strongest.2.1 31 = .ok (.ifCond .eq 13, 3) := by decide +kernel
theorem dS_strongest_34 : decode YS_strongest.2.1 34 = .ok (.aload_n 0, 1) := by decide +kernel
theorem dS_strongest_35 : decode YS_strongest.2.1 35 = .ok (.getfield 37, 3) := by decide +kernel
theorem dS_strongest_38 : decode YS_strongest.2.1 38 = .ok (.getfield 241, 3) := by decide +kernel
theorem dS_strongest_41 : decode YS_strongest.2.1 41 = .ok (.goto 10, 3) := by decide +kernel
theorem dS_strongest_44 : decode YS_strongest.2.1 44 = .ok (.aload_n 0, 1) := by decide +kernel
theorem dS_strongest_45 : decode YS_strongest.2.1 45 = .ok (.getfield 37, 3) := by decide +kernel
theorem dS_strongest_48 : decode YS_strongest.2.1 48 = .ok (.getfield 244, 3) := by decide +kernel
theorem dS_strongest_51 : decode YS_strongest.2.1 51 = .ok (.ireturn, 1) := by decide +kernel
theorem dS_swapped_0 : decode YS_swapped.2.1 0 = .ok (.aload_n 0, 1) := by decide +kernel
theorem dS_swapped_1 : decode YS_swapped.2.1 1 = .ok (.getfield 10, 3) := by decide +kernel
theorem dS_swapped_4 : decode YS_swapped.2.1 4 = .ok (.iload_n 1, 1) := by decide +kernel
theorem dS_swapped_5 : decode YS_swapped.2.1 5 = .ok (.invokevirtual 101, 3) := by decide +kernel
theorem dS_swapped_8 : decode YS_swapped.2.1 8 = .ok (.astore_n 3, 1) := by decide +kernel
theorem dS_swapped_9 : decode YS_swapped.2.1 9 = .ok (.aload_n 3, 1) := by decide +kernel
theorem dS_swapped_10 : decode YS_swapped.2.1 10 = .ok (.ifnonnull 7, 3) := by decide +kernel
theorem dS_swapped_13 : decode YS_swapped.2.1 13 = .ok (.sipush (-1000), 3) := by decide +kernel
theorem dS_swapped_16 : decode YS_swapped.2.1 16 = .ok (.ireturn, 1) := by decide +kernel
theorem dS_swapped_17 : decode YS_swapped.2.1 17 = .ok (.aload_n 0, 1) := by decide +kernel
theorem dS_swapped_18 : decode YS_swapped.2.1 18 = .ok (.getfield 37, 3) := by decide +kernel
theorem dS_swapped_21 : decode YS_swapped.2.1 21 = .ok (.aload_n 3, 1) := by decide +kernel
theorem dS_swapped_22 : decode YS_swapped.2.1 22 = .ok (.invokevirtual 247, 3) := by decide +kernel
theorem dS_swapped_25 : decode YS_swapped.2.1 25 = .ok (.iload_n 2, 1) := by decide +kernel
theorem dS_swapped_26 : decode YS_swapped.2.1 26 = .ok (.ifCond .eq 13, 3) := by decide +kernel
theorem dS_swapped_29 : decode YS_swapped.2.1 29 = .ok (.aload_n 0, 1) := by decide +kernel
theorem dS_swapped_30 : decode YS_swapped.2.1 30 = .ok (.getfield 37, 3) := by decide +kernel
theorem dS_swapped_33 : decode YS_swapped.2.1 33 = .ok (.getfield 241, 3) := by decide +kernel
theorem dS_swapped_36 : decode YS_swapped.2.1 36 = .ok (.goto 10, 3) := by decide +kernel
theorem dS_swapped_39 : decode YS_swapped.2.1 39 = .ok (.aload_n 0, 1) := by decide +kernel
theorem dS_swapped_40 : decode YS_swapped.2.1 40 = .ok (.getfield 37, 3) := by decide +kernel
theorem dS_swapped_43 : decode YS_swapped.2.1 43 = .ok (.getfield 244, 3) := by decide +kernel
theorem dS_swapped_46 : decode YS_swapped.2.1 46 = .ok (.ireturn, 1) := by decide +kernel
theorem dS_strike_0 : decode YS_strike.2.1 0 = .ok (.aload_n 0, 1) := by decide +kernel
theorem dS_strike_1 : decode YS_strike.2.1 1 = .ok (.getfield 10, 3) := by decide +kernel
theorem dS_strike_4 : decode YS_strike.2.1 4 = .ok (.iload_n 1, 1) := by decide +kernel
theorem dS_strike_5 : decode YS_strike.2.1 5 = .ok (.invokevirtual 101, 3) := by decide +kernel
theorem dS_strike_8 : decode YS_strike.2.1 8 = .ok (.astore 4, 2) := by decide +kernel
theorem dS_strike_10 : decode YS_strike.2.1 10 = .ok (.aload 4, 2) := by decide +kernel
theorem dS_strike_12 : decode YS_strike.2.1 12 = .ok (.ifnull 21, 3) := by decide +kernel
theorem dS_strike_15 : decode YS_strike.2.1 15 = .ok (.iload_n 2, 1) := by decide +kernel
theorem dS_strike_16 : decode YS_strike.2.1 16 = .ok (.ifCond .lt 17, 3) := by decide +kernel
theorem dS_strike_19 : decode YS_strike.2.1 19 = .ok (.iload_n 2, 1) := by decide +kernel
theorem dS_strike_20 : decode YS_strike.2.1 20 = .ok (.iconst 3, 1) := by decide +kernel
theorem dS_strike_21 : decode YS_strike.2.1 21 = .ok (.if_icmp .gt 12, 3) := by decide +kernel
theorem dS_strike_24 : decode YS_strike.2.1 24 = .ok (.iload_n 2, 1) := by decide +kernel
theorem dS_strike_25 : decode YS_strike.2.1 25 = .ok (.aload 4, 2) := by decide +kernel
theorem dS_strike_27 : decode YS_strike.2.1 27 = .ok (.getfield 229, 3) := by decide +kernel
theorem dS_strike_30 : decode YS_strike.2.1 30 = .ok (.if_icmp .le 7, 3) := by decide +kernel
theorem dS_strike_33 : decode YS_strike.2.1 33 = .ok (.ldc2_w 154, 3) := by decide +kernel
theorem dS_strike_36 : decode YS_strike.2.1 36 = .ok (.lreturn, 1) := by decide +kernel
theorem dS_strike_37 : decode YS_strike.2.1 37 = .ok (.aload_n 0, 1) := by decide +kernel
theorem dS_strike_38 : decode YS_strike.2.1 38 = .ok (.getfield 65, 3) := by decide +kernel
theorem dS_strike_41 : decode YS_strike.2.1 41 = .ok (.aload 4, 2) := by decide +kernel
theorem dS_strike_43 : decode YS_strike.2.1 43 = .ok (.iload_n 2, 1) := by decide +kernel
theorem dS_strike_44 : decode YS_strike.2.1 44 = .ok (.invokevirtual 250, 3) := by decide +kernel
theorem dS_strike_47 : decode YS_strike.2.1 47 = .ok (.aload_n 0, 1) := by decide +kernel
theorem dS_strike_48 : decode YS_strike.2.1 48 = .ok (.getfield 65, 3) := by decide +kernel
theorem dS_strike_51 : decode YS_strike.2.1 51 = .ok (.iload_n 3, 1) := by decide +kernel
theorem dS_strike_52 : decode YS_strike.2.1 52 = .ok (.invokevirtual 151, 3) := by decide +kernel
theorem dS_strike_55 : decode YS_strike.2.1 55 = .ok (.lreturn, 1) := by decide +kernel
theorem dS_ruled_0 : decode YS_ruled.2.1 0 = .ok (.aload_n 0, 1) := by decide +kernel
theorem dS_ruled_1 : decode YS_ruled.2.1 1 = .ok (.getfield 10, 3) := by decide +kernel
theorem dS_ruled_4 : decode YS_ruled.2.1 4 = .ok (.iload_n 1, 1) := by decide +kernel
theorem dS_ruled_5 : decode YS_ruled.2.1 5 = .ok (.invokevirtual 101, 3) := by decide +kernel
theorem dS_ruled_8 : decode YS_ruled.2.1 8 = .ok (.astore_n 3, 1) := by decide +kernel
theorem dS_ruled_9 : decode YS_ruled.2.1 9 = .ok (.aload_n 3, 1) := by decide +kernel
theorem dS_ruled_10 : decode YS_ruled.2.1 10 = .ok (.ifnonnull 5, 3) := by decide +kernel
theorem dS_ruled_13 : decode YS_ruled.2.1 13 = .ok (.iconst (-1), 1) := by decide +kernel
theorem dS_ruled_14 : decode YS_ruled.2.1 14 = .ok (.ireturn, 1) := by decide +kernel
theorem dS_ruled_15 : decode YS_ruled.2.1 15 = .ok (.iload_n 2, 1) := by decide +kernel
theorem dS_ruled_16 : decode YS_ruled.2.1 16 = .ok (.tableswitch 64 0 3 #[32, 37, 46, 55], 32) := by decide +kernel
theorem dS_ruled_48 : decode YS_ruled.2.1 48 = .ok (.aload_n 3, 1) := by decide +kernel
theorem dS_ruled_49 : decode YS_ruled.2.1 49 = .ok (.invokevirtual 253, 3) := by decide +kernel
theorem dS_ruled_52 : decode YS_ruled.2.1 52 = .ok (.ireturn, 1) := by decide +kernel
theorem dS_ruled_53 : decode YS_ruled.2.1 53 = .ok (.aload_n 0, 1) := by decide +kernel
theorem dS_ruled_54 : decode YS_ruled.2.1 54 = .ok (.getfield 44, 3) := by decide +kernel
theorem dS_ruled_57 : decode YS_ruled.2.1 57 = .ok (.aload_n 3, 1) := by decide +kernel
theorem dS_ruled_58 : decode YS_ruled.2.1 58 = .ok (.invokevirtual 257, 3) := by decide +kernel
theorem dS_ruled_61 : decode YS_ruled.2.1 61 = .ok (.ireturn, 1) := by decide +kernel
theorem dS_ruled_62 : decode YS_ruled.2.1 62 = .ok (.aload_n 0, 1) := by decide +kernel
theorem dS_ruled_63 : decode YS_ruled.2.1 63 = .ok (.getfield 44, 3) := by decide +kernel
theorem dS_ruled_66 : decode YS_ruled.2.1 66 = .ok (.aload_n 3, 1) := by decide +kernel
theorem dS_ruled_67 : decode YS_ruled.2.1 67 = .ok (.invokevirtual 260, 3) := by decide +kernel
theorem dS_ruled_70 : decode YS_ruled.2.1 70 = .ok (.ireturn, 1) := by decide +kernel
theorem dS_ruled_71 : decode YS_ruled.2.1 71 = .ok (.aload_n 0, 1) := by decide +kernel
theorem dS_ruled_72 : decode YS_ruled.2.1 72 = .ok (.getfield 37, 3) := by decide +kernel
theorem dS_ruled_75 : decode YS_ruled.2.1 75 = .ok (.aload_n 3, 1) := by decide +kernel
theorem dS_ruled_76 : decode YS_ruled.2.1 76 = .ok (.invokevirtual 263, 3) := by decide +kernel
theorem dS_ruled_79 : decode YS_ruled.2.1 79 = .ok (.ireturn, 1) := by decide +kernel
theorem dS_ruled_80 : decode YS_ruled.2.1 80 = .ok (.aload_n 3, 1) := by decide +kernel
theorem dS_ruled_81 : decode YS_ruled.2.1 81 = .ok (.iload_n 2, 1) := by decide +kernel
theorem dS_ruled_82 : decode YS_ruled.2.1 82 = .ok (.bipush 10, 2) := by decide +kernel
theorem dS_ruled_84 : decode YS_ruled.2.1 84 = .ok (.isub, 1) := by decide +kernel
theorem dS_ruled_85 : decode YS_ruled.2.1 85 = .ok (.invokevirtual 135, 3) := by decide +kernel
theorem dS_ruled_88 : decode YS_ruled.2.1 88 = .ok (.ifCond .eq 18, 3) := by decide +kernel
theorem dS_ruled_91 : decode YS_ruled.2.1 91 = .ok (.aload_n 0, 1) := by decide +kernel
theorem dS_ruled_92 : decode YS_ruled.2.1 92 = .ok (.getfield 37, 3) := by decide +kernel
theorem dS_ruled_95 : decode YS_ruled.2.1 95 = .ok (.aload_n 3, 1) := by decide +kernel
theorem dS_ruled_96 : decode YS_ruled.2.1 96 = .ok (.iload_n 2, 1) := by decide +kernel
theorem dS_ruled_97 : decode YS_ruled.2.1 97 = .ok (.bipush 10, 2) := by decide +kernel
theorem dS_ruled_99 : decode YS_ruled.2.1 99 = .ok (.isub, 1) := by decide +kernel
theorem dS_ruled_100 : decode YS_ruled.2.1 100 = .ok (.invokevirtual 266, 3) := by decide +kernel
theorem dS_ruled_103 : decode YS_ruled.2.1 103 = .ok (.goto 4, 3) := by decide +kernel
theorem dS_ruled_106 : decode YS_ruled.2.1 106 = .ok (.iconst (-1), 1) := by decide +kernel
theorem dS_ruled_107 : decode YS_ruled.2.1 107 = .ok (.ireturn, 1) := by decide +kernel
theorem dS_after_0 : decode YS_after.2.1 0 = .ok (.aload_n 0, 1) := by decide +kernel
theorem dS_after_1 : decode YS_after.2.1 1 = .ok (.getfield 10, 3) := by decide +kernel
theorem dS_after_4 : decode YS_after.2.1 4 = .ok (.iload_n 1, 1) := by decide +kernel
theorem dS_after_5 : decode YS_after.2.1 5 = .ok (.invokevirtual 101, 3) := by decide +kernel
theorem dS_after_8 : decode YS_after.2.1 8 = .ok (.astore 4, 2) := by decide +kernel
theorem dS_after_10 : decode YS_after.2.1 10 = .ok (.aload_n 0, 1) := by decide +kernel
theorem dS_after_11 : decode YS_after.2.1 11 = .ok (.getfield 10, 3) := by decide +kernel
theorem dS_after_14 : decode YS_after.2.1 14 = .ok (.iload_n 2, 1) := by decide +kernel
theorem dS_after_15 : decode YS_after.2.1 15 = .ok (.invokevirtual 119, 3) := by decide +kernel
theorem dS_after_18 : decode YS_after.2.1 18 = .ok (.astore 5, 2) := by decide +kernel
theorem dS_after_20 : decode YS_after.2.1 20 = .ok (.aload 4, 2) := by decide +kernel
theorem dS_after_22 : decode YS_after.2.1 22 = .ok (.ifnull 8, 3) := by decide +kernel
theorem dS_after_25 : decode YS_after.2.1 25 = .ok (.aload 5, 2) := by decide +kernel
theorem dS_after_27 : decode YS_after.2.1 27 = .ok (.ifnonnull 7, 3) := by decide +kernel
theorem dS_after_30 : decode YS_after.2.1 30 = .ok (.sipush (-1000), 3) := by decide +kernel
theorem dS_after_33 : decode YS_after.2.1 33 = .ok (.ireturn, 1) := by decide +kernel
theorem dS_after_34 : decode YS_after.2.1 34 = .ok (.aload_n 0, 1) := by decide +kernel
theorem dS_after_35 : decode YS_after.2.1 35 = .ok (.getfield 30, 3) := by decide +kernel
theorem dS_after_38 : decode YS_after.2.1 38 = .ok (.aload 4, 2) := by decide +kernel
theorem dS_after_40 : decode YS_after.2.1 40 = .ok (.aload 5, 2) := by decide +kernel
theorem dS_after_42 : decode YS_after.2.1 42 = .ok (.aload 5, 2) := by decide +kernel
theorem dS_after_44 : decode YS_after.2.1 44 = .ok (.getfield 127, 3) := by decide +kernel
theorem dS_after_47 : decode YS_after.2.1 47 = .ok (.invokevirtual 130, 3) := by decide +kernel
theorem dS_after_50 : decode YS_after.2.1 50 = .ok (.pop, 1) := by decide +kernel
theorem dS_after_51 : decode YS_after.2.1 51 = .ok (.iload_n 3, 1) := by decide +kernel
theorem dS_after_52 : decode YS_after.2.1 52 = .ok (.tableswitch 64 0 3 #[32, 40, 48, 56], 32) := by decide +kernel
theorem dS_after_84 : decode YS_after.2.1 84 = .ok (.aload_n 0, 1) := by decide +kernel
theorem dS_after_85 : decode YS_after.2.1 85 = .ok (.getfield 30, 3) := by decide +kernel
theorem dS_after_88 : decode YS_after.2.1 88 = .ok (.getfield 270, 3) := by decide +kernel
theorem dS_after_91 : decode YS_after.2.1 91 = .ok (.ireturn, 1) := by decide +kernel
theorem dS_after_92 : decode YS_after.2.1 92 = .ok (.aload_n 0, 1) := by decide +kernel
theorem dS_after_93 : decode YS_after.2.1 93 = .ok (.getfield 30, 3) := by decide +kernel
theorem dS_after_96 : decode YS_after.2.1 96 = .ok (.getfield 273, 3) := by decide +kernel
theorem dS_after_99 : decode YS_after.2.1 99 = .ok (.ireturn, 1) := by decide +kernel
theorem dS_after_100 : decode YS_after.2.1 100 = .ok (.aload_n 0, 1) := by decide +kernel
theorem dS_after_101 : decode YS_after.2.1 101 = .ok (.getfield 30, 3) := by decide +kernel
theorem dS_after_104 : decode YS_after.2.1 104 = .ok (.getfield 276, 3) := by decide +kernel
theorem dS_after_107 : decode YS_after.2.1 107 = .ok (.ireturn, 1) := by decide +kernel
theorem dS_after_108 : decode YS_after.2.1 108 = .ok (.aload_n 0, 1) := by decide +kernel
theorem dS_after_109 : decode YS_after.2.1 109 = .ok (.getfield 30, 3) := by decide +kernel
theorem dS_after_112 : decode YS_after.2.1 112 = .ok (.getfield 279, 3) := by decide +kernel
theorem dS_after_115 : decode YS_after.2.1 115 = .ok (.ireturn, 1) := by decide +kernel
theorem dS_after_116 : decode YS_after.2.1 116 = .ok (.sipush (-1000), 3) := by decide +kernel
theorem dS_after_119 : decode YS_after.2.1 119 = .ok (.ireturn, 1) := by decide +kernel
theorem dS_then_0 : decode YS_then.2.1 0 = .ok (.aload_n 0, 1) := by decide +kernel
theorem dS_then_1 : decode YS_then.2.1 1 = .ok (.getfield 10, 3) := by decide +kernel
theorem dS_then_4 : decode YS_then.2.1 4 = .ok (.iload_n 1, 1) := by decide +kernel
theorem dS_then_5 : decode YS_then.2.1 5 = .ok (.invokevirtual 101, 3) := by decide +kernel
theorem dS_then_8 : decode YS_then.2.1 8 = .ok (.astore 5, 2) := by decide +kernel
theorem dS_then_10 : decode YS_then.2.1 10 = .ok (.aload_n 0, 1) := by decide +kernel
theorem dS_then_11 : decode YS_then.2.1 11 = .ok (.getfield 10, 3) := by decide +kernel
theorem dS_then_14 : decode YS_then.2.1 14 = .ok (.iload_n 2, 1) := by decide +kernel
theorem dS_then_15 : decode YS_then.2.1 15 = .ok (.invokevirtual 189, 3) := by decide +kernel
theorem dS_then_18 : decode YS_then.2.1 18 = .ok (.astore 6, 2) := by decide +kernel
theorem dS_then_20 : decode YS_then.2.1 20 = .ok (.aload 5, 2) := by decide +kernel
theorem dS_then_22 : decode YS_then.2.1 22 = .ok (.ifnull 18, 3) := by decide +kernel
theorem dS_then_25 : decode YS_then.2.1 25 = .ok (.aload 6, 2) := by decide +kernel
theorem dS_then_27 : decode YS_then.2.1 27 = .ok (.ifnull 13, 3) := by decide +kernel
theorem dS_then_30 : decode YS_then.2.1 30 = .ok (.aload 5, 2) := by decide +kernel
theorem dS_then_32 : decode YS_then.2.1 32 = .ok (.iload 4, 2) := by decide +kernel
theorem dS_then_34 : decode YS_then.2.1 34 = .ok (.invokevirtual 135, 3) := by decide +kernel
theorem dS_then_37 : decode YS_then.2.1 37 = .ok (.ifCond .ne 7, 3) := by decide +kernel
theorem dS_then_40 : decode YS_then.2.1 40 = .ok (.sipush (-1000), 3) := by decide +kernel
theorem dS_then_43 : decode YS_then.2.1 43 = .ok (.ireturn, 1) := by decide +kernel
theorem dS_then_44 : decode YS_then.2.1 44 = .ok (.aload_n 0, 1) := by decide +kernel
theorem dS_then_45 : decode YS_then.2.1 45 = .ok (.getfield 58, 3) := by decide +kernel
theorem dS_then_48 : decode YS_then.2.1 48 = .ok (.aload 5, 2) := by decide +kernel
theorem dS_then_50 : decode YS_then.2.1 50 = .ok (.aload 6, 2) := by decide +kernel
theorem dS_then_52 : decode YS_then.2.1 52 = .ok (.invokevirtual 200, 3) := by decide +kernel
theorem dS_then_55 : decode YS_then.2.1 55 = .ok (.iload_n 3, 1) := by decide +kernel
theorem dS_then_56 : decode YS_then.2.1 56 = .ok (.ifCond .lt 14, 3) := by decide +kernel
theorem dS_then_59 : decode YS_then.2.1 59 = .ok (.iload_n 3, 1) := by decide +kernel
theorem dS_then_60 : decode YS_then.2.1 60 = .ok (.aload_n 0, 1) := by decide +kernel
theorem dS_then_61 : decode YS_then.2.1 61 = .ok (.getfield 58, 3) := by decide +kernel
theorem dS_then_64 : decode YS_then.2.1 64 = .ok (.getfield 282, 3) := by decide +kernel
theorem dS_then_67 : decode YS_then.2.1 67 = .ok (.if_icmp .lt 9, 3) := by decide +kernel
theorem dS_then_70 : decode YS_then.2.1 70 = .ok (.sipush (-1000), 3) := by decide +kernel
theorem dS_then_73 : decode YS_then.2.1 73 = .ok (.goto 13, 3) := by decide +kernel
theorem dS_then_76 : decode YS_then.2.1 76 = .ok (.aload_n 0, 1) := by decide +kernel
theorem dS_then_77 : decode YS_then.2.1 77 = .ok (.getfield 58, 3) := by decide +kernel
theorem dS_then_80 : decode YS_then.2.1 80 = .ok (.iload_n 3, 1) := by decide +kernel
theorem dS_then_81 : decode YS_then.2.1 81 = .ok (.iload 4, 2) := by decide +kernel
theorem dS_then_83 : decode YS_then.2.1 83 = .ok (.invokevirtual 283, 3) := by decide +kernel
theorem dS_then_86 : decode YS_then.2.1 86 = .ok (.ireturn, 1) := by decide +kernel
theorem dS_count_0 : decode YS_count.2.1 0 = .ok (.iload_n 1, 1) := by decide +kernel
theorem dS_count_1 : decode YS_count.2.1 1 = .ok (.ifCond .lt 8, 3) := by decide +kernel
theorem dS_count_4 : decode YS_count.2.1 4 = .ok (.iload_n 1, 1) := by decide +kernel
theorem dS_count_5 : decode YS_count.2.1 5 = .ok (.iconst 3, 1) := by decide +kernel
theorem dS_count_6 : decode YS_count.2.1 6 = .ok (.if_icmp .lt 8, 3) := by decide +kernel
theorem dS_count_9 : decode YS_count.2.1 9 = .ok (.bipush (-2), 2) := by decide +kernel
theorem dS_count_11 : decode YS_count.2.1 11 = .ok (.goto 12, 3) := by decide +kernel
theorem dS_count_14 : decode YS_count.2.1 14 = .ok (.aload_n 0, 1) := by decide +kernel
theorem dS_count_15 : decode YS_count.2.1 15 = .ok (.getfield 10, 3) := by decide +kernel
theorem dS_count_18 : decode YS_count.2.1 18 = .ok (.getfield 285, 3) := by decide +kernel
theorem dS_count_21 : decode YS_count.2.1 21 = .ok (.iload_n 1, 1) := by decide +kernel
theorem dS_count_22 : decode YS_count.2.1 22 = .ok (.iaload, 1) := by decide +kernel
theorem dS_count_23 : decode YS_count.2.1 23 = .ok (.ireturn, 1) := by decide +kernel
theorem dS_image_0 : decode YS_image.2.1 0 = .ok (.iload_n 1, 1) := by decide +kernel
theorem dS_image_1 : decode YS_image.2.1 1 = .ok (.ifCond .lt 8, 3) := by decide +kernel
theorem dS_image_4 : decode YS_image.2.1 4 = .ok (.iload_n 1, 1) := by decide +kernel
theorem dS_image_5 : decode YS_image.2.1 5 = .ok (.iconst 3, 1) := by decide +kernel
theorem dS_image_6 : decode YS_image.2.1 6 = .ok (.if_icmp .lt 5, 3) := by decide +kernel
theorem dS_image_9 : decode YS_image.2.1 9 = .ok (.iconst 0, 1) := by decide +kernel
theorem dS_image_10 : decode YS_image.2.1 10 = .ok (.ireturn, 1) := by decide +kernel
theorem dS_image_11 : decode YS_image.2.1 11 = .ok (.aload_n 0, 1) := by decide +kernel
theorem dS_image_12 : decode YS_image.2.1 12 = .ok (.getfield 16, 3) := by decide +kernel
theorem dS_image_15 : decode YS_image.2.1 15 = .ok (.iload_n 1, 1) := by decide +kernel
theorem dS_image_16 : decode YS_image.2.1 16 = .ok (.aaload, 1) := by decide +kernel
theorem dS_image_17 : decode YS_image.2.1 17 = .ok (.ifnonnull 16, 3) := by decide +kernel
theorem dS_image_20 : decode YS_image.2.1 20 = .ok (.aload_n 0, 1) := by decide +kernel
theorem dS_image_21 : decode YS_image.2.1 21 = .ok (.getfield 16, 3) := by decide +kernel
theorem dS_image_24 : decode YS_image.2.1 24 = .ok (.iload_n 1, 1) := by decide +kernel
theorem dS_image_25 : decode YS_image.2.1 25 = .ok (.new 7, 3) := by decide +kernel
theorem dS_image_28 : decode YS_image.2.1 28 = .ok (.dup, 1) := by decide +kernel
theorem dS_image_29 : decode YS_image.2.1 29 = .ok (.invokespecial 9, 3) := by decide +kernel
theorem dS_image_32 : decode YS_image.2.1 32 = .ok (.aastore, 1) := by decide +kernel
theorem dS_image_33 : decode YS_image.2.1 33 = .ok (.aload_n 0, 1) := by decide +kernel
theorem dS_image_34 : decode YS_image.2.1 34 = .ok (.getfield 16, 3) := by decide +kernel
theorem dS_image_37 : decode YS_image.2.1 37 = .ok (.iload_n 1, 1) := by decide +kernel
theorem dS_image_38 : decode YS_image.2.1 38 = .ok (.aaload, 1) := by decide +kernel
theorem dS_image_39 : decode YS_image.2.1 39 = .ok (.aload_n 0, 1) := by decide +kernel
theorem dS_image_40 : decode YS_image.2.1 40 = .ok (.getfield 10, 3) := by decide +kernel
theorem dS_image_43 : decode YS_image.2.1 43 = .ok (.invokevirtual 288, 3) := by decide +kernel
theorem dS_image_46 : decode YS_image.2.1 46 = .ok (.iconst 1, 1) := by decide +kernel
theorem dS_image_47 : decode YS_image.2.1 47 = .ok (.ireturn, 1) := by decide +kernel
theorem dS_again_0 : decode YS_again.2.1 0 = .ok (.iload_n 1, 1) := by decide +kernel
theorem dS_again_1 : decode YS_again.2.1 1 = .ok (.ifCond .lt 17, 3) := by decide +kernel
theorem dS_again_4 : decode YS_again.2.1 4 = .ok (.iload_n 1, 1) := by decide +kernel
theorem dS_again_5 : decode YS_again.2.1 5 = .ok (.iconst 3, 1) := by decide +kernel
theorem dS_again_6 : decode YS_again.2.1 6 = .ok (.if_icmp .ge 12, 3) := by decide +kernel
theorem dS_again_9 : decode YS_again.2.1 9 = .ok (.aload_n 0, 1) := by decide +kernel
theorem dS_again_10 : decode YS_again.2.1 10 = .ok (.getfield 16, 3) := by decide +kernel
theorem dS_again_13 : decode YS_again.2.1 13 = .ok (.iload_n 1, 1) := by decide +kernel
theorem dS_again_14 : decode YS_again.2.1 14 = .ok (.aaload, 1) := by decide +kernel
theorem dS_again_15 : decode YS_again.2.1 15 = .ok (.ifnonnull 5, 3) := by decide +kernel
theorem dS_again_18 : decode YS_again.2.1 18 = .ok (.iconst 0, 1) := by decide +kernel
theorem dS_again_19 : decode YS_again.2.1 19 = .ok (.ireturn, 1) := by decide +kernel
theorem dS_again_20 : decode YS_again.2.1 20 = .ok (.aload_n 0, 1) := by decide +kernel
theorem dS_again_21 : decode YS_again.2.1 21 = .ok (.getfield 10, 3) := by decide +kernel
theorem dS_again_24 : decode YS_again.2.1 24 = .ok (.aload_n 0, 1) := by decide +kernel
theorem dS_again_25 : decode YS_again.2.1 25 = .ok (.getfield 16, 3) := by decide +kernel
theorem dS_again_28 : decode YS_again.2.1 28 = .ok (.iload_n 1, 1) := by decide +kernel
theorem dS_again_29 : decode YS_again.2.1 29 = .ok (.aaload, 1) := by decide +kernel
theorem dS_again_30 : decode YS_again.2.1 30 = .ok (.invokevirtual 288, 3) := by decide +kernel
theorem dS_again_33 : decode YS_again.2.1 33 = .ok (.iconst 1, 1) := by decide +kernel
theorem dS_again_34 : decode YS_again.2.1 34 = .ok (.ireturn, 1) := by decide +kernel
theorem dM_init_0 : decode YM_init.2.1 0 = .ok (.aload_n 0, 1) := by decide +kernel
theorem dM_init_1 : decode YM_init.2.1 1 = .ok (.invokespecial 1, 3) := by decide +kernel
theorem dM_init_4 : decode YM_init.2.1 4 = .ok (.aload_n 0, 1) := by decide +kernel
theorem dM_init_5 : decode YM_init.2.1 5 = .ok (.sipush 2400, 3) := by decide +kernel
theorem dM_init_8 : decode YM_init.2.1 8 = .ok (.newarray .byte, 2) := by decide +kernel
theorem dM_init_10 : decode YM_init.2.1 10 = .ok (.putfield 7, 3) := by decide +kernel
theorem dM_init_13 : decode YM_init.2.1 13 = .ok (.aload_n 0, 1) := by decide +kernel
theorem dM_init_14 : decode YM_init.2.1 14 = .ok (.iconst 4, 1) := by decide +kernel
theorem dM_init_15 : decode YM_init.2.1 15 = .ok (.newarray .int, 2) := by decide +kernel
theorem dM_init_17 : decode YM_init.2.1 17 = .ok (.putfield 13, 3) := by decide +kernel
theorem dM_init_20 : decode YM_init.2.1 20 = .ok (.aload_n 0, 1) := by decide +kernel
theorem dM_init_21 : decode YM_init.2.1 21 = .ok (.iconst 4, 1) := by decide +kernel
theorem dM_init_22 : decode YM_init.2.1 22 = .ok (.newarray .int, 2) := by decide +kernel
theorem dM_init_24 : decode YM_init.2.1 24 = .ok (.putfield 17, 3) := by decide +kernel
theorem dM_init_27 : decode YM_init.2.1 27 = .ok (.aload_n 0, 1) := by decide +kernel
theorem dM_init_28 : decode YM_init.2.1 28 = .ok (.iconst 4, 1) := by decide +kernel
theorem dM_init_29 : decode YM_init.2.1 29 = .ok (.newarray .int, 2) := by decide +kernel
theorem dM_init_31 : decode YM_init.2.1 31 = .ok (.putfield 20, 3) := by decide +kernel
theorem dM_init_34 : decode YM_init.2.1 34 = .ok (.aload_n 0, 1) := by decide +kernel
theorem dM_init_35 : decode YM_init.2.1 35 = .ok (.bipush 12, 2) := by decide +kernel
theorem dM_init_37 : decode YM_init.2.1 37 = .ok (.newarray .int, 2) := by decide +kernel
theorem dM_init_39 : decode YM_init.2.1 39 = .ok (.putfield 23, 3) := by decide +kernel
theorem dM_init_42 : decode YM_init.2.1 42 = .ok (.aload_n 0, 1) := by decide +kernel
theorem dM_init_43 : decode YM_init.2.1 43 = .ok (.sipush 600, 3) := by decide +kernel
theorem dM_init_46 : decode YM_init.2.1 46 = .ok (.newarray .int, 2) := by decide +kernel
theorem dM_init_48 : decode YM_init.2.1 48 = .ok (.putfield 26, 3) := by decide +kernel
theorem dM_init_51 : decode YM_init.2.1 51 = .ok (.aload_n 0, 1) := by decide +kernel
theorem dM_init_52 : decode YM_init.2.1 52 = .ok (.sipush 968, 3) := by decide +kernel
theorem dM_init_55 : decode YM_init.2.1 55 = .ok (.newarray .int, 2) := by decide +kernel
theorem dM_init_57 : decode YM_init.2.1 57 = .ok (.putfield 29, 3) := by decide +kernel
theorem dM_init_60 : decode YM_init.2.1 60 = .ok (.aload_n 0, 1) := by decide +kernel
theorem dM_init_61 : decode YM_init.2.1 61 = .ok (.sipush 136, 3) := by decide +kernel
theorem dM_init_64 : decode YM_init.2.1 64 = .ok (.newarray .int, 2) := by decide +kernel
theorem dM_init_66 : decode YM_init.2.1 66 = .ok (.putfield 32, 3) := by decide +kernel
theorem dM_init_69 : decode YM_init.2.1 69 = .ok (.aload_n 0, 1) := by decide +kernel
theorem dM_init_70 : decode YM_init.2.1 70 = .ok (.bipush 121, 2) := by decide +kernel
theorem dM_init_72 : decode YM_init.2.1 72 = .ok (.newarray .int, 2) := by decide +kernel
theorem dM_init_74 : decode YM_init.2.1 74 = .ok (.putfield 35, 3) := by decide +kernel
theorem dM_init_77 : decode YM_init.2.1 77 = .ok (.aload_n 0, 1) := by decide +kernel
theorem dM_init_78 : decode YM_init.2.1 78 = .ok (.iconst 3, 1) := by decide +kernel
theorem dM_init_79 : decode YM_init.2.1 79 = .ok (.newarray .int, 2) := by decide +kernel
theorem dM_init_81 : decode YM_init.2.1 81 = .ok (.putfield 38, 3) := by decide +kernel
theorem dM_init_84 : decode YM_init.2.1 84 = .ok (.aload_n 0, 1) := by decide +kernel
theorem dM_init_85 : decode YM_init.2.1 85 = .ok (.bipush 10, 2) := by decide +kernel
theorem dM_init_87 : decode YM_init.2.1 87 = .ok (.newarray .int, 2) := by decide +kernel
theorem dM_init_89 : decode YM_init.2.1 89 = .ok (.putfield 41, 3) := by decide +kernel
theorem dM_init_92 : decode YM_init.2.1 92 = .ok (.aload_n 0, 1) := by decide +kernel
theorem dM_init_93 : decode YM_init.2.1 93 = .ok (.bipush 6, 2) := by decide +kernel
theorem dM_init_95 : decode YM_init.2.1 95 = .ok (.newarray .int, 2) := by decide +kernel
theorem dM_init_97 : decode YM_init.2.1 97 = .ok (.putfield 44, 3) := by decide +kernel
theorem dM_init_100 : decode YM_init.2.1 100 = .ok (.aload_n 0, 1) := by decide +kernel
theorem dM_init_101 : decode YM_init.2.1 101 = .ok (.bipush 6, 2) := by decide +kernel
theorem dM_init_103 : decode YM_init.2.1 103 = .ok (.newarray .int, 2) := by decide +kernel
theorem dM_init_105 : decode YM_init.2.1 105 = .ok (.putfield 47, 3) := by decide +kernel
theorem dM_init_108 : decode YM_init.2.1 108 = .ok (.aload_n 0, 1) := by decide +kernel
theorem dM_init_109 : decode YM_init.2.1 109 = .ok (.bipush 6, 2) := by decide +kernel
theorem dM_init_111 : decode YM_init.2.1 111 = .ok (.newarray .int, 2) := by decide +kernel
theorem dM_init_113 : decode YM_init.2.1 113 = .ok (.putfield 50, 3) := by decide +kernel
theorem dM_init_116 : decode YM_init.2.1 116 = .ok (.aload_n 0, 1) := by decide +kernel
theorem dM_init_117 : decode YM_init.2.1 117 = .ok (.sipush 5120, 3) := by decide +kernel
theorem dM_init_120 : decode YM_init.2.1 120 = .ok (.newarray .int, 2) := by decide +kernel
theorem dM_init_122 : decode YM_init.2.1 122 = .ok (.putfield 53, 3) := by decide +kernel
theorem dM_init_125 : decode YM_init.2.1 125 = .ok (.aload_n 0, 1) := by decide +kernel
theorem dM_init_126 : decode YM_init.2.1 126 = .ok (.sipush 1024, 3) := by decide +kernel
theorem dM_init_129 : decode YM_init.2.1 129 = .ok (.newarray .boolean, 2) := by decide +kernel
theorem dM_init_131 : decode YM_init.2.1 131 = .ok (.putfield 56, 3) := by decide +kernel
theorem dM_init_134 : decode YM_init.2.1 134 = .ok (.aload_n 0, 1) := by decide +kernel
theorem dM_init_135 : decode YM_init.2.1 135 = .ok (.sipush 1024, 3) := by decide +kernel
theorem dM_init_138 : decode YM_init.2.1 138 = .ok (.newarray .int, 2) := by decide +kernel
theorem dM_init_140 : decode YM_init.2.1 140 = .ok (.putfield 60, 3) := by decide +kernel
theorem dM_init_143 : decode YM_init.2.1 143 = .ok (.aload_n 0, 1) := by decide +kernel
theorem dM_init_144 : decode YM_init.2.1 144 = .ok (.bipush 10, 2) := by decide +kernel
theorem dM_init_146 : decode YM_init.2.1 146 = .ok (.newarray .int, 2) := by decide +kernel
theorem dM_init_148 : decode YM_init.2.1 148 = .ok (.putfield 63, 3) := by decide +kernel
theorem dM_init_151 : decode YM_init.2.1 151 = .ok (.aload_n 0, 1) := by decide +kernel
theorem dM_init_152 : decode YM_init.2.1 152 = .ok (.sipush 1024, 3) := by decide +kernel
theorem dM_init_155 : decode YM_init.2.1 155 = .ok (.newarray .boolean, 2) := by decide +kernel
theorem dM_init_157 : decode YM_init.2.1 157 = .ok (.putfield 66, 3) := by decide +kernel
theorem dM_init_160 : decode YM_init.2.1 160 = .ok (.aload_n 0, 1) := by decide +kernel
theorem dM_init_161 : decode YM_init.2.1 161 = .ok (.sipush 1024, 3) := by decide +kernel
theorem dM_init_164 : decode YM_init.2.1 164 = .ok (.newarray .boolean, 2) := by decide +kernel
theorem dM_init_166 : decode YM_init.2.1 166 = .ok (.putfield 69, 3) := by decide +kernel
theorem dM_init_169 : decode YM_init.2.1 169 = .ok (.aload_n 0, 1) := by decide +kernel
theorem dM_init_170 : decode YM_init.2.1 170 = .ok (.bipush 121, 2) := by decide +kernel
theorem dM_init_172 : decode YM_init.2.1 172 = .ok (.newarray .int, 2) := by decide +kernel
theorem dM_init_174 : decode YM_init.2.1 174 = .ok (.putfield 72, 3) := by decide +kernel
theorem dM_init_177 : decode YM_init.2.1 177 = .ok (.aload_n 0, 1) := by decide +kernel
theorem dM_init_178 : decode YM_init.2.1 178 = .ok (.bipush 61, 2) := by decide +kernel
theorem dM_init_180 : decode YM_init.2.1 180 = .ok (.newarray .int, 2) := by decide +kernel
theorem dM_init_182 : decode YM_init.2.1 182 = .ok (.putfield 75, 3) := by decide +kernel
theorem dM_init_185 : decode YM_init.2.1 185 = .ok (.aload_n 0, 1) := by decide +kernel
theorem dM_init_186 : decode YM_init.2.1 186 = .ok (.sipush 366, 3) := by decide +kernel
theorem dM_init_189 : decode YM_init.2.1 189 = .ok (.newarray .int, 2) := by decide +kernel
theorem dM_init_191 : decode YM_init.2.1 191 = .ok (.putfield 78, 3) := by decide +kernel
theorem dM_init_194 : decode YM_init.2.1 194 = .ok (.aload_n 0, 1) := by decide +kernel
theorem dM_init_195 : decode YM_init.2.1 195 = .ok (.bipush 10, 2) := by decide +kernel
theorem dM_init_197 : decode YM_init.2.1 197 = .ok (.newarray .int, 2) := by decide +kernel
theorem dM_init_199 : decode YM_init.2.1 199 = .ok (.putfield 81, 3) := by decide +kernel
theorem dM_init_202 : decode YM_init.2.1 202 = .ok (.aload_n 0, 1) := by decide +kernel
theorem dM_init_203 : decode YM_init.2.1 203 = .ok (.bipush 6, 2) := by decide +kernel
theorem dM_init_205 : decode YM_init.2.1 205 = .ok (.newarray .int, 2) := by decide +kernel
theorem dM_init_207 : decode YM_init.2.1 207 = .ok (.putfield 84, 3) := by decide +kernel
theorem dM_init_210 : decode YM_init.2.1 210 = .ok (.aload_n 0, 1) := by decide +kernel
theorem dM_init_211 : decode YM_init.2.1 211 = .ok (.iconst 3, 1) := by decide +kernel
theorem dM_init_212 : decode YM_init.2.1 212 = .ok (.newarray .boolean, 2) := by decide +kernel
theorem dM_init_214 : decode YM_init.2.1 214 = .ok (.putfield 87, 3) := by decide +kernel
theorem dM_init_217 : decode YM_init.2.1 217 = .ok (.aload_n 0, 1) := by decide +kernel
theorem dM_init_218 : decode YM_init.2.1 218 = .ok (.getfield 20, 3) := by decide +kernel
theorem dM_init_221 : decode YM_init.2.1 221 = .ok (.iconst 0, 1) := by decide +kernel
theorem dM_init_222 : decode YM_init.2.1 222 = .ok (.iconst (-1), 1) := by decide +kernel
theorem dM_init_223 : decode YM_init.2.1 223 = .ok (.iastore, 1) := by decide +kernel
theorem dM_init_224 : decode YM_init.2.1 224 = .ok (.return_, 1) := by decide +kernel
theorem dM_in_0 : decode YM_in.2.1 0 = .ok (.iload_n 0, 1) := by decide +kernel
theorem dM_in_1 : decode YM_in.2.1 1 = .ok (.iload_n 1, 1) := by decide +kernel
theorem dM_in_2 : decode YM_in.2.1 2 = .ok (.if_icmp .lt 12, 3) := by decide +kernel
theorem dM_in_5 : decode YM_in.2.1 5 = .ok (.iload_n 0, 1) := by decide +kernel
theorem dM_in_6 : decode YM_in.2.1 6 = .ok (.iload_n 2, 1) := by decide +kernel
theorem dM_in_7 : decode YM_in.2.1 7 = .ok (.if_icmp .gt 7, 3) := by decide +kernel
theorem dM_in_10 : decode YM_in.2.1 10 = .ok (.iconst 1, 1) := by decide +kernel
theorem dM_in_11 : decode YM_in.2.1 11 = .ok (.goto 4, 3) := by decide +kernel
theorem dM_in_14 : decode YM_in.2.1 14 = .ok (.iconst 0, 1) := by decide +kernel
theorem dM_in_15 : decode YM_in.2.1 15 = .ok (.ireturn, 1) := by decide +kernel
theorem dM_has_0 : decode YM_has.2.1 0 = .ok (.iload_n 0, 1) := by decide +kernel
theorem dM_has_1 : decode YM_has.2.1 1 = .ok (.iload_n 1, 1) := by decide +kernel
theorem dM_has_2 : decode YM_has.2.1 2 = .ok (.ishr, 1) := by decide +kernel
theorem dM_has_3 : decode YM_has.2.1 3 = .ok (.iconst 1, 1) := by decide +kernel
theorem dM_has_4 : decode YM_has.2.1 4 = .ok (.iand, 1) := by decide +kernel
theorem dM_has_5 : decode YM_has.2.1 5 = .ok (.iconst 1, 1) := by decide +kernel
theorem dM_has_6 : decode YM_has.2.1 6 = .ok (.if_icmp .ne 7, 3) := by decide +kernel
theorem dM_has_9 : decode YM_has.2.1 9 = .ok (.iconst 1, 1) := by decide +kernel
theorem dM_has_10 : decode YM_has.2.1 10 = .ok (.goto 4, 3) := by decide +kernel
theorem dM_has_13 : decode YM_has.2.1 13 = .ok (.iconst 0, 1) := by decide +kernel
theorem dM_has_14 : decode YM_has.2.1 14 = .ok (.ireturn, 1) := by decide +kernel
theorem dM_greater_0 : decode YM_greater.2.1 0 = .ok (.iload_n 0, 1) := by decide +kernel
theorem dM_greater_1 : decode YM_greater.2.1 1 = .ok (.iload_n 1, 1) := by decide +kernel
theorem dM_greater_2 : decode YM_greater.2.1 2 = .ok (.if_icmp .le 7, 3) := by decide +kernel
theorem dM_greater_5 : decode YM_greater.2.1 5 = .ok (.iload_n 0, 1) := by decide +kernel
theorem dM_greater_6 : decode YM_greater.2.1 6 = .ok (.goto 4, 3) := by decide +kernel
theorem dM_greater_9 : decode YM_greater.2.1 9 = .ok (.iload_n 1, 1) := by decide +kernel
theorem dM_greater_10 : decode YM_greater.2.1 10 = .ok (.ireturn, 1) := by decide +kernel
theorem dM_lesser_0 : decode YM_lesser.2.1 0 = .ok (.iload_n 0, 1) := by decide +kernel
theorem dM_lesser_1 : decode YM_lesser.2.1 1 = .ok (.iload_n 1, 1) := by decide +kernel
theorem dM_lesser_2 : decode YM_lesser.2.1 2 = .ok (.if_icmp .ge 7, 3) := by decide +kernel
theorem dM_lesser_5 : decode YM_lesser.2.1 5 = .ok (.iload_n 0, 1) := by decide +kernel
theorem dM_lesser_6 : decode YM_lesser.2.1 6 = .ok (.goto 4, 3) := by decide +kernel
theorem dM_lesser_9 : decode YM_lesser.2.1 9 = .ok (.iload_n 1, 1) := by decide +kernel
theorem dM_lesser_10 : decode YM_lesser.2.1 10 = .ok (.ireturn, 1) := by decide +kernel
theorem dM_ones_0 : decode YM_ones.2.1 0 = .ok (.iconst 0, 1) := by decide +kernel
theorem dM_ones_1 : decode YM_ones.2.1 1 = .ok (.istore_n 1, 1) := by decide +kernel
theorem dM_ones_2 : decode YM_ones.2.1 2 = .ok (.iconst 0, 1) := by decide +kernel
theorem dM_ones_3 : decode YM_ones.2.1 3 = .ok (.istore_n 2, 1) := by decide +kernel
theorem dM_ones_4 : decode YM_ones.2.1 4 = .ok (.iload_n 2, 1) := by decide +kernel
theorem dM_ones_5 : decode YM_ones.2.1 5 = .ok (.bipush 10, 2) := by decide +kernel
theorem dM_ones_7 : decode YM_ones.2.1 7 = .ok (.if_icmp .ge 25, 3) := by decide +kernel
theorem dM_ones_10 : decode YM_ones.2.1 10 = .ok (.iload_n 1, 1) := by decide +kernel
theorem dM_ones_11 : decode YM_ones.2.1 11 = .ok (.iload_n 0, 1) := by decide +kernel
theorem dM_ones_12 : decode YM_ones.2.1 12 = .ok (.iload_n 2, 1) := by decide +kernel
theorem dM_ones_13 : decode YM_ones.2.1 13 = .ok (.invokestatic 94, 3) := by decide +kernel
theorem dM_ones_16 : decode YM_ones.2.1 16 = .ok (.ifCond .eq 7, 3) := by decide +kernel
theorem dM_ones_19 : decode YM_ones.2.1 19 = .ok (.iconst 1, 1) := by decide +kernel
theorem dM_ones_20 : decode YM_ones.2.1 20 = .ok (.goto 4, 3) := by decide +kernel
theorem dM_ones_23 : decode YM_ones.2.1 23 = .ok (.iconst 0, 1) := by decide +kernel
theorem dM_ones_24 : decode YM_ones.2.1 24 = .ok (.iadd, 1) := by decide +kernel
theorem dM_ones_25 : decode YM_ones.2.1 25 = .ok (.istore_n 1, 1) := by decide +kernel
theorem dM_ones_26 : decode YM_ones.2.1 26 = .ok (.iinc 2 1, 3) := by decide +kernel
theorem dM_ones_29 : decode YM_ones.2.1 29 = .ok (.goto (-25), 3) := by decide +kernel
theorem dM_ones_32 : decode YM_ones.2.1 32 = .ok (.iload_n 1, 1) := by decide +kernel
theorem dM_ones_33 : decode YM_ones.2.1 33 = .ok (.ireturn, 1) := by decide +kernel
theorem dM_copyRow_0 : decode YM_copyRow.2.1 0 = .ok (.iconst 0, 1) := by decide +kernel
theorem dM_copyRow_1 : decode YM_copyRow.2.1 1 = .ok (.istore 4, 2) := by decide +kernel
theorem dM_copyRow_3 : decode YM_copyRow.2.1 3 = .ok (.iload 4, 2) := by decide +kernel
theorem dM_copyRow_5 : decode YM_copyRow.2.1 5 = .ok (.iload_n 1, 1) := by decide +kernel
theorem dM_copyRow_6 : decode YM_copyRow.2.1 6 = .ok (.if_icmp .ge 25, 3) := by decide +kernel
theorem dM_copyRow_9 : decode YM_copyRow.2.1 9 = .ok (.aload_n 0, 1) := by decide +kernel
theorem dM_copyRow_10 : decode YM_copyRow.2.1 10 = .ok (.iload_n 1, 1) := by decide +kernel
theorem dM_copyRow_11 : decode YM_copyRow.2.1 11 = .ok (.iload_n 3, 1) := by decide +kernel
theorem dM_copyRow_12 : decode YM_copyRow.2.1 12 = .ok (.imul, 1) := by decide +kernel
theorem dM_copyRow_13 : decode YM_copyRow.2.1 13 = .ok (.iload 4, 2) := by decide +kernel
theorem dM_copyRow_15 : decode YM_copyRow.2.1 15 = .ok (.iadd, 1) := by decide +kernel
theorem dM_copyRow_16 : decode YM_copyRow.2.1 16 = .ok (.aload_n 0, 1) := by decide +kernel
theorem dM_copyRow_17 : decode YM_copyRow.2.1 17 = .ok (.iload_n 1, 1) := by decide +kernel
theorem dM_copyRow_18 : decode YM_copyRow.2.1 18 = .ok (.iload_n 2, 1) := by decide +kernel
theorem dM_copyRow_19 : decode YM_copyRow.2.1 19 = .ok (.imul, 1) := by decide +kernel
theorem dM_copyRow_20 : decode YM_copyRow.2.1 20 = .ok (.iload 4, 2) := by decide +kernel
theorem dM_copyRow_22 : decode YM_copyRow.2.1 22 = .ok (.iadd, 1) := by decide +kernel
theorem dM_copyRow_23 : decode YM_copyRow.2.1 23 = .ok (.iaload, 1) := by decide +kernel
theorem dM_copyRow_24 : decode YM_copyRow.2.1 24 = .ok (.iastore, 1) := by decide +kernel
theorem dM_copyRow_25 : decode YM_copyRow.2.1 25 = .ok (.iinc 4 1, 3) := by decide +kernel
theorem dM_copyRow_28 : decode YM_copyRow.2.1 28 = .ok (.goto (-25), 3) := by decide +kernel
theorem dM_copyRow_31 : decode YM_copyRow.2.1 31 = .ok (.return_, 1) := by decide +kernel
theorem dM_copyAll_0 : decode YM_copyAll.2.1 0 = .ok (.iconst 0, 1) := by decide +kernel
theorem dM_copyAll_1 : decode YM_copyAll.2.1 1 = .ok (.istore_n 3, 1) := by decide +kernel
theorem dM_copyAll_2 : decode YM_copyAll.2.1 2 = .ok (.iload_n 3, 1) := by decide +kernel
theorem dM_copyAll_3 : decode YM_copyAll.2.1 3 = .ok (.sipush 600, 3) := by decide +kernel
theorem dM_copyAll_6 : decode YM_copyAll.2.1 6 = .ok (.if_icmp .ge 33, 3) := by decide +kernel
theorem dM_copyAll_9 : decode YM_copyAll.2.1 9 = .ok (.aload_n 0, 1) := by decide +kernel
theorem dM_copyAll_10 : decode YM_copyAll.2.1 10 = .ok (.getfield 7, 3) := by decide +kernel
theorem dM_copyAll_13 : decode YM_copyAll.2.1 13 = .ok (.sipush 600, 3) := by decide +kernel
theorem dM_copyAll_16 : decode YM_copyAll.2.1 16 = .ok (.iload_n 2, 1) := by decide +kernel
theorem dM_copyAll_17 : decode YM_copyAll.2.1 17 = .ok (.imul, 1) := by decide +kernel
theorem dM_copyAll_18 : decode YM_copyAll.2.1 18 = .ok (.iload_n 3, 1) := by decide +kernel
theorem dM_copyAll_19 : decode YM_copyAll.2.1 19 = .ok (.iadd, 1) := by decide +kernel
theorem dM_copyAll_20 : decode YM_copyAll.2.1 20 = .ok (.aload_n 0, 1) := by decide +kernel
theorem dM_copyAll_21 : decode YM_copyAll.2.1 21 = .ok (.getfield 7, 3) := by decide +kernel
theorem dM_copyAll_24 : decode YM_copyAll.2.1 24 = .ok (.sipush 600, 3) := by decide +kernel
theorem dM_copyAll_27 : decode YM_copyAll.2.1 27 = .ok (.iload_n 1, 1) := by decide +kernel
theorem dM_copyAll_28 : decode YM_copyAll.2.1 28 = .ok (.imul, 1) := by decide +kernel
theorem dM_copyAll_29 : decode YM_copyAll.2.1 29 = .ok (.iload_n 3, 1) := by decide +kernel
theorem dM_copyAll_30 : decode YM_copyAll.2.1 30 = .ok (.iadd, 1) := by decide +kernel
theorem dM_copyAll_31 : decode YM_copyAll.2.1 31 = .ok (.baload, 1) := by decide +kernel
theorem dM_copyAll_32 : decode YM_copyAll.2.1 32 = .ok (.bastore, 1) := by decide +kernel
theorem dM_copyAll_33 : decode YM_copyAll.2.1 33 = .ok (.iinc 3 1, 3) := by decide +kernel
theorem dM_copyAll_36 : decode YM_copyAll.2.1 36 = .ok (.goto (-34), 3) := by decide +kernel
theorem dM_copyAll_39 : decode YM_copyAll.2.1 39 = .ok (.aload_n 0, 1) := by decide +kernel
theorem dM_copyAll_40 : decode YM_copyAll.2.1 40 = .ok (.getfield 13, 3) := by decide +kernel
theorem dM_copyAll_43 : decode YM_copyAll.2.1 43 = .ok (.iconst 1, 1) := by decide +kernel
theorem dM_copyAll_44 : decode YM_copyAll.2.1 44 = .ok (.iload_n 1, 1) := by decide +kernel
theorem dM_copyAll_45 : decode YM_copyAll.2.1 45 = .ok (.iload_n 2, 1) := by decide +kernel
theorem dM_copyAll_46 : decode YM_copyAll.2.1 46 = .ok (.invokestatic 98, 3) := by decide +kernel
theorem dM_copyAll_49 : decode YM_copyAll.2.1 49 = .ok (.aload_n 0, 1) := by decide +kernel
theorem dM_copyAll_50 : decode YM_copyAll.2.1 50 = .ok (.getfield 17, 3) := by decide +kernel
theorem dM_copyAll_53 : decode YM_copyAll.2.1 53 = .ok (.iconst 1, 1) := by decide +kernel
theorem dM_copyAll_54 : decode YM_copyAll.2.1 54 = .ok (.iload_n 1, 1) := by decide +kernel
theorem dM_copyAll_55 : decode YM_copyAll.2.1 55 = .ok (.iload_n 2, 1) := by decide +kernel
theorem dM_copyAll_56 : decode YM_copyAll.2.1 56 = .ok (.invokestatic 98, 3) := by decide +kernel
theorem dM_copyAll_59 : decode YM_copyAll.2.1 59 = .ok (.aload_n 0, 1) := by decide +kernel
theorem dM_copyAll_60 : decode YM_copyAll.2.1 60 = .ok (.getfield 20, 3) := by decide +kernel
theorem dM_copyAll_63 : decode YM_copyAll.2.1 63 = .ok (.iconst 1, 1) := by decide +kernel
theorem dM_copyAll_64 : decode YM_copyAll.2.1 64 = .ok (.iload_n 1, 1) := by decide +kernel
theorem dM_copyAll_65 : decode YM_copyAll.2.1 65 = .ok (.iload_n 2, 1) := by decide +kernel
theorem dM_copyAll_66 : decode YM_copyAll.2.1 66 = .ok (.invokestatic 98, 3) := by decide +kernel
theorem dM_copyAll_69 : decode YM_copyAll.2.1 69 = .ok (.aload_n 0, 1) := by decide +kernel
theorem dM_copyAll_70 : decode YM_copyAll.2.1 70 = .ok (.getfield 23, 3) := by decide +kernel
theorem dM_copyAll_73 : decode YM_copyAll.2.1 73 = .ok (.iconst 3, 1) := by decide +kernel
theorem dM_copyAll_74 : decode YM_copyAll.2.1 74 = .ok (.iload_n 1, 1) := by decide +kernel
theorem dM_copyAll_75 : decode YM_copyAll.2.1 75 = .ok (.iload_n 2, 1) := by decide +kernel
theorem dM_copyAll_76 : decode YM_copyAll.2.1 76 = .ok (.invokestatic 98, 3) := by decide +kernel
theorem dM_copyAll_79 : decode YM_copyAll.2.1 79 = .ok (.aload_n 0, 1) := by decide +kernel
theorem dM_copyAll_80 : decode YM_copyAll.2.1 80 = .ok (.getfield 26, 3) := by decide +kernel
theorem dM_copyAll_83 : decode YM_copyAll.2.1 83 = .ok (.sipush 150, 3) := by decide +kernel
theorem dM_copyAll_86 : decode YM_copyAll.2.1 86 = .ok (.iload_n 1, 1) := by decide +kernel
theorem dM_copyAll_87 : decode YM_copyAll.2.1 87 = .ok (.iload_n 2, 1) := by decide +kernel
theorem dM_copyAll_88 : decode YM_copyAll.2.1 88 = .ok (.invokestatic 98, 3) := by decide +kernel
theorem dM_copyAll_91 : decode YM_copyAll.2.1 91 = .ok (.aload_n 0, 1) := by decide +kernel
theorem dM_copyAll_92 : decode YM_copyAll.2.1 92 = .ok (.getfield 29, 3) := by decide +kernel
theorem dM_copyAll_95 : decode YM_copyAll.2.1 95 = .ok (.sipush 242, 3) := by decide +kernel
theorem dM_copyAll_98 : decode YM_copyAll.2.1 98 = .ok (.iload_n 1, 1) := by decide +kernel
theorem dM_copyAll_99 : decode YM_copyAll.2.1 99 = .ok (.iload_n 2, 1) := by decide +kernel
theorem dM_copyAll_100 : decode YM_copyAll.2.1 100 = .ok (.invokestatic 98, 3) := by decide +kernel
theorem dM_copyAll_103 : decode YM_copyAll.2.1 103 = .ok (.aload_n 0, 1) := by decide +kernel
theorem dM_copyAll_104 : decode YM_copyAll.2.1 104 = .ok (.getfield 32, 3) := by decide +kernel
theorem dM_copyAll_107 : decode YM_copyAll.2.1 107 = .ok (.bipush 34, 2) := by decide +kernel
theorem dM_copyAll_109 : decode YM_copyAll.2.1 109 = .ok (.iload_n 1, 1) := by decide +kernel
theorem dM_copyAll_110 : decode YM_copyAll.2.1 110 = .ok (.iload_n 2, 1) := by decide +kernel
theorem dM_copyAll_111 : decode YM_copyAll.2.1 111 = .ok (.invokestatic 98, 3) := by decide +kernel
theorem dM_copyAll_114 : decode YM_copyAll.2.1 114 = .ok (.return_, 1) := by decide +kernel
theorem dM_is_0 : decode YM_is.2.1 0 = .ok (.iload_n 2, 1) := by decide +kernel
theorem dM_is_1 : decode YM_is.2.1 1 = .ok (.iconst 0, 1) := by decide +kernel
theorem dM_is_2 : decode YM_is.2.1 2 = .ok (.aload_n 0, 1) := by decide +kernel
theorem dM_is_3 : decode YM_is.2.1 3 = .ok (.getfield 23, 3) := by decide +kernel
theorem dM_is_6 : decode YM_is.2.1 6 = .ok (.iload_n 1, 1) := by decide +kernel
theorem dM_is_7 : decode YM_is.2.1 7 = .ok (.iaload, 1) := by decide +kernel
theorem dM_is_8 : decode YM_is.2.1 8 = .ok (.iconst 1, 1) := by decide +kernel
theorem dM_is_9 : decode YM_is.2.1 9 = .ok (.isub, 1) := by decide +kernel
theorem dM_is_10 : decode YM_is.2.1 10 = .ok (.invokestatic 102, 3) := by decide +kernel
theorem dM_is_13 : decode YM_is.2.1 13 = .ok (.ireturn, 1) := by decide +kernel
theorem dM_feed_0 : decode YM_feed.2.1 0 = .ok (.aload_n 0, 1) := by decide +kernel
theorem dM_feed_1 : decode YM_feed.2.1 1 = .ok (.iconst 0, 1) := by decide +kernel
theorem dM_feed_2 : decode YM_feed.2.1 2 = .ok (.putfield 90, 3) := by decide +kernel
theorem dM_feed_5 : decode YM_feed.2.1 5 = .ok (.aload_n 0, 1) := by decide +kernel
theorem dM_feed_6 : decode YM_feed.2.1 6 = .ok (.getfield 13, 3) := by decide +kernel
theorem dM_feed_9 : decode YM_feed.2.1 9 = .ok (.iconst 0, 1) := by decide +kernel
theorem dM_feed_10 : decode YM_feed.2.1 10 = .ok (.iaload, 1) := by decide +kernel
theorem dM_feed_11 : decode YM_feed.2.1 11 = .ok (.bipush 20, 2) := by decide +kernel
theorem dM_feed_13 : decode YM_feed.2.1 13 = .ok (.iadd, 1) := by decide +kernel
theorem dM_feed_14 : decode YM_feed.2.1 14 = .ok (.sipush 600, 3) := by decide +kernel
theorem dM_feed_17 : decode YM_feed.2.1 17 = .ok (.if_icmp .le 5, 3) := by decide +kernel
theorem dM_feed_20 : decode YM_feed.2.1 20 = .ok (.iconst (-1), 1) := by decide +kernel
theorem dM_feed_21 : decode YM_feed.2.1 21 = .ok (.ireturn, 1) := by decide +kernel
theorem dM_feed_22 : decode YM_feed.2.1 22 = .ok (.aload_n 0, 1) := by decide +kernel
theorem dM_feed_23 : decode YM_feed.2.1 23 = .ok (.iload_n 1, 1) := by decide +kernel
theorem dM_feed_24 : decode YM_feed.2.1 24 = .ok (.invokevirtual 106, 3) := by decide +kernel
theorem dM_feed_27 : decode YM_feed.2.1 27 = .ok (.aload_n 0, 1) := by decide +kernel
theorem dM_feed_28 : decode YM_feed.2.1 28 = .ok (.iload_n 2, 1) := by decide +kernel
theorem dM_feed_29 : decode YM_feed.2.1 29 = .ok (.invokevirtual 106, 3) := by decide +kernel
theorem dM_feed_32 : decode YM_feed.2.1 32 = .ok (.aload_n 0, 1) := by decide +kernel
theorem dM_feed_33 : decode YM_feed.2.1 33 = .ok (.iload_n 3, 1) := by decide +kernel
theorem dM_feed_34 : decode YM_feed.2.1 34 = .ok (.invokevirtual 106, 3) := by decide +kernel
theorem dM_feed_37 : decode YM_feed.2.1 37 = .ok (.aload_n 0, 1) := by decide +kernel
theorem dM_feed_38 : decode YM_feed.2.1 38 = .ok (.iload 4, 2) := by decide +kernel
theorem dM_feed_40 : decode YM_feed.2.1 40 = .ok (.invokevirtual 106, 3) := by decide +kernel
theorem dM_feed_43 : decode YM_feed.2.1 43 = .ok (.aload_n 0, 1) := by decide +kernel
theorem dM_feed_44 : decode YM_feed.2.1 44 = .ok (.iload 5, 2) := by decide +kernel
theorem dM_feed_46 : decode YM_feed.2.1 46 = .ok (.invokevirtual 106, 3) := by decide +kernel
theorem dM_feed_49 : decode YM_feed.2.1 49 = .ok (.aload_n 0, 1) := by decide +kernel
theorem dM_feed_50 : decode YM_feed.2.1 50 = .ok (.getfield 13, 3) := by decide +kernel
theorem dM_feed_53 : decode YM_feed.2.1 53 = .ok (.iconst 0, 1) := by decide +kernel
theorem dM_feed_54 : decode YM_feed.2.1 54 = .ok (.iaload, 1) := by decide +kernel
theorem dM_feed_55 : decode YM_feed.2.1 55 = .ok (.ireturn, 1) := by decide +kernel
theorem dM_four_0 : decode YM_four.2.1 0 = .ok (.bipush 24, 2) := by decide +kernel
theorem dM_four_2 : decode YM_four.2.1 2 = .ok (.istore_n 2, 1) := by decide +kernel
theorem dM_four_3 : decode YM_four.2.1 3 = .ok (.iload_n 2, 1) := by decide +kernel
theorem dM_four_4 : decode YM_four.2.1 4 = .ok (.ifCond .lt 34, 3) := by decide +kernel
theorem dM_four_7 : decode YM_four.2.1 7 = .ok (.aload_n 0, 1) := by decide +kernel
theorem dM_four_8 : decode YM_four.2.1 8 = .ok (.getfield 7, 3) := by decide +kernel
theorem dM_four_11 : decode YM_four.2.1 11 = .ok (.aload_n 0, 1) := by decide +kernel
theorem dM_four_12 : decode YM_four.2.1 12 = .ok (.getfield 13, 3) := by decide +kernel
theorem dM_four_15 : decode YM_four.2.1 15 = .ok (.iconst 0, 1) := by decide +kernel
theorem dM_four_16 : decode YM_four.2.1 16 = .ok (.iaload, 1) := by decide +kernel
theorem dM_four_17 : decode YM_four.2.1 17 = .ok (.iload_n 1, 1) := by decide +kernel
theorem dM_four_18 : decode YM_four.2.1 18 = .ok (.iload_n 2, 1) := by decide +kernel
theorem dM_four_19 : decode YM_four.2.1 19 = .ok (.ishr, 1) := by decide +kernel
theorem dM_four_20 : decode YM_four.2.1 20 = .ok (.i2b, 1) := by decide +kernel
theorem dM_four_21 : decode YM_four.2.1 21 = .ok (.bastore, 1) := by decide +kernel
theorem dM_four_22 : decode YM_four.2.1 22 = .ok (.aload_n 0, 1) := by decide +kernel
theorem dM_four_23 : decode YM_four.2.1 23 = .ok (.getfield 13, 3) := by decide +kernel
theorem dM_four_26 : decode YM_four.2.1 26 = .ok (.iconst 0, 1) := by decide +kernel
theorem dM_four_27 : decode YM_four.2.1 27 = .ok (.dup2, 1) := by decide +kernel
theorem dM_four_28 : decode YM_four.2.1 28 = .ok (.iaload, 1) := by decide +kernel
theorem dM_four_29 : decode YM_four.2.1 29 = .ok (.iconst 1, 1) := by decide +kernel
theorem dM_four_30 : decode YM_four.2.1 30 = .ok (.iadd, 1) := by decide +kernel
theorem dM_four_31 : decode YM_four.2.1 31 = .ok (.iastore, 1) := by decide +kernel
theorem dM_four_32 : decode YM_four.2.1 32 = .ok (.iinc 2 (-8), 3) := by decide +kernel
theorem dM_four_35 : decode YM_four.2.1 35 = .ok (.goto (-32), 3) := by decide +kernel
theorem dM_four_38 : decode YM_four.2.1 38 = .ok (.return_, 1) := by decide +kernel
theorem dM_end_0 : decode YM_end.2.1 0 = .ok (.aload_n 0, 1) := by decide +kernel
theorem dM_end_1 : decode YM_end.2.1 1 = .ok (.iconst 0, 1) := by decide +kernel
theorem dM_end_2 : decode YM_end.2.1 2 = .ok (.putfield 90, 3) := by decide +kernel
theorem dM_end_5 : decode YM_end.2.1 5 = .ok (.iload_n 1, 1) := by decide +kernel
theorem dM_end_6 : decode YM_end.2.1 6 = .ok (.iconst 0, 1) := by decide +kernel
theorem dM_end_7 : decode YM_end.2.1 7 = .ok (.aload_n 0, 1) := by decide +kernel
theorem dM_end_8 : decode YM_end.2.1 8 = .ok (.getfield 13, 3) := by decide +kernel
theorem dM_end_11 : decode YM_end.2.1 11 = .ok (.iconst 0, 1) := by decide +kernel
theorem dM_end_12 : decode YM_end.2.1 12 = .ok (.iaload, 1) := by decide +kernel
theorem dM_end_13 : decode YM_end.2.1 13 = .ok (.invokestatic 102, 3) := by decide +kernel
theorem dM_end_16 : decode YM_end.2.1 16 = .ok (.ifCond .ne 5, 3) := by decide +kernel
theorem dM_end_19 : decode YM_end.2.1 19 = .ok (.iconst (-1), 1) := by decide +kernel
theorem dM_end_20 : decode YM_end.2.1 20 = .ok (.ireturn, 1) := by decide +kernel
theorem dM_end_21 : decode YM_end.2.1 21 = .ok (.aload_n 0, 1) := by decide +kernel
theorem dM_end_22 : decode YM_end.2.1 22 = .ok (.getfield 13, 3) := by decide +kernel
theorem dM_end_25 : decode YM_end.2.1 25 = .ok (.iconst 0, 1) := by decide +kernel
theorem dM_end_26 : decode YM_end.2.1 26 = .ok (.iload_n 1, 1) := by decide +kernel
theorem dM_end_27 : decode YM_end.2.1 27 = .ok (.iastore, 1) := by decide +kernel
theorem dM_end_28 : decode YM_end.2.1 28 = .ok (.iload_n 1, 1) := by decide +kernel
theorem dM_end_29 : decode YM_end.2.1 29 = .ok (.ireturn, 1) := by decide +kernel
theorem dM_see_0 : decode YM_see.2.1 0 = .ok (.aload_n 0, 1) := by decide +kernel
theorem dM_see_1 : decode YM_see.2.1 1 = .ok (.getfield 110, 3) := by decide +kernel
theorem dM_see_4 : decode YM_see.2.1 4 = .ok (.aload_n 0, 1) := by decide +kernel
theorem dM_see_5 : decode YM_see.2.1 5 = .ok (.getfield 113, 3) := by decide +kernel
theorem dM_see_8 : decode YM_see.2.1 8 = .ok (.if_icmp .ge 19, 3) := by decide +kernel
theorem dM_see_11 : decode YM_see.2.1 11 = .ok (.aload_n 0, 1) := by decide +kernel
theorem dM_see_12 : decode YM_see.2.1 12 = .ok (.getfield 7, 3) := by decide +kernel
theorem dM_see_15 : decode YM_see.2.1 15 = .ok (.aload_n 0, 1) := by decide +kernel
theorem dM_see_16 : decode YM_see.2.1 16 = .ok (.getfield 110, 3) := by decide +kernel
theorem dM_see_19 : decode YM_see.2.1 19 = .ok (.baload, 1) := by decide +kernel
theorem dM_see_20 : decode YM_see.2.1 20 = .ok (.sipush 255, 3) := by decide +kernel
theorem dM_see_23 : decode YM_see.2.1 23 = .ok (.iand, 1) := by decide +kernel
theorem dM_see_24 : decode YM_see.2.1 24 = .ok (.goto 4, 3) := by decide +kernel
theorem dM_see_27 : decode YM_see.2.1 27 = .ok (.iconst (-1), 1) := by decide +kernel
theorem dM_see_28 : decode YM_see.2.1 28 = .ok (.ireturn, 1) := by decide +kernel
theorem dM_token_0 : decode YM_token.2.1 0 = .ok (.aload_n 0, 1) := by decide +kernel
theorem dM_token_1 : decode YM_token.2.1 1 = .ok (.invokevirtual 116, 3) := by decide +kernel
theorem dM_token_4 : decode YM_token.2.1 4 = .ok (.bipush 10, 2) := by decide +kernel
theorem dM_token_6 : decode YM_token.2.1 6 = .ok (.if_icmp .eq 12, 3) := by decide +kernel
theorem dM_token_9 : decode YM_token.2.1 9 = .ok (.aload_n 0, 1) := by decide +kernel
theorem dM_token_10 : decode YM_token.2.1 10 = .ok (.invokevirtual 116, 3) := by decide +kernel
theorem dM_token_13 : decode YM_token.2.1 13 = .ok (.bipush 32, 2) := by decide +kernel
theorem dM_token_15 : decode YM_token.2.1 15 = .ok (.if_icmp .ne 16, 3) := by decide +kernel
theorem dM_token_18 : decode YM_token.2.1 18 = .ok (.aload_n 0, 1) := by decide +kernel
theorem dM_token_19 : decode YM_token.2.1 19 = .ok (.dup, 1) := by decide +kernel
theorem dM_token_20 : decode YM_token.2.1 20 = .ok (.getfield 110, 3) := by decide +kernel
theorem dM_token_23 : decode YM_token.2.1 23 = .ok (.iconst 1, 1) := by decide +kernel
theorem dM_token_24 : decode YM_token.2.1 24 = .ok (.iadd, 1) := by decide +kernel
theorem dM_token_25 : decode YM_token.2.1 25 = .ok (.putfield 110, 3) := by decide +kernel
theorem dM_token_28 : decode YM_token.2.1 28 = .ok (.goto (-28), 3) := by decide +kernel
theorem dM_token_31 : decode YM_token.2.1 31 = .ok (.aload_n 0, 1) := by decide +kernel
theorem dM_token_32 : decode YM_token.2.1 32 = .ok (.aload_n 0, 1) := by decide +kernel
theorem dM_token_33 : decode YM_token.2.1 33 = .ok (.getfield 110, 3) := by decide +kernel
theorem dM_token_36 : decode YM_token.2.1 36 = .ok (.putfield 120, 3) := by decide +kernel
theorem dM_token_39 : decode YM_token.2.1 39 = .ok (.aload_n 0, 1) := by decide +kernel
theorem dM_token_40 : decode YM_token.2.1 40 = .ok (.invokevirtual 116, 3) := by decide +kernel
theorem dM_token_43 : decode YM_token.2.1 43 = .ok (.istore_n 1, 1) := by decide +kernel
theorem dM_token_44 : decode YM_token.2.1 44 = .ok (.aload_n 0, 1) := by decide +kernel
theorem dM_token_45 : decode YM_token.2.1 45 = .ok (.lconst 0, 1) := by decide +kernel
theorem dM_token_46 : decode YM_token.2.1 46 = .ok (.putfield 123, 3) := by decide +kernel
theorem dM_token_49 : decode YM_token.2.1 49 = .ok (.iconst 0, 1) := by decide +kernel
theorem dM_token_50 : decode YM_token.2.1 50 = .ok (.istore_n 2, 1) := by decide +kernel
theorem dM_token_51 : decode YM_token.2.1 51 = .ok (.iload_n 1, 1) := by decide +kernel
theorem dM_token_52 : decode YM_token.2.1 52 = .ok (.ifCond .ge 11, 3) := by decide +kernel
theorem dM_token_55 : decode YM_token.2.1 55 = .ok (.aload_n 0, 1) := by decide +kernel
theorem dM_token_56 : decode YM_token.2.1 56 = .ok (.iconst 0, 1) := by decide +kernel
theorem dM_token_57 : decode YM_token.2.1 57 = .ok (.putfield 127, 3) := by decide +kernel
theorem dM_token_60 : decode YM_token.2.1 60 = .ok (.goto 206, 3) := by decide +kernel
theorem dM_token_63 : decode YM_token.2.1 63 = .ok (.iload_n 1, 1) := by decide +kernel
theorem dM_token_64 : decode YM_token.2.1 64 = .ok (.bipush 97, 2) := by decide +kernel
theorem dM_token_66 : decode YM_token.2.1 66 = .ok (.bipush 122, 2) := by decide +kernel
theorem dM_token_68 : decode YM_token.2.1 68 = .ok (.invokestatic 102, 3) := by decide +kernel
theorem dM_token_71 : decode YM_token.2.1 71 = .ok (.ifCond .eq 76, 3) := by decide +kernel
theorem dM_token_74 : decode YM_token.2.1 74 = .ok (.aload_n 0, 1) := by decide +kernel
theorem dM_token_75 : decode YM_token.2.1 75 = .ok (.invokevirtual 116, 3) := by decide +kernel
theorem dM_token_78 : decode YM_token.2.1 78 = .ok (.bipush 97, 2) := by decide +kernel
theorem dM_token_80 : decode YM_token.2.1 80 = .ok (.bipush 122, 2) := by decide +kernel
theorem dM_token_82 : decode YM_token.2.1 82 = .ok (.invokestatic 102, 3) := by decide +kernel
theorem dM_token_85 : decode YM_token.2.1 85 = .ok (.ifCond .eq 36, 3) := by decide +kernel
theorem dM_token_88 : decode YM_token.2.1 88 = .ok (.aload_n 0, 1) := by decide +kernel
theorem dM_token_89 : decode YM_token.2.1 89 = .ok (.aload_n 0, 1) := by decide +kernel
theorem dM_token_90 : decode YM_token.2.1 90 = .ok (.getfield 123, 3) := by decide +kernel
theorem dM_token_93 : decode YM_token.2.1 93 = .ok (.bipush 8, 2) := by decide +kernel
theorem dM_token_95 : decode YM_token.2.1 95 = .ok (.lshl, 1) := by decide +kernel
theorem dM_token_96 : decode YM_token.2.1 96 = .ok (.aload_n 0, 1) := by decide +kernel
theorem dM_token_97 : decode YM_token.2.1 97 = .ok (.invokevirtual 116, 3) := by decide +kernel
theorem dM_token_100 : decode YM_token.2.1 100 = .ok (.i2l, 1) := by decide +kernel
theorem dM_token_101 : decode YM_token.2.1 101 = .ok (.lor, 1) := by decide +kernel
theorem dM_token_102 : decode YM_token.2.1 102 = .ok (.putfield 123, 3) := by decide +kernel
theorem dM_token_105 : decode YM_token.2.1 105 = .ok (.aload_n 0, 1) := by decide +kernel
theorem dM_token_106 : decode YM_token.2.1 106 = .ok (.dup, 1) := by decide +kernel
theorem dM_token_107 : decode YM_token.2.1 107 = .ok (.getfield 110, 3) := by decide +kernel
theorem dM_token_110 : decode YM_token.2.1 110 = .ok (.iconst 1, 1) := by decide +kernel
theorem dM_token_111 : decode YM_token.2.1 111 = .ok (.iadd, 1) := by decide +kernel
theorem dM_token_112 : decode YM_token.2.1 112 = .ok (.putfield 110, 3) := by decide +kernel
theorem dM_token_115 : decode YM_token.2.1 115 = .ok (.iinc 2 1, 3) := by decide +kernel
theorem dM_token_118 : decode YM_token.2.1 118 = .ok (.goto (-44), 3) := by decide +kernel
theorem dM_token_121 : decode YM_token.2.1 121 = .ok (.aload_n 0, 1) := by decide +kernel
theorem dM_token_122 : decode YM_token.2.1 122 = .ok (.iload_n 2, 1) := by decide +kernel
theorem dM_token_123 : decode YM_token.2.1 123 = .ok (.bipush 8, 2) := by decide +kernel
theorem dM_token_125 : decode YM_token.2.1 125 = .ok (.if_icmp .le 7, 3) := by decide +kernel
theorem dM_token_128 : decode YM_token.2.1 128 = .ok (.lconst 0, 1) := by decide +kernel
theorem dM_token_129 : decode YM_token.2.1 129 = .ok (.goto 7, 3) := by decide +kernel
theorem dM_token_132 : decode YM_token.2.1 132 = .ok (.aload_n 0, 1) := by decide +kernel
theorem dM_token_133 : decode YM_token.2.1 133 = .ok (.getfield 123, 3) := by decide +kernel
theorem dM_token_136 : decode YM_token.2.1 136 = .ok (.putfield 123, 3) := by decide +kernel
theorem dM_token_139 : decode YM_token.2.1 139 = .ok (.aload_n 0, 1) := by decide +kernel
theorem dM_token_140 : decode YM_token.2.1 140 = .ok (.iconst 2, 1) := by decide +kernel
theorem dM_token_141 : decode YM_token.2.1 141 = .ok (.putfield 127, 3) := by decide +kernel
theorem dM_token_144 : decode YM_token.2.1 144 = .ok (.goto 122, 3) := by decide +kernel
theorem dM_token_147 : decode YM_token.2.1 147 = .ok (.iload_n 1, 1) := by decide +kernel
theorem dM_token_148 : decode YM_token.2.1 148 = .ok (.bipush 48, 2) := by decide +kernel
theorem dM_token_150 : decode YM_token.2.1 150 = .ok (.bipush 57, 2) := by decide +kernel
theorem dM_token_152 : decode YM_token.2.1 152 = .ok (.invokestatic 102, 3) := by decide +kernel
theorem dM_token_155 : decode YM_token.2.1 155 = .ok (.ifCond .eq 86, 3) := by decide +kernel
theorem dM_token_158 : decode YM_token.2.1 158 = .ok (.aload_n 0, 1) := by decide +kernel
theorem dM_token_159 : decode YM_token.2.1 159 = .ok (.iconst 0, 1) := by decide +kernel
theorem dM_token_160 : decode YM_token.2.1 160 = .ok (.putfield 130, 3) := by decide +kernel
theorem dM_token_163 : decode YM_token.2.1 163 = .ok (.aload_n 0, 1) := by decide +kernel
theorem dM_token_164 : decode YM_token.2.1 164 = .ok (.invokevirtual 116, 3) := by decide +kernel
theorem dM_token_167 : decode YM_token.2.1 167 = .ok (.bipush 48, 2) := by decide +kernel
theorem dM_token_169 : decode YM_token.2.1 169 = .ok (.bipush 57, 2) := by decide +kernel
theorem dM_token_171 : decode YM_token.2.1 171 = .ok (.invokestatic 102, 3) := by decide +kernel
theorem dM_token_174 : decode YM_token.2.1 174 = .ok (.ifCond .eq 50, 3) := by decide +kernel
theorem dM_token_177 : decode YM_token.2.1 177 = .ok (.aload_n 0, 1) := by decide +kernel
theorem dM_token_178 : decode YM_token.2.1 178 = .ok (.iload_n 2, 1) := by decide +kernel
theorem dM_token_179 : decode YM_token.2.1 179 = .ok (.iconst 2, 1) := by decide +kernel
theorem dM_token_180 : decode YM_token.2.1 180 = .ok (.if_icmp .ge 21, 3) := by decide +kernel
theorem dM_token_183 : decode YM_token.2.1 183 = .ok (.bipush 10, 2) := by decide +kernel
theorem dM_token_185 : decode YM_token.2.1 185 = .ok (.aload_n 0, 1) := by decide +kernel
theorem dM_token_186 : decode YM_token.2.1 186 = .ok (.getfield 130, 3) := by decide +kernel
theorem dM_token_189 : decode YM_token.2.1 189 = .ok (.imul, 1) := by decide +kernel
theorem dM_token_190 : decode YM_token.2.1 190 = .ok (.aload_n 0, 1) := by decide +kernel
theorem dM_token_191 : decode YM_token.2.1 191 = .ok (.invokevirtual 116, 3) := by decide +kernel
theorem dM_token_194 : decode YM_token.2.1 194 = .ok (.iadd, 1) := by decide +kernel
theorem dM_token_195 : decode YM_token.2.1 195 = .ok (.bipush 48, 2) := by decide +kernel
theorem dM_token_197 : decode YM_token.2.1 197 = .ok (.isub, 1) := by decide +kernel
theorem dM_token_198 : decode YM_token.2.1 198 = .ok (.goto 7, 3) := by decide +kernel
theorem dM_token_201 : decode YM_token.2.1 201 = .ok (.aload_n 0, 1) := by decide +kernel
theorem dM_token_202 : decode YM_token.2.1 202 = .ok (.getfield 130, 3) := by decide +kernel
theorem dM_token_205 : decode YM_token.2.1 205 = .ok (.putfield 130, 3) := by decide +kernel
theorem dM_token_208 : decode YM_token.2.1 208 = .ok (.aload_n 0, 1) := by decide +kernel
theorem dM_token_209 : decode YM_token.2.1 209 = .ok (.dup, 1) := by decide +kernel
theorem dM_token_210 : decode YM_token.2.1 210 = .ok (.getfield 110, 3) := by decide +kernel
theorem dM_token_213 : decode YM_token.2.1 213 = .ok (.iconst 1, 1) := by decide +kernel
theorem dM_token_214 : decode YM_token.2.1 214 = .ok (.iadd, 1) := by decide +kernel
theorem dM_token_215 : decode YM_token.2.1 215 = .ok (.putfield 110, 3) := by decide +kernel
theorem dM_token_218 : decode YM_token.2.1 218 = .ok (.iinc 2 1, 3) := by decide +kernel
theorem dM_token_221 : decode YM_token.2.1 221 = .ok (.goto (-58), 3) := by decide +kernel
theorem dM_token_224 : decode YM_token.2.1 224 = .ok (.aload_n 0, 1) := by decide +kernel
theorem dM_token_225 : decode YM_token.2.1 225 = .ok (.iload_n 2, 1) := by decide +kernel
theorem dM_token_226 : decode YM_token.2.1 226 = .ok (.iconst 2, 1) := by decide +kernel
theorem dM_token_227 : decode YM_token.2.1 227 = .ok (.if_icmp .le 7, 3) := by decide +kernel
theorem dM_token_230 : decode YM_token.2.1 230 = .ok (.iconst 1, 1) := by decide +kernel
theorem dM_token_231 : decode YM_token.2.1 231 = .ok (.goto 4, 3) := by decide +kernel
theorem dM_token_234 : decode YM_token.2.1 234 = .ok (.iconst 3, 1) := by decide +kernel
theorem dM_token_235 : decode YM_token.2.1 235 = .ok (.putfield 127, 3) := by decide +kernel
theorem dM_token_238 : decode YM_token.2.1 238 = .ok (.goto 28, 3) := by decide +kernel
theorem dM_token_241 : decode YM_token.2.1 241 = .ok (.aload_n 0, 1) := by decide +kernel
theorem dM_token_242 : decode YM_token.2.1 242 = .ok (.dup, 1) := by decide +kernel
theorem dM_token_243 : decode YM_token.2.1 243 = .ok (.getfield 110, 3) := by decide +kernel
theorem dM_token_246 : decode YM_token.2.1 246 = .ok (.iconst 1, 1) := by decide +kernel
theorem dM_token_247 : decode YM_token.2.1 247 = .ok (.iadd, 1) := by decide +kernel
theorem dM_token_248 : decode YM_token.2.1 248 = .ok (.putfield 110, 3) := by decide +kernel
theorem dM_token_251 : decode YM_token.2.1 251 = .ok (.aload_n 0, 1) := by decide +kernel
theorem dM_token_252 : decode YM_token.2.1 252 = .ok (.iload_n 1, 1) := by decide +kernel
theorem dM_token_253 : decode YM_token.2.1 253 = .ok (.bipush 59, 2) := by decide +kernel
theorem dM_token_255 : decode YM_token.2.1 255 = .ok (.if_icmp .ne 7, 3) := by decide +kernel
theorem dM_token_258 : decode YM_token.2.1 258 = .ok (.iconst 4, 1) := by decide +kernel
theorem dM_token_259 : decode YM_token.2.1 259 = .ok (.goto 4, 3) := by decide +kernel
theorem dM_token_262 : decode YM_token.2.1 262 = .ok (.iconst 1, 1) := by decide +kernel
theorem dM_token_263 : decode YM_token.2.1 263 = .ok (.putfield 127, 3) := by decide +kernel
theorem dM_token_266 : decode YM_token.2.1 266 = .ok (.return_, 1) := by decide +kernel
theorem dM_fails_0 : decode YM_fails.2.1 0 = .ok (.aload_n 0, 1) := by decide +kernel
theorem dM_fails_1 : decode YM_fails.2.1 1 = .ok (.aload_n 0, 1) := by decide +kernel
theorem dM_fails_2 : decode YM_fails.2.1 2 = .ok (.getfield 120, 3) := by decide +kernel
theorem dM_fails_5 : decode YM_fails.2.1 5 = .ok (.putfield 133, 3) := by decide +kernel
theorem dM_fails_8 : decode YM_fails.2.1 8 = .ok (.iconst 0, 1) := by decide +kernel
theorem dM_fails_9 : decode YM_fails.2.1 9 = .ok (.ireturn, 1) := by decide +kernel
theorem dM_later_0 : decode YM_later.2.1 0 = .ok (.aload_n 0, 1) := by decide +kernel
theorem dM_later_1 : decode YM_later.2.1 1 = .ok (.getfield 136, 3) := by decide +kernel
theorem dM_later_4 : decode YM_later.2.1 4 = .ok (.ifCond .eq 27, 3) := by decide +kernel
theorem dM_later_7 : decode YM_later.2.1 7 = .ok (.iload_n 2, 1) := by decide +kernel
theorem dM_later_8 : decode YM_later.2.1 8 = .ok (.aload_n 0, 1) := by decide +kernel
theorem dM_later_9 : decode YM_later.2.1 9 = .ok (.getfield 139, 3) := by decide +kernel
theorem dM_later_12 : decode YM_later.2.1 12 = .ok (.if_icmp .lt 19, 3) := by decide +kernel
theorem dM_later_15 : decode YM_later.2.1 15 = .ok (.iload_n 2, 1) := by decide +kernel
theorem dM_later_16 : decode YM_later.2.1 16 = .ok (.aload_n 0, 1) := by decide +kernel
theorem dM_later_17 : decode YM_later.2.1 17 = .ok (.getfield 139, 3) := by decide +kernel
theorem dM_later_20 : decode YM_later.2.1 20 = .ok (.if_icmp .ne 21, 3) := by decide +kernel
theorem dM_later_23 : decode YM_later.2.1 23 = .ok (.iload_n 1, 1) := by decide +kernel
theorem dM_later_24 : decode YM_later.2.1 24 = .ok (.aload_n 0, 1) := by decide +kernel
theorem dM_later_25 : decode YM_later.2.1 25 = .ok (.getfield 136, 3) := by decide +kernel
theorem dM_later_28 : decode YM_later.2.1 28 = .ok (.if_icmp .ge 13, 3) := by decide +kernel
theorem dM_later_31 : decode YM_later.2.1 31 = .ok (.aload_n 0, 1) := by decide +kernel
theorem dM_later_32 : decode YM_later.2.1 32 = .ok (.iload_n 1, 1) := by decide +kernel
theorem dM_later_33 : decode YM_later.2.1 33 = .ok (.putfield 136, 3) := by decide +kernel
theorem dM_later_36 : decode YM_later.2.1 36 = .ok (.aload_n 0, 1) := by decide +kernel
theorem dM_later_37 : decode YM_later.2.1 37 = .ok (.iload_n 2, 1) := by decide +kernel
theorem dM_later_38 : decode YM_later.2.1 38 = .ok (.putfield 139, 3) := by decide +kernel
theorem dM_later_41 : decode YM_later.2.1 41 = .ok (.return_, 1) := by decide +kernel
theorem dM_takeBut_0 : decode YM_takeBut.2.1 0 = .ok (.aload_n 0, 1) := by decide +kernel
theorem dM_takeBut_1 : decode YM_takeBut.2.1 1 = .ok (.getfield 127, 3) := by decide +kernel
theorem dM_takeBut_4 : decode YM_takeBut.2.1 4 = .ok (.iconst 3, 1) := by decide +kernel
theorem dM_takeBut_5 : decode YM_takeBut.2.1 5 = .ok (.if_icmp .eq 8, 3) := by decide +kernel
