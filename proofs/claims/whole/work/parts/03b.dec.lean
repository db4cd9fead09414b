theorem dX5_fitsWith_6 : decode cX5_fitsWith 6 = .ok (.ishl, 1) := by decide +kernel
theorem dX5_fitsWith_7 : decode cX5_fitsWith 7 = .ok (.aload_n 0, 1) := by decide +kernel
theorem dX5_fitsWith_8 : decode cX5_fitsWith 8 = .ok (.getfield 18, 3) := by decide +kernel
theorem dX5_fitsWith_11 : decode cX5_fitsWith 11 = .ok (.iand, 1) := by decide +kernel
theorem dX5_fitsWith_12 : decode cX5_fitsWith 12 = .ok (.baload, 1) := by decide +kernel
theorem dX5_fitsWith_13 : decode cX5_fitsWith 13 = .ok (.ireturn, 1) := by decide +kernel
theorem dX5_search_0 : decode cX5_search 0 = .ok (.aload_n 0, 1) := by decide +kernel
theorem dX5_search_1 : decode cX5_search 1 = .ok (.invokevirtual 60, 3) := by decide +kernel
theorem dX5_search_4 : decode cX5_search 4 = .ok (.aload_n 0, 1) := by decide +kernel
theorem dX5_search_5 : decode cX5_search 5 = .ok (.aload_n 0, 1) := by decide +kernel
theorem dX5_search_6 : decode cX5_search 6 = .ok (.invokevirtual 63, 3) := by decide +kernel
theorem dX5_search_9 : decode cX5_search 9 = .ok (.putfield 22, 3) := by decide +kernel
theorem dX5_search_12 : decode cX5_search 12 = .ok (.aload_n 0, 1) := by decide +kernel
theorem dX5_search_13 : decode cX5_search 13 = .ok (.bipush (-9), 2) := by decide +kernel
theorem dX5_search_15 : decode cX5_search 15 = .ok (.putfield 25, 3) := by decide +kernel
theorem dX5_search_18 : decode cX5_search 18 = .ok (.aload_n 0, 1) := by decide +kernel
theorem dX5_search_19 : decode cX5_search 19 = .ok (.getfield 15, 3) := by decide +kernel
theorem dX5_search_22 : decode cX5_search 22 = .ok (.aload_n 0, 1) := by decide +kernel
theorem dX5_search_23 : decode cX5_search 23 = .ok (.getfield 18, 3) := by decide +kernel
theorem dX5_search_26 : decode cX5_search 26 = .ok (.baload, 1) := by decide +kernel
theorem dX5_search_27 : decode cX5_search 27 = .ok (.ifCond .eq 7, 3) := by decide +kernel
theorem dX5_search_30 : decode cX5_search 30 = .ok (.aload_n 0, 1) := by decide +kernel
theorem dX5_search_31 : decode cX5_search 31 = .ok (.invokevirtual 67, 3) := by decide +kernel
theorem dX5_search_34 : decode cX5_search 34 = .ok (.return_, 1) := by decide +kernel
theorem dX5_markReached_0 : decode cX5_markReached 0 = .ok (.aload_n 0, 1) := by decide +kernel
theorem dX5_markReached_1 : decode cX5_markReached 1 = .ok (.getfield 15, 3) := by decide +kernel
theorem dX5_markReached_4 : decode cX5_markReached 4 = .ok (.iconst 0, 1) := by decide +kernel
theorem dX5_markReached_5 : decode cX5_markReached 5 = .ok (.aload_n 0, 1) := by decide +kernel
theorem dX5_markReached_6 : decode cX5_markReached 6 = .ok (.getfield 11, 3) := by decide +kernel
theorem dX5_markReached_9 : decode cX5_markReached 9 = .ok (.iconst 0, 1) := by decide +kernel
theorem dX5_markReached_10 : decode cX5_markReached 10 = .ok (.baload, 1) := by decide +kernel
theorem dX5_markReached_11 : decode cX5_markReached 11 = .ok (.bastore, 1) := by decide +kernel
theorem dX5_markReached_12 : decode cX5_markReached 12 = .ok (.iconst 1, 1) := by decide +kernel
theorem dX5_markReached_13 : decode cX5_markReached 13 = .ok (.istore_n 1, 1) := by decide +kernel
theorem dX5_markReached_14 : decode cX5_markReached 14 = .ok (.iload_n 1, 1) := by decide +kernel
theorem dX5_markReached_15 : decode cX5_markReached 15 = .ok (.bipush 64, 2) := by decide +kernel
theorem dX5_markReached_17 : decode cX5_markReached 17 = .ok (.if_icmp .ge 82, 3) := by decide +kernel
theorem dX5_markReached_20 : decode cX5_markReached 20 = .ok (.iconst 0, 1) := by decide +kernel
theorem dX5_markReached_21 : decode cX5_markReached 21 = .ok (.istore_n 2, 1) := by decide +kernel
theorem dX5_markReached_22 : decode cX5_markReached 22 = .ok (.iconst 0, 1) := by decide +kernel
theorem dX5_markReached_23 : decode cX5_markReached 23 = .ok (.istore_n 3, 1) := by decide +kernel
theorem dX5_markReached_24 : decode cX5_markReached 24 = .ok (.iload_n 3, 1) := by decide +kernel
theorem dX5_markReached_25 : decode cX5_markReached 25 = .ok (.bipush 6, 2) := by decide +kernel
theorem dX5_markReached_27 : decode cX5_markReached 27 = .ok (.if_icmp .ge 42, 3) := by decide +kernel
theorem dX5_markReached_30 : decode cX5_markReached 30 = .ok (.iload_n 2, 1) := by decide +kernel
theorem dX5_markReached_31 : decode cX5_markReached 31 = .ok (.ifCond .ne 26, 3) := by decide +kernel
theorem dX5_markReached_34 : decode cX5_markReached 34 = .ok (.iload_n 1, 1) := by decide +kernel
theorem dX5_markReached_35 : decode cX5_markReached 35 = .ok (.iconst 1, 1) := by decide +kernel
theorem dX5_markReached_36 : decode cX5_markReached 36 = .ok (.iload_n 3, 1) := by decide +kernel
theorem dX5_markReached_37 : decode cX5_markReached 37 = .ok (.ishl, 1) := by decide +kernel
theorem dX5_markReached_38 : decode cX5_markReached 38 = .ok (.iand, 1) := by decide +kernel
theorem dX5_markReached_39 : decode cX5_markReached 39 = .ok (.ifCond .eq 22, 3) := by decide +kernel
theorem dX5_markReached_42 : decode cX5_markReached 42 = .ok (.aload_n 0, 1) := by decide +kernel
theorem dX5_markReached_43 : decode cX5_markReached 43 = .ok (.getfield 15, 3) := by decide +kernel
theorem dX5_markReached_46 : decode cX5_markReached 46 = .ok (.iload_n 1, 1) := by decide +kernel
theorem dX5_markReached_47 : decode cX5_markReached 47 = .ok (.iconst 1, 1) := by decide +kernel
theorem dX5_markReached_48 : decode cX5_markReached 48 = .ok (.iload_n 3, 1) := by decide +kernel
theorem dX5_markReached_49 : decode cX5_markReached 49 = .ok (.ishl, 1) := by decide +kernel
theorem dX5_markReached_50 : decode cX5_markReached 50 = .ok (.iconst (-1), 1) := by decide +kernel
theorem dX5_markReached_51 : decode cX5_markReached 51 = .ok (.ixor, 1) := by decide +kernel
theorem dX5_markReached_52 : decode cX5_markReached 52 = .ok (.iand, 1) := by decide +kernel
theorem dX5_markReached_53 : decode cX5_markReached 53 = .ok (.baload, 1) := by decide +kernel
theorem dX5_markReached_54 : decode cX5_markReached 54 = .ok (.ifCond .eq 7, 3) := by decide +kernel
theorem dX5_markReached_57 : decode cX5_markReached 57 = .ok (.iconst 1, 1) := by decide +kernel
theorem dX5_markReached_58 : decode cX5_markReached 58 = .ok (.goto 4, 3) := by decide +kernel
theorem dX5_markReached_61 : decode cX5_markReached 61 = .ok (.iconst 0, 1) := by decide +kernel
theorem dX5_markReached_62 : decode cX5_markReached 62 = .ok (.istore_n 2, 1) := by decide +kernel
theorem dX5_markReached_63 : decode cX5_markReached 63 = .ok (.iinc 3 1, 3) := by decide +kernel
theorem dX5_markReached_66 : decode cX5_markReached 66 = .ok (.goto (-42), 3) := by decide +kernel
theorem dX5_markReached_69 : decode cX5_markReached 69 = .ok (.aload_n 0, 1) := by decide +kernel
theorem dX5_markReached_70 : decode cX5_markReached 70 = .ok (.getfield 15, 3) := by decide +kernel
theorem dX5_markReached_73 : decode cX5_markReached 73 = .ok (.iload_n 1, 1) := by decide +kernel
theorem dX5_markReached_74 : decode cX5_markReached 74 = .ok (.iload_n 2, 1) := by decide +kernel
theorem dX5_markReached_75 : decode cX5_markReached 75 = .ok (.ifCond .eq 16, 3) := by decide +kernel
theorem dX5_markReached_78 : decode cX5_markReached 78 = .ok (.aload_n 0, 1) := by decide +kernel
theorem dX5_markReached_79 : decode cX5_markReached 79 = .ok (.getfield 11, 3) := by decide +kernel
theorem dX5_markReached_82 : decode cX5_markReached 82 = .ok (.iload_n 1, 1) := by decide +kernel
theorem dX5_markReached_83 : decode cX5_markReached 83 = .ok (.baload, 1) := by decide +kernel
theorem dX5_markReached_84 : decode cX5_markReached 84 = .ok (.ifCond .eq 7, 3) := by decide +kernel
theorem dX5_markReached_87 : decode cX5_markReached 87 = .ok (.iconst 1, 1) := by decide +kernel
theorem dX5_markReached_88 : decode cX5_markReached 88 = .ok (.goto 4, 3) := by decide +kernel
theorem dX5_markReached_91 : decode cX5_markReached 91 = .ok (.iconst 0, 1) := by decide +kernel
theorem dX5_markReached_92 : decode cX5_markReached 92 = .ok (.bastore, 1) := by decide +kernel
theorem dX5_markReached_93 : decode cX5_markReached 93 = .ok (.iinc 1 1, 3) := by decide +kernel
theorem dX5_markReached_96 : decode cX5_markReached 96 = .ok (.goto (-82), 3) := by decide +kernel
theorem dX5_markReached_99 : decode cX5_markReached 99 = .ok (.return_, 1) := by decide +kernel
theorem dX5_mostReached_0 : decode cX5_mostReached 0 = .ok (.iconst 0, 1) := by decide +kernel
theorem dX5_mostReached_1 : decode cX5_mostReached 1 = .ok (.istore_n 1, 1) := by decide +kernel
theorem dX5_mostReached_2 : decode cX5_mostReached 2 = .ok (.iconst 1, 1) := by decide +kernel
theorem dX5_mostReached_3 : decode cX5_mostReached 3 = .ok (.istore_n 2, 1) := by decide +kernel
theorem dX5_mostReached_4 : decode cX5_mostReached 4 = .ok (.iload_n 2, 1) := by decide +kernel
theorem dX5_mostReached_5 : decode cX5_mostReached 5 = .ok (.bipush 64, 2) := by decide +kernel
theorem dX5_mostReached_7 : decode cX5_mostReached 7 = .ok (.if_icmp .ge 31, 3) := by decide +kernel
theorem dX5_mostReached_10 : decode cX5_mostReached 10 = .ok (.aload_n 0, 1) := by decide +kernel
theorem dX5_mostReached_11 : decode cX5_mostReached 11 = .ok (.getfield 15, 3) := by decide +kernel
theorem dX5_mostReached_14 : decode cX5_mostReached 14 = .ok (.iload_n 2, 1) := by decide +kernel
theorem dX5_mostReached_15 : decode cX5_mostReached 15 = .ok (.baload, 1) := by decide +kernel
theorem dX5_mostReached_16 : decode cX5_mostReached 16 = .ok (.ifCond .eq 16, 3) := by decide +kernel
theorem dX5_mostReached_19 : decode cX5_mostReached 19 = .ok (.iload_n 2, 1) := by decide +kernel
theorem dX5_mostReached_20 : decode cX5_mostReached 20 = .ok (.invokestatic 70, 3) := by decide +kernel
theorem dX5_mostReached_23 : decode cX5_mostReached 23 = .ok (.iload_n 1, 1) := by decide +kernel
theorem dX5_mostReached_24 : decode cX5_mostReached 24 = .ok (.invokestatic 70, 3) := by decide +kernel
theorem dX5_mostReached_27 : decode cX5_mostReached 27 = .ok (.if_icmp .le 5, 3) := by decide +kernel
theorem dX5_mostReached_30 : decode cX5_mostReached 30 = .ok (.iload_n 2, 1) := by decide +kernel
theorem dX5_mostReached_31 : decode cX5_mostReached 31 = .ok (.istore_n 1, 1) := by decide +kernel
theorem dX5_mostReached_32 : decode cX5_mostReached 32 = .ok (.iinc 2 1, 3) := by decide +kernel
theorem dX5_mostReached_35 : decode cX5_mostReached 35 = .ok (.goto (-31), 3) := by decide +kernel
theorem dX5_mostReached_38 : decode cX5_mostReached 38 = .ok (.iload_n 1, 1) := by decide +kernel
theorem dX5_mostReached_39 : decode cX5_mostReached 39 = .ok (.ireturn, 1) := by decide +kernel
theorem dX5_layOutSteps_0 : decode cX5_layOutSteps 0 = .ok (.aload_n 0, 1) := by decide +kernel
theorem dX5_layOutSteps_1 : decode cX5_layOutSteps 1 = .ok (.iconst 0, 1) := by decide +kernel
theorem dX5_layOutSteps_2 : decode cX5_layOutSteps 2 = .ok (.putfield 25, 3) := by decide +kernel
theorem dX5_layOutSteps_5 : decode cX5_layOutSteps 5 = .ok (.iconst 0, 1) := by decide +kernel
theorem dX5_layOutSteps_6 : decode cX5_layOutSteps 6 = .ok (.istore_n 1, 1) := by decide +kernel
theorem dX5_layOutSteps_7 : decode cX5_layOutSteps 7 = .ok (.iconst 0, 1) := by decide +kernel
theorem dX5_layOutSteps_8 : decode cX5_layOutSteps 8 = .ok (.istore_n 2, 1) := by decide +kernel
theorem dX5_layOutSteps_9 : decode cX5_layOutSteps 9 = .ok (.iload_n 2, 1) := by decide +kernel
theorem dX5_layOutSteps_10 : decode cX5_layOutSteps 10 = .ok (.bipush 6, 2) := by decide +kernel
theorem dX5_layOutSteps_12 : decode cX5_layOutSteps 12 = .ok (.if_icmp .ge 56, 3) := by decide +kernel
theorem dX5_layOutSteps_15 : decode cX5_layOutSteps 15 = .ok (.iload_n 1, 1) := by decide +kernel
theorem dX5_layOutSteps_16 : decode cX5_layOutSteps 16 = .ok (.aload_n 0, 1) := by decide +kernel
theorem dX5_layOutSteps_17 : decode cX5_layOutSteps 17 = .ok (.getfield 18, 3) := by decide +kernel
theorem dX5_layOutSteps_20 : decode cX5_layOutSteps 20 = .ok (.if_icmp .eq 48, 3) := by decide +kernel
theorem dX5_layOutSteps_23 : decode cX5_layOutSteps 23 = .ok (.aload_n 0, 1) := by decide +kernel
theorem dX5_layOutSteps_24 : decode cX5_layOutSteps 24 = .ok (.iload_n 1, 1) := by decide +kernel
theorem dX5_layOutSteps_25 : decode cX5_layOutSteps 25 = .ok (.invokevirtual 76, 3) := by decide +kernel
theorem dX5_layOutSteps_28 : decode cX5_layOutSteps 28 = .ok (.istore_n 3, 1) := by decide +kernel
theorem dX5_layOutSteps_29 : decode cX5_layOutSteps 29 = .ok (.iload_n 3, 1) := by decide +kernel
theorem dX5_layOutSteps_30 : decode cX5_layOutSteps 30 = .ok (.bipush (-9), 2) := by decide +kernel
theorem dX5_layOutSteps_32 : decode cX5_layOutSteps 32 = .ok (.if_icmp .ne 4, 3) := by decide +kernel
theorem dX5_layOutSteps_35 : decode cX5_layOutSteps 35 = .ok (.return_, 1) := by decide +kernel
theorem dX5_layOutSteps_36 : decode cX5_layOutSteps 36 = .ok (.aload_n 0, 1) := by decide +kernel
theorem dX5_layOutSteps_37 : decode cX5_layOutSteps 37 = .ok (.getfield 28, 3) := by decide +kernel
theorem dX5_layOutSteps_40 : decode cX5_layOutSteps 40 = .ok (.aload_n 0, 1) := by decide +kernel
theorem dX5_layOutSteps_41 : decode cX5_layOutSteps 41 = .ok (.getfield 25, 3) := by decide +kernel
theorem dX5_layOutSteps_44 : decode cX5_layOutSteps 44 = .ok (.iload_n 3, 1) := by decide +kernel
theorem dX5_layOutSteps_45 : decode cX5_layOutSteps 45 = .ok (.iastore, 1) := by decide +kernel
theorem dX5_layOutSteps_46 : decode cX5_layOutSteps 46 = .ok (.aload_n 0, 1) := by decide +kernel
theorem dX5_layOutSteps_47 : decode cX5_layOutSteps 47 = .ok (.dup, 1) := by decide +kernel
theorem dX5_layOutSteps_48 : decode cX5_layOutSteps 48 = .ok (.getfield 25, 3) := by decide +kernel
theorem dX5_layOutSteps_51 : decode cX5_layOutSteps 51 = .ok (.iconst 1, 1) := by decide +kernel
theorem dX5_layOutSteps_52 : decode cX5_layOutSteps 52 = .ok (.iadd, 1) := by decide +kernel
theorem dX5_layOutSteps_53 : decode cX5_layOutSteps 53 = .ok (.putfield 25, 3) := by decide +kernel
theorem dX5_layOutSteps_56 : decode cX5_layOutSteps 56 = .ok (.iload_n 1, 1) := by decide +kernel
theorem dX5_layOutSteps_57 : decode cX5_layOutSteps 57 = .ok (.iconst 1, 1) := by decide +kernel
theorem dX5_layOutSteps_58 : decode cX5_layOutSteps 58 = .ok (.iload_n 3, 1) := by decide +kernel
theorem dX5_layOutSteps_59 : decode cX5_layOutSteps 59 = .ok (.ishl, 1) := by decide +kernel
theorem dX5_layOutSteps_60 : decode cX5_layOutSteps 60 = .ok (.ior, 1) := by decide +kernel
theorem dX5_layOutSteps_61 : decode cX5_layOutSteps 61 = .ok (.istore_n 1, 1) := by decide +kernel
theorem dX5_layOutSteps_62 : decode cX5_layOutSteps 62 = .ok (.iinc 2 1, 3) := by decide +kernel
theorem dX5_layOutSteps_65 : decode cX5_layOutSteps 65 = .ok (.goto (-56), 3) := by decide +kernel
theorem dX5_layOutSteps_68 : decode cX5_layOutSteps 68 = .ok (.return_, 1) := by decide +kernel
theorem dX5_firstThatFits_0 : decode cX5_firstThatFits 0 = .ok (.iconst 0, 1) := by decide +kernel
theorem dX5_firstThatFits_1 : decode cX5_firstThatFits 1 = .ok (.istore_n 2, 1) := by decide +kernel
theorem dX5_firstThatFits_2 : decode cX5_firstThatFits 2 = .ok (.iload_n 2, 1) := by decide +kernel
theorem dX5_firstThatFits_3 : decode cX5_firstThatFits 3 = .ok (.bipush 6, 2) := by decide +kernel
theorem dX5_firstThatFits_5 : decode cX5_firstThatFits 5 = .ok (.if_icmp .ge 32, 3) := by decide +kernel
theorem dX5_firstThatFits_8 : decode cX5_firstThatFits 8 = .ok (.iload_n 1, 1) := by decide +kernel
theorem dX5_firstThatFits_9 : decode cX5_firstThatFits 9 = .ok (.iconst 1, 1) := by decide +kernel
theorem dX5_firstThatFits_10 : decode cX5_firstThatFits 10 = .ok (.iload_n 2, 1) := by decide +kernel
theorem dX5_firstThatFits_11 : decode cX5_firstThatFits 11 = .ok (.ishl, 1) := by decide +kernel
theorem dX5_firstThatFits_12 : decode cX5_firstThatFits 12 = .ok (.iand, 1) := by decide +kernel
theorem dX5_firstThatFits_13 : decode cX5_firstThatFits 13 = .ok (.ifCond .ne 18, 3) := by decide +kernel
theorem dX5_firstThatFits_16 : decode cX5_firstThatFits 16 = .ok (.aload_n 0, 1) := by decide +kernel
theorem dX5_firstThatFits_17 : decode cX5_firstThatFits 17 = .ok (.getfield 11, 3) := by decide +kernel
theorem dX5_firstThatFits_20 : decode cX5_firstThatFits 20 = .ok (.iload_n 1, 1) := by decide +kernel
theorem dX5_firstThatFits_21 : decode cX5_firstThatFits 21 = .ok (.iconst 1, 1) := by decide +kernel
theorem dX5_firstThatFits_22 : decode cX5_firstThatFits 22 = .ok (.iload_n 2, 1) := by decide +kernel
theorem dX5_firstThatFits_23 : decode cX5_firstThatFits 23 = .ok (.ishl, 1) := by decide +kernel
theorem dX5_firstThatFits_24 : decode cX5_firstThatFits 24 = .ok (.ior, 1) := by decide +kernel
theorem dX5_firstThatFits_25 : decode cX5_firstThatFits 25 = .ok (.baload, 1) := by decide +kernel
theorem dX5_firstThatFits_26 : decode cX5_firstThatFits 26 = .ok (.ifCond .eq 5, 3) := by decide +kernel
theorem dX5_firstThatFits_29 : decode cX5_firstThatFits 29 = .ok (.iload_n 2, 1) := by decide +kernel
theorem dX5_firstThatFits_30 : decode cX5_firstThatFits 30 = .ok (.ireturn, 1) := by decide +kernel
theorem dX5_firstThatFits_31 : decode cX5_firstThatFits 31 = .ok (.iinc 2 1, 3) := by decide +kernel
theorem dX5_firstThatFits_34 : decode cX5_firstThatFits 34 = .ok (.goto (-32), 3) := by decide +kernel
theorem dX5_firstThatFits_37 : decode cX5_firstThatFits 37 = .ok (.bipush (-9), 2) := by decide +kernel
theorem dX5_firstThatFits_39 : decode cX5_firstThatFits 39 = .ok (.ireturn, 1) := by decide +kernel
theorem dX6_init_0 : decode cX6_init 0 = .ok (.aload_n 0, 1) := by decide +kernel
theorem dX6_init_1 : decode cX6_init 1 = .ok (.invokespecial 3, 3) := by decide +kernel
theorem dX6_init_4 : decode cX6_init 4 = .ok (.aload_n 0, 1) := by decide +kernel
theorem dX6_init_5 : decode cX6_init 5 = .ok (.iconst 0, 1) := by decide +kernel
theorem dX6_init_6 : decode cX6_init 6 = .ok (.putfield 9, 3) := by decide +kernel
theorem dX6_init_9 : decode cX6_init 9 = .ok (.aload_n 0, 1) := by decide +kernel
theorem dX6_init_10 : decode cX6_init 10 = .ok (.iconst 0, 1) := by decide +kernel
theorem dX6_init_11 : decode cX6_init 11 = .ok (.putfield 15, 3) := by decide +kernel
theorem dX6_init_14 : decode cX6_init 14 = .ok (.aload_n 0, 1) := by decide +kernel
theorem dX6_init_15 : decode cX6_init 15 = .ok (.iload_n 1, 1) := by decide +kernel
theorem dX6_init_16 : decode cX6_init 16 = .ok (.iconst 0, 1) := by decide +kernel
theorem dX6_init_17 : decode cX6_init 17 = .ok (.invokestatic 19, 3) := by decide +kernel
theorem dX6_init_20 : decode cX6_init 20 = .ok (.newarray .int, 2) := by decide +kernel
theorem dX6_init_22 : decode cX6_init 22 = .ok (.putfield 25, 3) := by decide +kernel
theorem dX6_init_25 : decode cX6_init 25 = .ok (.return_, 1) := by decide +kernel
theorem dX6_renew_0 : decode cX6_renew 0 = .ok (.aload_n 0, 1) := by decide +kernel
theorem dX6_renew_1 : decode cX6_renew 1 = .ok (.iconst 1, 1) := by decide +kernel
theorem dX6_renew_2 : decode cX6_renew 2 = .ok (.putfield 9, 3) := by decide +kernel
theorem dX6_renew_5 : decode cX6_renew 5 = .ok (.aload_n 0, 1) := by decide +kernel
theorem dX6_renew_6 : decode cX6_renew 6 = .ok (.iconst 0, 1) := by decide +kernel
theorem dX6_renew_7 : decode cX6_renew 7 = .ok (.putfield 15, 3) := by decide +kernel
theorem dX6_renew_10 : decode cX6_renew 10 = .ok (.iconst 0, 1) := by decide +kernel
theorem dX6_renew_11 : decode cX6_renew 11 = .ok (.istore_n 3, 1) := by decide +kernel
theorem dX6_renew_12 : decode cX6_renew 12 = .ok (.iload_n 3, 1) := by decide +kernel
theorem dX6_renew_13 : decode cX6_renew 13 = .ok (.iload_n 1, 1) := by decide +kernel
theorem dX6_renew_14 : decode cX6_renew 14 = .ok (.if_icmp .ge 14, 3) := by decide +kernel
theorem dX6_renew_17 : decode cX6_renew 17 = .ok (.aload_n 0, 1) := by decide +kernel
theorem dX6_renew_18 : decode cX6_renew 18 = .ok (.iload_n 2, 1) := by decide +kernel
theorem dX6_renew_19 : decode cX6_renew 19 = .ok (.invokevirtual 29, 3) := by decide +kernel
theorem dX6_renew_22 : decode cX6_renew 22 = .ok (.iinc 3 1, 3) := by decide +kernel
theorem dX6_renew_25 : decode cX6_renew 25 = .ok (.goto (-13), 3) := by decide +kernel
theorem dX6_renew_28 : decode cX6_renew 28 = .ok (.return_, 1) := by decide +kernel
theorem dX6_become_0 : decode cX6_become 0 = .ok (.aload_n 0, 1) := by decide +kernel
theorem dX6_become_1 : decode cX6_become 1 = .ok (.iconst 1, 1) := by decide +kernel
theorem dX6_become_2 : decode cX6_become 2 = .ok (.putfield 9, 3) := by decide +kernel
theorem dX6_become_5 : decode cX6_become 5 = .ok (.aload_n 0, 1) := by decide +kernel
theorem dX6_become_6 : decode cX6_become 6 = .ok (.iconst 0, 1) := by decide +kernel
theorem dX6_become_7 : decode cX6_become 7 = .ok (.putfield 15, 3) := by decide +kernel
theorem dX6_become_10 : decode cX6_become 10 = .ok (.aload_n 0, 1) := by decide +kernel
theorem dX6_become_11 : decode cX6_become 11 = .ok (.aload_n 1, 1) := by decide +kernel
theorem dX6_become_12 : decode cX6_become 12 = .ok (.invokevirtual 33, 3) := by decide +kernel
theorem dX6_become_15 : decode cX6_become 15 = .ok (.return_, 1) := by decide +kernel
theorem dX6_add_0 : decode cX6_add 0 = .ok (.aload_n 0, 1) := by decide +kernel
theorem dX6_add_1 : decode cX6_add 1 = .ok (.getfield 15, 3) := by decide +kernel
theorem dX6_add_4 : decode cX6_add 4 = .ok (.aload_n 0, 1) := by decide +kernel
theorem dX6_add_5 : decode cX6_add 5 = .ok (.getfield 25, 3) := by decide +kernel
theorem dX6_add_8 : decode cX6_add 8 = .ok (.arraylength, 1) := by decide +kernel
theorem dX6_add_9 : decode cX6_add 9 = .ok (.if_icmp .ge 23, 3) := by decide +kernel
theorem dX6_add_12 : decode cX6_add 12 = .ok (.aload_n 0, 1) := by decide +kernel
theorem dX6_add_13 : decode cX6_add 13 = .ok (.getfield 25, 3) := by decide +kernel
theorem dX6_add_16 : decode cX6_add 16 = .ok (.aload_n 0, 1) := by decide +kernel
theorem dX6_add_17 : decode cX6_add 17 = .ok (.getfield 15, 3) := by decide +kernel
theorem dX6_add_20 : decode cX6_add 20 = .ok (.iload_n 1, 1) := by decide +kernel
theorem dX6_add_21 : decode cX6_add 21 = .ok (.iastore, 1) := by decide +kernel
theorem dX6_add_22 : decode cX6_add 22 = .ok (.aload_n 0, 1) := by decide +kernel
theorem dX6_add_23 : decode cX6_add 23 = .ok (.dup, 1) := by decide +kernel
theorem dX6_add_24 : decode cX6_add 24 = .ok (.getfield 15, 3) := by decide +kernel
theorem dX6_add_27 : decode cX6_add 27 = .ok (.iconst 1, 1) := by decide +kernel
theorem dX6_add_28 : decode cX6_add 28 = .ok (.iadd, 1) := by decide +kernel
theorem dX6_add_29 : decode cX6_add 29 = .ok (.putfield 15, 3) := by decide +kernel
theorem dX6_add_32 : decode cX6_add 32 = .ok (.return_, 1) := by decide +kernel
theorem dX6_addAll_0 : decode cX6_addAll 0 = .ok (.aload_n 1, 1) := by decide +kernel
theorem dX6_addAll_1 : decode cX6_addAll 1 = .ok (.getfield 15, 3) := by decide +kernel
theorem dX6_addAll_4 : decode cX6_addAll 4 = .ok (.aload_n 0, 1) := by decide +kernel
theorem dX6_addAll_5 : decode cX6_addAll 5 = .ok (.getfield 25, 3) := by decide +kernel
theorem dX6_addAll_8 : decode cX6_addAll 8 = .ok (.arraylength, 1) := by decide +kernel
theorem dX6_addAll_9 : decode cX6_addAll 9 = .ok (.aload_n 0, 1) := by decide +kernel
theorem dX6_addAll_10 : decode cX6_addAll 10 = .ok (.getfield 15, 3) := by decide +kernel
theorem dX6_addAll_13 : decode cX6_addAll 13 = .ok (.isub, 1) := by decide +kernel
theorem dX6_addAll_14 : decode cX6_addAll 14 = .ok (.invokestatic 37, 3) := by decide +kernel
theorem dX6_addAll_17 : decode cX6_addAll 17 = .ok (.istore_n 2, 1) := by decide +kernel
theorem dX6_addAll_18 : decode cX6_addAll 18 = .ok (.aload_n 1, 1) := by decide +kernel
theorem dX6_addAll_19 : decode cX6_addAll 19 = .ok (.getfield 25, 3) := by decide +kernel
theorem dX6_addAll_22 : decode cX6_addAll 22 = .ok (.iconst 0, 1) := by decide +kernel
theorem dX6_addAll_23 : decode cX6_addAll 23 = .ok (.aload_n 0, 1) := by decide +kernel
theorem dX6_addAll_24 : decode cX6_addAll 24 = .ok (.getfield 25, 3) := by decide +kernel
theorem dX6_addAll_27 : decode cX6_addAll 27 = .ok (.aload_n 0, 1) := by decide +kernel
theorem dX6_addAll_28 : decode cX6_addAll 28 = .ok (.getfield 15, 3) := by decide +kernel
theorem dX6_addAll_31 : decode cX6_addAll 31 = .ok (.iload_n 2, 1) := by decide +kernel
theorem dX6_addAll_32 : decode cX6_addAll 32 = .ok (.invokestatic 40, 3) := by decide +kernel
theorem dX6_addAll_35 : decode cX6_addAll 35 = .ok (.aload_n 0, 1) := by decide +kernel
theorem dX6_addAll_36 : decode cX6_addAll 36 = .ok (.dup, 1) := by decide +kernel
theorem dX6_addAll_37 : decode cX6_addAll 37 = .ok (.getfield 15, 3) := by decide +kernel
theorem dX6_addAll_40 : decode cX6_addAll 40 = .ok (.iload_n 2, 1) := by decide +kernel
theorem dX6_addAll_41 : decode cX6_addAll 41 = .ok (.iadd, 1) := by decide +kernel
theorem dX6_addAll_42 : decode cX6_addAll 42 = .ok (.putfield 15, 3) := by decide +kernel
theorem dX6_addAll_45 : decode cX6_addAll 45 = .ok (.return_, 1) := by decide +kernel
theorem dX6_spans_0 : decode cX6_spans 0 = .ok (.iload_n 1, 1) := by decide +kernel
theorem dX6_spans_1 : decode cX6_spans 1 = .ok (.ifCond .lt 25, 3) := by decide +kernel
theorem dX6_spans_4 : decode cX6_spans 4 = .ok (.iload_n 1, 1) := by decide +kernel
theorem dX6_spans_5 : decode cX6_spans 5 = .ok (.aload_n 0, 1) := by decide +kernel
theorem dX6_spans_6 : decode cX6_spans 6 = .ok (.getfield 15, 3) := by decide +kernel
theorem dX6_spans_9 : decode cX6_spans 9 = .ok (.if_icmp .gt 17, 3) := by decide +kernel
theorem dX6_spans_12 : decode cX6_spans 12 = .ok (.iload_n 2, 1) := by decide +kernel
theorem dX6_spans_13 : decode cX6_spans 13 = .ok (.aload_n 0, 1) := by decide +kernel
theorem dX6_spans_14 : decode cX6_spans 14 = .ok (.getfield 15, 3) := by decide +kernel
theorem dX6_spans_17 : decode cX6_spans 17 = .ok (.iload_n 1, 1) := by decide +kernel
theorem dX6_spans_18 : decode cX6_spans 18 = .ok (.isub, 1) := by decide +kernel
theorem dX6_spans_19 : decode cX6_spans 19 = .ok (.if_icmp .gt 7, 3) := by decide +kernel
theorem dX6_spans_22 : decode cX6_spans 22 = .ok (.iconst 1, 1) := by decide +kernel
theorem dX6_spans_23 : decode cX6_spans 23 = .ok (.goto 4, 3) := by decide +kernel
theorem dX6_spans_26 : decode cX6_spans 26 = .ok (.iconst 0, 1) := by decide +kernel
theorem dX6_spans_27 : decode cX6_spans 27 = .ok (.ireturn, 1) := by decide +kernel
theorem dX6_unsignedAt_0 : decode cX6_unsignedAt 0 = .ok (.iload_n 1, 1) := by decide +kernel
theorem dX6_unsignedAt_1 : decode cX6_unsignedAt 1 = .ok (.aload_n 0, 1) := by decide +kernel
theorem dX6_unsignedAt_2 : decode cX6_unsignedAt 2 = .ok (.getfield 15, 3) := by decide +kernel
theorem dX6_unsignedAt_5 : decode cX6_unsignedAt 5 = .ok (.invokestatic 46, 3) := by decide +kernel
theorem dX6_unsignedAt_8 : decode cX6_unsignedAt 8 = .ok (.ifCond .eq 16, 3) := by decide +kernel
theorem dX6_unsignedAt_11 : decode cX6_unsignedAt 11 = .ok (.aload_n 0, 1) := by decide +kernel
theorem dX6_unsignedAt_12 : decode cX6_unsignedAt 12 = .ok (.getfield 25, 3) := by decide +kernel
theorem dX6_unsignedAt_15 : decode cX6_unsignedAt 15 = .ok (.iload_n 1, 1) := by decide +kernel
theorem dX6_unsignedAt_16 : decode cX6_unsignedAt 16 = .ok (.iaload, 1) := by decide +kernel
theorem dX6_unsignedAt_17 : decode cX6_unsignedAt 17 = .ok (.sipush 255, 3) := by decide +kernel
theorem dX6_unsignedAt_20 : decode cX6_unsignedAt 20 = .ok (.iand, 1) := by decide +kernel
theorem dX6_unsignedAt_21 : decode cX6_unsignedAt 21 = .ok (.goto 4, 3) := by decide +kernel
theorem dX6_unsignedAt_24 : decode cX6_unsignedAt 24 = .ok (.iconst 0, 1) := by decide +kernel
theorem dX6_unsignedAt_25 : decode cX6_unsignedAt 25 = .ok (.ireturn, 1) := by decide +kernel
theorem dX7_init_0 : decode cX7_init 0 = .ok (.aload_n 0, 1) := by decide +kernel
theorem dX7_init_1 : decode cX7_init 1 = .ok (.invokespecial 3, 3) := by decide +kernel
theorem dX7_init_4 : decode cX7_init 4 = .ok (.aload_n 0, 1) := by decide +kernel
theorem dX7_init_5 : decode cX7_init 5 = .ok (.new 9, 3) := by decide +kernel
theorem dX7_init_8 : decode cX7_init 8 = .ok (.dup, 1) := by decide +kernel
theorem dX7_init_9 : decode cX7_init 9 = .ok (.invokespecial 11, 3) := by decide +kernel
theorem dX7_init_12 : decode cX7_init 12 = .ok (.putfield 12, 3) := by decide +kernel
theorem dX7_init_15 : decode cX7_init 15 = .ok (.aload_n 0, 1) := by decide +kernel
theorem dX7_init_16 : decode cX7_init 16 = .ok (.aconst_null, 1) := by decide +kernel
theorem dX7_init_17 : decode cX7_init 17 = .ok (.putfield 18, 3) := by decide +kernel
theorem dX7_init_20 : decode cX7_init 20 = .ok (.aload_n 0, 1) := by decide +kernel
theorem dX7_init_21 : decode cX7_init 21 = .ok (.iconst 0, 1) := by decide +kernel
theorem dX7_init_22 : decode cX7_init 22 = .ok (.putfield 22, 3) := by decide +kernel
theorem dX7_init_25 : decode cX7_init 25 = .ok (.return_, 1) := by decide +kernel
theorem dX7_faultOf_0 : decode cX7_faultOf 0 = .ok (.aload_n 0, 1) := by decide +kernel
theorem dX7_faultOf_1 : decode cX7_faultOf 1 = .ok (.aload_n 1, 1) := by decide +kernel
theorem dX7_faultOf_2 : decode cX7_faultOf 2 = .ok (.putfield 18, 3) := by decide +kernel
theorem dX7_faultOf_5 : decode cX7_faultOf 5 = .ok (.aload_n 0, 1) := by decide +kernel
theorem dX7_faultOf_6 : decode cX7_faultOf 6 = .ok (.iconst 0, 1) := by decide +kernel
theorem dX7_faultOf_7 : decode cX7_faultOf 7 = .ok (.putfield 22, 3) := by decide +kernel
theorem dX7_faultOf_10 : decode cX7_faultOf 10 = .ok (.aload_n 0, 1) := by decide +kernel
theorem dX7_faultOf_11 : decode cX7_faultOf 11 = .ok (.getfield 12, 3) := by decide +kernel
theorem dX7_faultOf_14 : decode cX7_faultOf 14 = .ok (.iconst 0, 1) := by decide +kernel
theorem dX7_faultOf_15 : decode cX7_faultOf 15 = .ok (.putfield 26, 3) := by decide +kernel
theorem dX7_faultOf_18 : decode cX7_faultOf 18 = .ok (.iconst 0, 1) := by decide +kernel
theorem dX7_faultOf_19 : decode cX7_faultOf 19 = .ok (.istore_n 2, 1) := by decide +kernel
theorem dX7_faultOf_20 : decode cX7_faultOf 20 = .ok (.iload_n 2, 1) := by decide +kernel
theorem dX7_faultOf_21 : decode cX7_faultOf 21 = .ok (.bipush 60, 2) := by decide +kernel
theorem dX7_faultOf_23 : decode cX7_faultOf 23 = .ok (.if_icmp .gt 39, 3) := by decide +kernel
theorem dX7_faultOf_26 : decode cX7_faultOf 26 = .ok (.aload_n 0, 1) := by decide +kernel
theorem dX7_faultOf_27 : decode cX7_faultOf 27 = .ok (.invokevirtual 29, 3) := by decide +kernel
theorem dX7_faultOf_30 : decode cX7_faultOf 30 = .ok (.aload_n 0, 1) := by decide +kernel
theorem dX7_faultOf_31 : decode cX7_faultOf 31 = .ok (.invokevirtual 32, 3) := by decide +kernel
theorem dX7_faultOf_34 : decode cX7_faultOf 34 = .ok (.sipush (-1000), 3) := by decide +kernel
theorem dX7_faultOf_37 : decode cX7_faultOf 37 = .ok (.if_icmp .ne 6, 3) := by decide +kernel
theorem dX7_faultOf_40 : decode cX7_faultOf 40 = .ok (.bipush (-9), 2) := by decide +kernel
theorem dX7_faultOf_42 : decode cX7_faultOf 42 = .ok (.ireturn, 1) := by decide +kernel
theorem dX7_faultOf_43 : decode cX7_faultOf 43 = .ok (.aload_n 0, 1) := by decide +kernel
theorem dX7_faultOf_44 : decode cX7_faultOf 44 = .ok (.invokevirtual 36, 3) := by decide +kernel
theorem dX7_faultOf_47 : decode cX7_faultOf 47 = .ok (.istore_n 3, 1) := by decide +kernel
theorem dX7_faultOf_48 : decode cX7_faultOf 48 = .ok (.iload_n 3, 1) := by decide +kernel
theorem dX7_faultOf_49 : decode cX7_faultOf 49 = .ok (.bipush (-9), 2) := by decide +kernel
theorem dX7_faultOf_51 : decode cX7_faultOf 51 = .ok (.if_icmp .eq 5, 3) := by decide +kernel
theorem dX7_faultOf_54 : decode cX7_faultOf 54 = .ok (.iload_n 3, 1) := by decide +kernel
theorem dX7_faultOf_55 : decode cX7_faultOf 55 = .ok (.ireturn, 1) := by decide +kernel
theorem dX7_faultOf_56 : decode cX7_faultOf 56 = .ok (.iinc 2 1, 3) := by decide +kernel
theorem dX7_faultOf_59 : decode cX7_faultOf 59 = .ok (.goto (-39), 3) := by decide +kernel
theorem dX7_faultOf_62 : decode cX7_faultOf 62 = .ok (.bipush (-9), 2) := by decide +kernel
theorem dX7_faultOf_64 : decode cX7_faultOf 64 = .ok (.ireturn, 1) := by decide +kernel
theorem dX7_sign_0 : decode cX7_sign 0 = .ok (.aload_n 0, 1) := by decide +kernel
theorem dX7_sign_1 : decode cX7_sign 1 = .ok (.getfield 18, 3) := by decide +kernel
theorem dX7_sign_4 : decode cX7_sign 4 = .ok (.ifnull 32, 3) := by decide +kernel
theorem dX7_sign_7 : decode cX7_sign 7 = .ok (.aload_n 0, 1) := by decide +kernel
theorem dX7_sign_8 : decode cX7_sign 8 = .ok (.getfield 22, 3) := by decide +kernel
theorem dX7_sign_11 : decode cX7_sign 11 = .ok (.aload_n 0, 1) := by decide +kernel
theorem dX7_sign_12 : decode cX7_sign 12 = .ok (.getfield 18, 3) := by decide +kernel
theorem dX7_sign_15 : decode cX7_sign 15 = .ok (.getfield 39, 3) := by decide +kernel
theorem dX7_sign_18 : decode cX7_sign 18 = .ok (.if_icmp .ge 18, 3) := by decide +kernel
theorem dX7_sign_21 : decode cX7_sign 21 = .ok (.aload_n 0, 1) := by decide +kernel
theorem dX7_sign_22 : decode cX7_sign 22 = .ok (.getfield 18, 3) := by decide +kernel
theorem dX7_sign_25 : decode cX7_sign 25 = .ok (.getfield 44, 3) := by decide +kernel
theorem dX7_sign_28 : decode cX7_sign 28 = .ok (.aload_n 0, 1) := by decide +kernel
theorem dX7_sign_29 : decode cX7_sign 29 = .ok (.getfield 22, 3) := by decide +kernel
theorem dX7_sign_32 : decode cX7_sign 32 = .ok (.iaload, 1) := by decide +kernel
theorem dX7_sign_33 : decode cX7_sign 33 = .ok (.goto 6, 3) := by decide +kernel
theorem dX7_sign_36 : decode cX7_sign 36 = .ok (.sipush (-1000), 3) := by decide +kernel
theorem dX7_sign_39 : decode cX7_sign 39 = .ok (.ireturn, 1) := by decide +kernel
theorem dX7_figure_0 : decode cX7_figure 0 = .ok (.aload_n 0, 1) := by decide +kernel
theorem dX7_figure_1 : decode cX7_figure 1 = .ok (.invokevirtual 32, 3) := by decide +kernel
theorem dX7_figure_4 : decode cX7_figure 4 = .ok (.istore_n 1, 1) := by decide +kernel
theorem dX7_figure_5 : decode cX7_figure 5 = .ok (.iload_n 1, 1) := by decide +kernel
theorem dX7_figure_6 : decode cX7_figure 6 = .ok (.bipush 48, 2) := by decide +kernel
theorem dX7_figure_8 : decode cX7_figure 8 = .ok (.if_icmp .lt 16, 3) := by decide +kernel
theorem dX7_figure_11 : decode cX7_figure 11 = .ok (.iload_n 1, 1) := by decide +kernel
theorem dX7_figure_12 : decode cX7_figure 12 = .ok (.bipush 57, 2) := by decide +kernel
theorem dX7_figure_14 : decode cX7_figure 14 = .ok (.if_icmp .gt 10, 3) := by decide +kernel
theorem dX7_figure_17 : decode cX7_figure 17 = .ok (.iload_n 1, 1) := by decide +kernel
theorem dX7_figure_18 : decode cX7_figure 18 = .ok (.bipush 48, 2) := by decide +kernel
theorem dX7_figure_20 : decode cX7_figure 20 = .ok (.isub, 1) := by decide +kernel
theorem dX7_figure_21 : decode cX7_figure 21 = .ok (.goto 5, 3) := by decide +kernel
theorem dX7_figure_24 : decode cX7_figure 24 = .ok (.bipush (-9), 2) := by decide +kernel
theorem dX7_figure_26 : decode cX7_figure 26 = .ok (.ireturn, 1) := by decide +kernel
theorem dX7_skipBlanks_0 : decode cX7_skipBlanks 0 = .ok (.iconst 0, 1) := by decide +kernel
theorem dX7_skipBlanks_1 : decode cX7_skipBlanks 1 = .ok (.istore_n 1, 1) := by decide +kernel
theorem dX7_skipBlanks_2 : decode cX7_skipBlanks 2 = .ok (.iload_n 1, 1) := by decide +kernel
theorem dX7_skipBlanks_3 : decode cX7_skipBlanks 3 = .ok (.bipush 60, 2) := by decide +kernel
theorem dX7_skipBlanks_5 : decode cX7_skipBlanks 5 = .ok (.if_icmp .ge 28, 3) := by decide +kernel
theorem dX7_skipBlanks_8 : decode cX7_skipBlanks 8 = .ok (.aload_n 0, 1) := by decide +kernel
theorem dX7_skipBlanks_9 : decode cX7_skipBlanks 9 = .ok (.invokevirtual 32, 3) := by decide +kernel
theorem dX7_skipBlanks_12 : decode cX7_skipBlanks 12 = .ok (.bipush 32, 2) := by decide +kernel
theorem dX7_skipBlanks_14 : decode cX7_skipBlanks 14 = .ok (.if_icmp .ne 19, 3) := by decide +kernel
theorem dX7_skipBlanks_17 : decode cX7_skipBlanks 17 = .ok (.aload_n 0, 1) := by decide +kernel
theorem dX7_skipBlanks_18 : decode cX7_skipBlanks 18 = .ok (.dup, 1) := by decide +kernel
theorem dX7_skipBlanks_19 : decode cX7_skipBlanks 19 = .ok (.getfield 22, 3) := by decide +kernel
theorem dX7_skipBlanks_22 : decode cX7_skipBlanks 22 = .ok (.iconst 1, 1) := by decide +kernel
theorem dX7_skipBlanks_23 : decode cX7_skipBlanks 23 = .ok (.iadd, 1) := by decide +kernel
theorem dX7_skipBlanks_24 : decode cX7_skipBlanks 24 = .ok (.putfield 22, 3) := by decide +kernel
theorem dX7_skipBlanks_27 : decode cX7_skipBlanks 27 = .ok (.iinc 1 1, 3) := by decide +kernel
theorem dX7_skipBlanks_30 : decode cX7_skipBlanks 30 = .ok (.goto (-28), 3) := by decide +kernel
theorem dX7_skipBlanks_33 : decode cX7_skipBlanks 33 = .ok (.return_, 1) := by decide +kernel
theorem dX7_scanItem_0 : decode cX7_scanItem 0 = .ok (.aload_n 0, 1) := by decide +kernel
theorem dX7_scanItem_1 : decode cX7_scanItem 1 = .ok (.invokevirtual 32, 3) := by decide +kernel
theorem dX7_scanItem_4 : decode cX7_scanItem 4 = .ok (.bipush 97, 2) := by decide +kernel
theorem dX7_scanItem_6 : decode cX7_scanItem 6 = .ok (.isub, 1) := by decide +kernel
theorem dX7_scanItem_7 : decode cX7_scanItem 7 = .ok (.istore_n 1, 1) := by decide +kernel
theorem dX7_scanItem_8 : decode cX7_scanItem 8 = .ok (.iload_n 1, 1) := by decide +kernel
theorem dX7_scanItem_9 : decode cX7_scanItem 9 = .ok (.bipush 16, 2) := by decide +kernel
theorem dX7_scanItem_11 : decode cX7_scanItem 11 = .ok (.invokestatic 48, 3) := by decide +kernel
theorem dX7_scanItem_14 : decode cX7_scanItem 14 = .ok (.ifCond .eq 15, 3) := by decide +kernel
theorem dX7_scanItem_17 : decode cX7_scanItem 17 = .ok (.aload_n 0, 1) := by decide +kernel
theorem dX7_scanItem_18 : decode cX7_scanItem 18 = .ok (.getfield 12, 3) := by decide +kernel
theorem dX7_scanItem_21 : decode cX7_scanItem 21 = .ok (.getfield 26, 3) := by decide +kernel
theorem dX7_scanItem_24 : decode cX7_scanItem 24 = .ok (.bipush 12, 2) := by decide +kernel
theorem dX7_scanItem_26 : decode cX7_scanItem 26 = .ok (.if_icmp .lt 8, 3) := by decide +kernel
theorem dX7_scanItem_29 : decode cX7_scanItem 29 = .ok (.aload_n 0, 1) := by decide +kernel
theorem dX7_scanItem_30 : decode cX7_scanItem 30 = .ok (.getfield 22, 3) := by decide +kernel
theorem dX7_scanItem_33 : decode cX7_scanItem 33 = .ok (.ireturn, 1) := by decide +kernel
theorem dX7_scanItem_34 : decode cX7_scanItem 34 = .ok (.aload_n 0, 1) := by decide +kernel
theorem dX7_scanItem_35 : decode cX7_scanItem 35 = .ok (.dup, 1) := by decide +kernel
theorem dX7_scanItem_36 : decode cX7_scanItem 36 = .ok (.getfield 22, 3) := by decide +kernel
theorem dX7_scanItem_39 : decode cX7_scanItem 39 = .ok (.iconst 1, 1) := by decide +kernel
theorem dX7_scanItem_40 : decode cX7_scanItem 40 = .ok (.iadd, 1) := by decide +kernel
theorem dX7_scanItem_41 : decode cX7_scanItem 41 = .ok (.putfield 22, 3) := by decide +kernel
theorem dX7_scanItem_44 : decode cX7_scanItem 44 = .ok (.aload_n 0, 1) := by decide +kernel
theorem dX7_scanItem_45 : decode cX7_scanItem 45 = .ok (.invokevirtual 32, 3) := by decide +kernel
theorem dX7_scanItem_48 : decode cX7_scanItem 48 = .ok (.invokestatic 52, 3) := by decide +kernel
theorem dX7_scanItem_51 : decode cX7_scanItem 51 = .ok (.istore_n 2, 1) := by decide +kernel
theorem dX7_scanItem_52 : decode cX7_scanItem 52 = .ok (.iload_n 2, 1) := by decide +kernel
theorem dX7_scanItem_53 : decode cX7_scanItem 53 = .ok (.bipush (-9), 2) := by decide +kernel
theorem dX7_scanItem_55 : decode cX7_scanItem 55 = .ok (.if_icmp .ne 8, 3) := by decide +kernel
theorem dX7_scanItem_58 : decode cX7_scanItem 58 = .ok (.aload_n 0, 1) := by decide +kernel
theorem dX7_scanItem_59 : decode cX7_scanItem 59 = .ok (.getfield 22, 3) := by decide +kernel
theorem dX7_scanItem_62 : decode cX7_scanItem 62 = .ok (.ireturn, 1) := by decide +kernel
theorem dX7_scanItem_63 : decode cX7_scanItem 63 = .ok (.aload_n 0, 1) := by decide +kernel
theorem dX7_scanItem_64 : decode cX7_scanItem 64 = .ok (.dup, 1) := by decide +kernel
theorem dX7_scanItem_65 : decode cX7_scanItem 65 = .ok (.getfield 22, 3) := by decide +kernel
theorem dX7_scanItem_68 : decode cX7_scanItem 68 = .ok (.iconst 1, 1) := by decide +kernel
theorem dX7_scanItem_69 : decode cX7_scanItem 69 = .ok (.iadd, 1) := by decide +kernel
theorem dX7_scanItem_70 : decode cX7_scanItem 70 = .ok (.putfield 22, 3) := by decide +kernel
theorem dX7_scanItem_73 : decode cX7_scanItem 73 = .ok (.iconst 0, 1) := by decide +kernel
theorem dX7_scanItem_74 : decode cX7_scanItem 74 = .ok (.istore_n 3, 1) := by decide +kernel
theorem dX7_scanItem_75 : decode cX7_scanItem 75 = .ok (.iload_n 2, 1) := by decide +kernel
theorem dX7_scanItem_76 : decode cX7_scanItem 76 = .ok (.iconst 3, 1) := by decide +kernel
theorem dX7_scanItem_77 : decode cX7_scanItem 77 = .ok (.if_icmp .ne 27, 3) := by decide +kernel
theorem dX7_scanItem_80 : decode cX7_scanItem 80 = .ok (.aload_n 0, 1) := by decide +kernel
theorem dX7_scanItem_81 : decode cX7_scanItem 81 = .ok (.invokevirtual 56, 3) := by decide +kernel
theorem dX7_scanItem_84 : decode cX7_scanItem 84 = .ok (.istore_n 3, 1) := by decide +kernel
theorem dX7_scanItem_85 : decode cX7_scanItem 85 = .ok (.iload_n 3, 1) := by decide +kernel
theorem dX7_scanItem_86 : decode cX7_scanItem 86 = .ok (.ifCond .gt 8, 3) := by decide +kernel
theorem dX7_scanItem_89 : decode cX7_scanItem 89 = .ok (.aload_n 0, 1) := by decide +kernel
theorem dX7_scanItem_90 : decode cX7_scanItem 90 = .ok (.getfield 22, 3) := by decide +kernel
theorem dX7_scanItem_93 : decode cX7_scanItem 93 = .ok (.ireturn, 1) := by decide +kernel
theorem dX7_scanItem_94 : decode cX7_scanItem 94 = .ok (.aload_n 0, 1) := by decide +kernel
theorem dX7_scanItem_95 : decode cX7_scanItem 95 = .ok (.dup, 1) := by decide +kernel
theorem dX7_scanItem_96 : decode cX7_scanItem 96 = .ok (.getfield 22, 3) := by decide +kernel
theorem dX7_scanItem_99 : decode cX7_scanItem 99 = .ok (.iconst 1, 1) := by decide +kernel
theorem dX7_scanItem_100 : decode cX7_scanItem 100 = .ok (.iadd, 1) := by decide +kernel
theorem dX7_scanItem_101 : decode cX7_scanItem 101 = .ok (.putfield 22, 3) := by decide +kernel
theorem dX7_scanItem_104 : decode cX7_scanItem 104 = .ok (.aload_n 0, 1) := by decide +kernel
theorem dX7_scanItem_105 : decode cX7_scanItem 105 = .ok (.getfield 12, 3) := by decide +kernel
theorem dX7_scanItem_108 : decode cX7_scanItem 108 = .ok (.iload_n 1, 1) := by decide +kernel
theorem dX7_scanItem_109 : decode cX7_scanItem 109 = .ok (.iload_n 2, 1) := by decide +kernel
theorem dX7_scanItem_110 : decode cX7_scanItem 110 = .ok (.iload_n 3, 1) := by decide +kernel
theorem dX7_scanItem_111 : decode cX7_scanItem 111 = .ok (.invokevirtual 59, 3) := by decide +kernel
theorem dX7_scanItem_114 : decode cX7_scanItem 114 = .ok (.aload_n 0, 1) := by decide +kernel
theorem dX7_scanItem_115 : decode cX7_scanItem 115 = .ok (.iload_n 2, 1) := by decide +kernel
theorem dX7_scanItem_116 : decode cX7_scanItem 116 = .ok (.invokevirtual 63, 3) := by decide +kernel
theorem dX7_scanItem_119 : decode cX7_scanItem 119 = .ok (.istore 4, 2) := by decide +kernel
theorem dX7_scanItem_121 : decode cX7_scanItem 121 = .ok (.iload 4, 2) := by decide +kernel
theorem dX7_scanItem_123 : decode cX7_scanItem 123 = .ok (.bipush (-9), 2) := by decide +kernel
theorem dX7_scanItem_125 : decode cX7_scanItem 125 = .ok (.if_icmp .eq 6, 3) := by decide +kernel
theorem dX7_scanItem_128 : decode cX7_scanItem 128 = .ok (.iload 4, 2) := by decide +kernel
theorem dX7_scanItem_130 : decode cX7_scanItem 130 = .ok (.ireturn, 1) := by decide +kernel
theorem dX7_scanItem_131 : decode cX7_scanItem 131 = .ok (.aload_n 0, 1) := by decide +kernel
theorem dX7_scanItem_132 : decode cX7_scanItem 132 = .ok (.getfield 12, 3) := by decide +kernel
theorem dX7_scanItem_135 : decode cX7_scanItem 135 = .ok (.invokevirtual 66, 3) := by decide +kernel
theorem dX7_scanItem_138 : decode cX7_scanItem 138 = .ok (.ifCond .ne 8, 3) := by decide +kernel
theorem dX7_scanItem_141 : decode cX7_scanItem 141 = .ok (.aload_n 0, 1) := by decide +kernel
theorem dX7_scanItem_142 : decode cX7_scanItem 142 = .ok (.getfield 22, 3) := by decide +kernel
theorem dX7_scanItem_145 : decode cX7_scanItem 145 = .ok (.ireturn, 1) := by decide +kernel
theorem dX7_scanItem_146 : decode cX7_scanItem 146 = .ok (.aload_n 0, 1) := by decide +kernel
theorem dX7_scanItem_147 : decode cX7_scanItem 147 = .ok (.getfield 12, 3) := by decide +kernel
theorem dX7_scanItem_150 : decode cX7_scanItem 150 = .ok (.dup, 1) := by decide +kernel
theorem dX7_scanItem_151 : decode cX7_scanItem 151 = .ok (.getfield 26, 3) := by decide +kernel
theorem dX7_scanItem_154 : decode cX7_scanItem 154 = .ok (.iconst 1, 1) := by decide +kernel
theorem dX7_scanItem_155 : decode cX7_scanItem 155 = .ok (.iadd, 1) := by decide +kernel
theorem dX7_scanItem_156 : decode cX7_scanItem 156 = .ok (.putfield 26, 3) := by decide +kernel
theorem dX7_scanItem_159 : decode cX7_scanItem 159 = .ok (.bipush (-9), 2) := by decide +kernel
theorem dX7_scanItem_161 : decode cX7_scanItem 161 = .ok (.ireturn, 1) := by decide +kernel
theorem dX7_scanMarks_0 : decode cX7_scanMarks 0 = .ok (.iconst 0, 1) := by decide +kernel
theorem dX7_scanMarks_1 : decode cX7_scanMarks 1 = .ok (.istore_n 2, 1) := by decide +kernel
theorem dX7_scanMarks_2 : decode cX7_scanMarks 2 = .ok (.iconst 0, 1) := by decide +kernel
theorem dX7_scanMarks_3 : decode cX7_scanMarks 3 = .ok (.istore_n 3, 1) := by decide +kernel
theorem dX7_scanMarks_4 : decode cX7_scanMarks 4 = .ok (.iload_n 3, 1) := by decide +kernel
theorem dX7_scanMarks_5 : decode cX7_scanMarks 5 = .ok (.iconst 3, 1) := by decide +kernel
theorem dX7_scanMarks_6 : decode cX7_scanMarks 6 = .ok (.if_icmp .gt 90, 3) := by decide +kernel
theorem dX7_scanMarks_9 : decode cX7_scanMarks 9 = .ok (.aload_n 0, 1) := by decide +kernel
theorem dX7_scanMarks_10 : decode cX7_scanMarks 10 = .ok (.invokevirtual 32, 3) := by decide +kernel
theorem dX7_scanMarks_13 : decode cX7_scanMarks 13 = .ok (.invokestatic 70, 3) := by decide +kernel
theorem dX7_scanMarks_16 : decode cX7_scanMarks 16 = .ok (.istore 4, 2) := by decide +kernel
theorem dX7_scanMarks_18 : decode cX7_scanMarks 18 = .ok (.iload 4, 2) := by decide +kernel
theorem dX7_scanMarks_20 : decode cX7_scanMarks 20 = .ok (.bipush (-9), 2) := by decide +kernel
theorem dX7_scanMarks_22 : decode cX7_scanMarks 22 = .ok (.if_icmp .ne 6, 3) := by decide +kernel
theorem dX7_scanMarks_25 : decode cX7_scanMarks 25 = .ok (.bipush (-9), 2) := by decide +kernel
theorem dX7_scanMarks_27 : decode cX7_scanMarks 27 = .ok (.ireturn, 1) := by decide +kernel
theorem dX7_scanMarks_28 : decode cX7_scanMarks 28 = .ok (.iload_n 2, 1) := by decide +kernel
theorem dX7_scanMarks_29 : decode cX7_scanMarks 29 = .ok (.iconst 1, 1) := by decide +kernel
theorem dX7_scanMarks_30 : decode cX7_scanMarks 30 = .ok (.iload 4, 2) := by decide +kernel
theorem dX7_scanMarks_32 : decode cX7_scanMarks 32 = .ok (.ishl, 1) := by decide +kernel
theorem dX7_scanMarks_33 : decode cX7_scanMarks 33 = .ok (.iand, 1) := by decide +kernel
theorem dX7_scanMarks_34 : decode cX7_scanMarks 34 = .ok (.ifCond .ne 14, 3) := by decide +kernel
theorem dX7_scanMarks_37 : decode cX7_scanMarks 37 = .ok (.iload 4, 2) := by decide +kernel
theorem dX7_scanMarks_39 : decode cX7_scanMarks 39 = .ok (.iconst 2, 1) := by decide +kernel
theorem dX7_scanMarks_40 : decode cX7_scanMarks 40 = .ok (.if_icmp .ne 13, 3) := by decide +kernel
theorem dX7_scanMarks_43 : decode cX7_scanMarks 43 = .ok (.iload_n 1, 1) := by decide +kernel
theorem dX7_scanMarks_44 : decode cX7_scanMarks 44 = .ok (.iconst 2, 1) := by decide +kernel
theorem dX7_scanMarks_45 : decode cX7_scanMarks 45 = .ok (.if_icmp .ne 8, 3) := by decide +kernel
theorem dX7_scanMarks_48 : decode cX7_scanMarks 48 = .ok (.aload_n 0, 1) := by decide +kernel
theorem dX7_scanMarks_49 : decode cX7_scanMarks 49 = .ok (.getfield 22, 3) := by decide +kernel
theorem dX7_scanMarks_52 : decode cX7_scanMarks 52 = .ok (.ireturn, 1) := by decide +kernel
theorem dX7_scanMarks_53 : decode cX7_scanMarks 53 = .ok (.iload_n 2, 1) := by decide +kernel
theorem dX7_scanMarks_54 : decode cX7_scanMarks 54 = .ok (.iconst 1, 1) := by decide +kernel
theorem dX7_scanMarks_55 : decode cX7_scanMarks 55 = .ok (.iload 4, 2) := by decide +kernel
theorem dX7_scanMarks_57 : decode cX7_scanMarks 57 = .ok (.ishl, 1) := by decide +kernel
theorem dX7_scanMarks_58 : decode cX7_scanMarks 58 = .ok (.ior, 1) := by decide +kernel
theorem dX7_scanMarks_59 : decode cX7_scanMarks 59 = .ok (.istore_n 2, 1) := by decide +kernel
theorem dX7_scanMarks_60 : decode cX7_scanMarks 60 = .ok (.aload_n 0, 1) := by decide +kernel
theorem dX7_scanMarks_61 : decode cX7_scanMarks 61 = .ok (.dup, 1) := by decide +kernel
theorem dX7_scanMarks_62 : decode cX7_scanMarks 62 = .ok (.getfield 22, 3) := by decide +kernel
theorem dX7_scanMarks_65 : decode cX7_scanMarks 65 = .ok (.iconst 1, 1) := by decide +kernel
theorem dX7_scanMarks_66 : decode cX7_scanMarks 66 = .ok (.iadd, 1) := by decide +kernel
theorem dX7_scanMarks_67 : decode cX7_scanMarks 67 = .ok (.putfield 22, 3) := by decide +kernel
theorem dX7_scanMarks_70 : decode cX7_scanMarks 70 = .ok (.aload_n 0, 1) := by decide +kernel
theorem dX7_scanMarks_71 : decode cX7_scanMarks 71 = .ok (.invokevirtual 56, 3) := by decide +kernel
theorem dX7_scanMarks_74 : decode cX7_scanMarks 74 = .ok (.bipush (-9), 2) := by decide +kernel
theorem dX7_scanMarks_76 : decode cX7_scanMarks 76 = .ok (.if_icmp .ne 8, 3) := by decide +kernel
theorem dX7_scanMarks_79 : decode cX7_scanMarks 79 = .ok (.aload_n 0, 1) := by decide +kernel
theorem dX7_scanMarks_80 : decode cX7_scanMarks 80 = .ok (.getfield 22, 3) := by decide +kernel
theorem dX7_scanMarks_83 : decode cX7_scanMarks 83 = .ok (.ireturn, 1) := by decide +kernel
theorem dX7_scanMarks_84 : decode cX7_scanMarks 84 = .ok (.aload_n 0, 1) := by decide +kernel
theorem dX7_scanMarks_85 : decode cX7_scanMarks 85 = .ok (.iload 4, 2) := by decide +kernel
theorem dX7_scanMarks_87 : decode cX7_scanMarks 87 = .ok (.invokevirtual 73, 3) := by decide +kernel
theorem dX7_scanMarks_90 : decode cX7_scanMarks 90 = .ok (.iinc 3 1, 3) := by decide +kernel
theorem dX7_scanMarks_93 : decode cX7_scanMarks 93 = .ok (.goto (-89), 3) := by decide +kernel
theorem dX7_scanMarks_96 : decode cX7_scanMarks 96 = .ok (.bipush (-9), 2) := by decide +kernel
theorem dX7_scanMarks_98 : decode cX7_scanMarks 98 = .ok (.ireturn, 1) := by decide +kernel
theorem dX7_takeFigures_0 : decode cX7_takeFigures 0 = .ok (.iload_n 1, 1) := by decide +kernel
theorem dX7_takeFigures_1 : decode cX7_takeFigures 1 = .ok (.iconst 2, 1) := by decide +kernel
theorem dX7_takeFigures_2 : decode cX7_takeFigures 2 = .ok (.if_icmp .ne 7, 3) := by decide +kernel
theorem dX7_takeFigures_5 : decode cX7_takeFigures 5 = .ok (.iconst 3, 1) := by decide +kernel
theorem dX7_takeFigures_6 : decode cX7_takeFigures 6 = .ok (.goto 4, 3) := by decide +kernel
theorem dX7_takeFigures_9 : decode cX7_takeFigures 9 = .ok (.iconst 1, 1) := by decide +kernel
theorem dX7_takeFigures_10 : decode cX7_takeFigures 10 = .ok (.istore_n 2, 1) := by decide +kernel
theorem dX7_takeFigures_11 : decode cX7_takeFigures 11 = .ok (.iconst 0, 1) := by decide +kernel
theorem dX7_takeFigures_12 : decode cX7_takeFigures 12 = .ok (.istore_n 3, 1) := by decide +kernel
theorem dX7_takeFigures_13 : decode cX7_takeFigures 13 = .ok (.iconst 0, 1) := by decide +kernel
theorem dX7_takeFigures_14 : decode cX7_takeFigures 14 = .ok (.istore 4, 2) := by decide +kernel
theorem dX7_takeFigures_16 : decode cX7_takeFigures 16 = .ok (.iload 4, 2) := by decide +kernel
theorem dX7_takeFigures_18 : decode cX7_takeFigures 18 = .ok (.iload_n 2, 1) := by decide +kernel
theorem dX7_takeFigures_19 : decode cX7_takeFigures 19 = .ok (.if_icmp .ge 38, 3) := by decide +kernel
theorem dX7_takeFigures_22 : decode cX7_takeFigures 22 = .ok (.aload_n 0, 1) := by decide +kernel
theorem dX7_takeFigures_23 : decode cX7_takeFigures 23 = .ok (.invokevirtual 56, 3) := by decide +kernel
theorem dX7_takeFigures_26 : decode cX7_takeFigures 26 = .ok (.bipush (-9), 2) := by decide +kernel
theorem dX7_takeFigures_28 : decode cX7_takeFigures 28 = .ok (.if_icmp .eq 29, 3) := by decide +kernel
theorem dX7_takeFigures_31 : decode cX7_takeFigures 31 = .ok (.iload_n 3, 1) := by decide +kernel
theorem dX7_takeFigures_32 : decode cX7_takeFigures 32 = .ok (.bipush 10, 2) := by decide +kernel
theorem dX7_takeFigures_34 : decode cX7_takeFigures 34 = .ok (.imul, 1) := by decide +kernel
theorem dX7_takeFigures_35 : decode cX7_takeFigures 35 = .ok (.aload_n 0, 1) := by decide +kernel
theorem dX7_takeFigures_36 : decode cX7_takeFigures 36 = .ok (.invokevirtual 56, 3) := by decide +kernel
theorem dX7_takeFigures_39 : decode cX7_takeFigures 39 = .ok (.iadd, 1) := by decide +kernel
theorem dX7_takeFigures_40 : decode cX7_takeFigures 40 = .ok (.istore_n 3, 1) := by decide +kernel
theorem dX7_takeFigures_41 : decode cX7_takeFigures 41 = .ok (.aload_n 0, 1) := by decide +kernel
theorem dX7_takeFigures_42 : decode cX7_takeFigures 42 = .ok (.dup, 1) := by decide +kernel
theorem dX7_takeFigures_43 : decode cX7_takeFigures 43 = .ok (.getfield 22, 3) := by decide +kernel
theorem dX7_takeFigures_46 : decode cX7_takeFigures 46 = .ok (.iconst 1, 1) := by decide +kernel
theorem dX7_takeFigures_47 : decode cX7_takeFigures 47 = .ok (.iadd, 1) := by decide +kernel
theorem dX7_takeFigures_48 : decode cX7_takeFigures 48 = .ok (.putfield 22, 3) := by decide +kernel
theorem dX7_takeFigures_51 : decode cX7_takeFigures 51 = .ok (.iinc 4 1, 3) := by decide +kernel
theorem dX7_takeFigures_54 : decode cX7_takeFigures 54 = .ok (.goto (-38), 3) := by decide +kernel
theorem dX7_takeFigures_57 : decode cX7_takeFigures 57 = .ok (.iload_n 1, 1) := by decide +kernel
theorem dX7_takeFigures_58 : decode cX7_takeFigures 58 = .ok (.ifCond .ne 22, 3) := by decide +kernel
theorem dX7_takeFigures_61 : decode cX7_takeFigures 61 = .ok (.aload_n 0, 1) := by decide +kernel
theorem dX7_takeFigures_62 : decode cX7_takeFigures 62 = .ok (.getfield 12, 3) := by decide +kernel
theorem dX7_takeFigures_65 : decode cX7_takeFigures 65 = .ok (.getfield 77, 3) := by decide +kernel
theorem dX7_takeFigures_68 : decode cX7_takeFigures 68 = .ok (.aload_n 0, 1) := by decide +kernel
theorem dX7_takeFigures_69 : decode cX7_takeFigures 69 = .ok (.getfield 12, 3) := by decide +kernel
theorem dX7_takeFigures_72 : decode cX7_takeFigures 72 = .ok (.getfield 26, 3) := by decide +kernel
theorem dX7_takeFigures_75 : decode cX7_takeFigures 75 = .ok (.iload_n 3, 1) := by decide +kernel
theorem dX7_takeFigures_76 : decode cX7_takeFigures 76 = .ok (.iastore, 1) := by decide +kernel
theorem dX7_takeFigures_77 : decode cX7_takeFigures 77 = .ok (.goto 43, 3) := by decide +kernel
theorem dX7_takeFigures_80 : decode cX7_takeFigures 80 = .ok (.iload_n 1, 1) := by decide +kernel
theorem dX7_takeFigures_81 : decode cX7_takeFigures 81 = .ok (.iconst 1, 1) := by decide +kernel
theorem dX7_takeFigures_82 : decode cX7_takeFigures 82 = .ok (.if_icmp .ne 22, 3) := by decide +kernel
theorem dX7_takeFigures_85 : decode cX7_takeFigures 85 = .ok (.aload_n 0, 1) := by decide +kernel
theorem dX7_takeFigures_86 : decode cX7_takeFigures 86 = .ok (.getfield 12, 3) := by decide +kernel
theorem dX7_takeFigures_89 : decode cX7_takeFigures 89 = .ok (.getfield 80, 3) := by decide +kernel
theorem dX7_takeFigures_92 : decode cX7_takeFigures 92 = .ok (.aload_n 0, 1) := by decide +kernel
theorem dX7_takeFigures_93 : decode cX7_takeFigures 93 = .ok (.getfield 12, 3) := by decide +kernel
theorem dX7_takeFigures_96 : decode cX7_takeFigures 96 = .ok (.getfield 26, 3) := by decide +kernel
theorem dX7_takeFigures_99 : decode cX7_takeFigures 99 = .ok (.iload_n 3, 1) := by decide +kernel
theorem dX7_takeFigures_100 : decode cX7_takeFigures 100 = .ok (.iastore, 1) := by decide +kernel
theorem dX7_takeFigures_101 : decode cX7_takeFigures 101 = .ok (.goto 19, 3) := by decide +kernel
theorem dX7_takeFigures_104 : decode cX7_takeFigures 104 = .ok (.aload_n 0, 1) := by decide +kernel
theorem dX7_takeFigures_105 : decode cX7_takeFigures 105 = .ok (.getfield 12, 3) := by decide +kernel
theorem dX7_takeFigures_108 : decode cX7_takeFigures 108 = .ok (.getfield 83, 3) := by decide +kernel
theorem dX7_takeFigures_111 : decode cX7_takeFigures 111 = .ok (.aload_n 0, 1) := by decide +kernel
theorem dX7_takeFigures_112 : decode cX7_takeFigures 112 = .ok (.getfield 12, 3) := by decide +kernel
theorem dX7_takeFigures_115 : decode cX7_takeFigures 115 = .ok (.getfield 26, 3) := by decide +kernel
theorem dX7_takeFigures_118 : decode cX7_takeFigures 118 = .ok (.iload_n 3, 1) := by decide +kernel
theorem dX7_takeFigures_119 : decode cX7_takeFigures 119 = .ok (.iastore, 1) := by decide +kernel
theorem dX7_takeFigures_120 : decode cX7_takeFigures 120 = .ok (.return_, 1) := by decide +kernel
theorem dX7_sortOf_0 : decode cX7_sortOf 0 = .ok (.iload_n 0, 1) := by decide +kernel
theorem dX7_sortOf_1 : decode cX7_sortOf 1 = .ok (.lookupswitch 51 #[(66, 43), (67, 49), (82, 47), (83, 45)], 43) := by decide +kernel
theorem dX7_sortOf_44 : decode cX7_sortOf 44 = .ok (.iconst 0, 1) := by decide +kernel
theorem dX7_sortOf_45 : decode cX7_sortOf 45 = .ok (.ireturn, 1) := by decide +kernel
theorem dX7_sortOf_46 : decode cX7_sortOf 46 = .ok (.iconst 1, 1) := by decide +kernel
theorem dX7_sortOf_47 : decode cX7_sortOf 47 = .ok (.ireturn, 1) := by decide +kernel
theorem dX7_sortOf_48 : decode cX7_sortOf 48 = .ok (.iconst 2, 1) := by decide +kernel
theorem dX7_sortOf_49 : decode cX7_sortOf 49 = .ok (.ireturn, 1) := by decide +kernel
theorem dX7_sortOf_50 : decode cX7_sortOf 50 = .ok (.iconst 3, 1) := by decide +kernel
theorem dX7_sortOf_51 : decode cX7_sortOf 51 = .ok (.ireturn, 1) := by decide +kernel
theorem dX7_sortOf_52 : decode cX7_sortOf 52 = .ok (.bipush (-9), 2) := by decide +kernel
theorem dX7_sortOf_54 : decode cX7_sortOf 54 = .ok (.ireturn, 1) := by decide +kernel
theorem dX7_markOf_0 : decode cX7_markOf 0 = .ok (.iload_n 0, 1) := by decide +kernel
theorem dX7_markOf_1 : decode cX7_markOf 1 = .ok (.lookupswitch 41 #[(43, 35), (45, 37), (61, 39)], 35) := by decide +kernel
theorem dX7_markOf_36 : decode cX7_markOf 36 = .ok (.iconst 0, 1) := by decide +kernel
theorem dX7_markOf_37 : decode cX7_markOf 37 = .ok (.ireturn, 1) := by decide +kernel
theorem dX7_markOf_38 : decode cX7_markOf 38 = .ok (.iconst 1, 1) := by decide +kernel
theorem dX7_markOf_39 : decode cX7_markOf 39 = .ok (.ireturn, 1) := by decide +kernel
theorem dX7_markOf_40 : decode cX7_markOf 40 = .ok (.iconst 2, 1) := by decide +kernel
theorem dX7_markOf_41 : decode cX7_markOf 41 = .ok (.ireturn, 1) := by decide +kernel
theorem dX7_markOf_42 : decode cX7_markOf 42 = .ok (.bipush (-9), 2) := by decide +kernel
theorem dX7_markOf_44 : decode cX7_markOf 44 = .ok (.ireturn, 1) := by decide +kernel
theorem dX8_init_0 : decode cX8_init 0 = .ok (.aload_n 0, 1) := by decide +kernel
theorem dX8_init_1 : decode cX8_init 1 = .ok (.invokespecial 3, 3) := by decide +kernel
theorem dX8_init_4 : decode cX8_init 4 = .ok (.aload_n 0, 1) := by decide +kernel
theorem dX8_init_5 : decode cX8_init 5 = .ok (.iconst 0, 1) := by decide +kernel
theorem dX8_init_6 : decode cX8_init 6 = .ok (.putfield 9, 3) := by decide +kernel
theorem dX8_init_9 : decode cX8_init 9 = .ok (.aload_n 0, 1) := by decide +kernel
theorem dX8_init_10 : decode cX8_init 10 = .ok (.iconst 0, 1) := by decide +kernel
theorem dX8_init_11 : decode cX8_init 11 = .ok (.putfield 15, 3) := by decide +kernel
theorem dX8_init_14 : decode cX8_init 14 = .ok (.aload_n 0, 1) := by decide +kernel
theorem dX8_init_15 : decode cX8_init 15 = .ok (.iconst 1, 1) := by decide +kernel
theorem dX8_init_16 : decode cX8_init 16 = .ok (.putfield 18, 3) := by decide +kernel
theorem dX8_init_19 : decode cX8_init 19 = .ok (.aload_n 0, 1) := by decide +kernel
theorem dX8_init_20 : decode cX8_init 20 = .ok (.iconst 3, 1) := by decide +kernel
theorem dX8_init_21 : decode cX8_init 21 = .ok (.putfield 21, 3) := by decide +kernel
theorem dX8_init_24 : decode cX8_init 24 = .ok (.aload_n 0, 1) := by decide +kernel
theorem dX8_init_25 : decode cX8_init 25 = .ok (.bipush 20, 2) := by decide +kernel
theorem dX8_init_27 : decode cX8_init 27 = .ok (.putfield 24, 3) := by decide +kernel
theorem dX8_init_30 : decode cX8_init 30 = .ok (.aload_n 0, 1) := by decide +kernel
theorem dX8_init_31 : decode cX8_init 31 = .ok (.iconst 0, 1) := by decide +kernel
theorem dX8_init_32 : decode cX8_init 32 = .ok (.putfield 27, 3) := by decide +kernel
theorem dX8_init_35 : decode cX8_init 35 = .ok (.aload_n 0, 1) := by decide +kernel
theorem dX8_init_36 : decode cX8_init 36 = .ok (.iconst 0, 1) := by decide +kernel
theorem dX8_init_37 : decode cX8_init 37 = .ok (.putfield 30, 3) := by decide +kernel
theorem dX8_init_40 : decode cX8_init 40 = .ok (.aload_n 0, 1) := by decide +kernel
theorem dX8_init_41 : decode cX8_init 41 = .ok (.bipush 6, 2) := by decide +kernel
theorem dX8_init_43 : decode cX8_init 43 = .ok (.newarray .int, 2) := by decide +kernel
theorem dX8_init_45 : decode cX8_init 45 = .ok (.dup, 1) := by decide +kernel
theorem dX8_init_46 : decode cX8_init 46 = .ok (.iconst 0, 1) := by decide +kernel
theorem dX8_init_47 : decode cX8_init 47 = .ok (.bipush (-9), 2) := by decide +kernel
theorem dX8_init_49 : decode cX8_init 49 = .ok (.iastore, 1) := by decide +kernel
theorem dX8_init_50 : decode cX8_init 50 = .ok (.dup, 1) := by decide +kernel
theorem dX8_init_51 : decode cX8_init 51 = .ok (.iconst 1, 1) := by decide +kernel
theorem dX8_init_52 : decode cX8_init 52 = .ok (.bipush (-9), 2) := by decide +kernel
theorem dX8_init_54 : decode cX8_init 54 = .ok (.iastore, 1) := by decide +kernel
theorem dX8_init_55 : decode cX8_init 55 = .ok (.dup, 1) := by decide +kernel
theorem dX8_init_56 : decode cX8_init 56 = .ok (.iconst 2, 1) := by decide +kernel
theorem dX8_init_57 : decode cX8_init 57 = .ok (.bipush (-9), 2) := by decide +kernel
theorem dX8_init_59 : decode cX8_init 59 = .ok (.iastore, 1) := by decide +kernel
theorem dX8_init_60 : decode cX8_init 60 = .ok (.dup, 1) := by decide +kernel
theorem dX8_init_61 : decode cX8_init 61 = .ok (.iconst 3, 1) := by decide +kernel
theorem dX8_init_62 : decode cX8_init 62 = .ok (.bipush (-9), 2) := by decide +kernel
theorem dX8_init_64 : decode cX8_init 64 = .ok (.iastore, 1) := by decide +kernel
theorem dX8_init_65 : decode cX8_init 65 = .ok (.dup, 1) := by decide +kernel
theorem dX8_init_66 : decode cX8_init 66 = .ok (.iconst 4, 1) := by decide +kernel
theorem dX8_init_67 : decode cX8_init 67 = .ok (.bipush (-9), 2) := by decide +kernel
theorem dX8_init_69 : decode cX8_init 69 = .ok (.iastore, 1) := by decide +kernel
theorem dX8_init_70 : decode cX8_init 70 = .ok (.dup, 1) := by decide +kernel
theorem dX8_init_71 : decode cX8_init 71 = .ok (.iconst 5, 1) := by decide +kernel
theorem dX8_init_72 : decode cX8_init 72 = .ok (.bipush (-9), 2) := by decide +kernel
theorem dX8_init_74 : decode cX8_init 74 = .ok (.iastore, 1) := by decide +kernel
theorem dX8_init_75 : decode cX8_init 75 = .ok (.putfield 33, 3) := by decide +kernel
theorem dX8_init_78 : decode cX8_init 78 = .ok (.return_, 1) := by decide +kernel
theorem dX9_init_0 : decode cX9_init 0 = .ok (.aload_n 0, 1) := by decide +kernel
theorem dX9_init_1 : decode cX9_init 1 = .ok (.invokespecial 3, 3) := by decide +kernel
theorem dX9_init_4 : decode cX9_init 4 = .ok (.aload_n 0, 1) := by decide +kernel
theorem dX9_init_5 : decode cX9_init 5 = .ok (.iconst 0, 1) := by decide +kernel
theorem dX9_init_6 : decode cX9_init 6 = .ok (.putfield 9, 3) := by decide +kernel
theorem dX9_init_9 : decode cX9_init 9 = .ok (.aload_n 0, 1) := by decide +kernel
theorem dX9_init_10 : decode cX9_init 10 = .ok (.iconst 0, 1) := by decide +kernel
theorem dX9_init_11 : decode cX9_init 11 = .ok (.putfield 15, 3) := by decide +kernel
theorem dX9_init_14 : decode cX9_init 14 = .ok (.aload_n 0, 1) := by decide +kernel
theorem dX9_init_15 : decode cX9_init 15 = .ok (.bipush 12, 2) := by decide +kernel
theorem dX9_init_17 : decode cX9_init 17 = .ok (.newarray .int, 2) := by decide +kernel
theorem dX9_init_19 : decode cX9_init 19 = .ok (.putfield 19, 3) := by decide +kernel
theorem dX9_init_22 : decode cX9_init 22 = .ok (.aload_n 0, 1) := by decide +kernel
theorem dX9_init_23 : decode cX9_init 23 = .ok (.bipush 12, 2) := by decide +kernel
theorem dX9_init_25 : decode cX9_init 25 = .ok (.newarray .int, 2) := by decide +kernel
theorem dX9_init_27 : decode cX9_init 27 = .ok (.putfield 23, 3) := by decide +kernel
theorem dX9_init_30 : decode cX9_init 30 = .ok (.aload_n 0, 1) := by decide +kernel
theorem dX9_init_31 : decode cX9_init 31 = .ok (.bipush 12, 2) := by decide +kernel
theorem dX9_init_33 : decode cX9_init 33 = .ok (.newarray .int, 2) := by decide +kernel
theorem dX9_init_35 : decode cX9_init 35 = .ok (.putfield 26, 3) := by decide +kernel
theorem dX9_init_38 : decode cX9_init 38 = .ok (.aload_n 0, 1) := by decide +kernel
theorem dX9_init_39 : decode cX9_init 39 = .ok (.bipush 12, 2) := by decide +kernel
theorem dX9_init_41 : decode cX9_init 41 = .ok (.newarray .int, 2) := by decide +kernel
theorem dX9_init_43 : decode cX9_init 43 = .ok (.putfield 29, 3) := by decide +kernel
theorem dX9_init_46 : decode cX9_init 46 = .ok (.aload_n 0, 1) := by decide +kernel
theorem dX9_init_47 : decode cX9_init 47 = .ok (.bipush 12, 2) := by decide +kernel
theorem dX9_init_49 : decode cX9_init 49 = .ok (.newarray .int, 2) := by decide +kernel
theorem dX9_init_51 : decode cX9_init 51 = .ok (.putfield 32, 3) := by decide +kernel
theorem dX9_init_54 : decode cX9_init 54 = .ok (.aload_n 0, 1) := by decide +kernel
theorem dX9_init_55 : decode cX9_init 55 = .ok (.bipush 12, 2) := by decide +kernel
theorem dX9_init_57 : decode cX9_init 57 = .ok (.newarray .int, 2) := by decide +kernel
theorem dX9_init_59 : decode cX9_init 59 = .ok (.putfield 35, 3) := by decide +kernel
theorem dX9_init_62 : decode cX9_init 62 = .ok (.aload_n 0, 1) := by decide +kernel
theorem dX9_init_63 : decode cX9_init 63 = .ok (.sipush 160, 3) := by decide +kernel
theorem dX9_init_66 : decode cX9_init 66 = .ok (.newarray .int, 2) := by decide +kernel
theorem dX9_init_68 : decode cX9_init 68 = .ok (.putfield 38, 3) := by decide +kernel
theorem dX9_init_71 : decode cX9_init 71 = .ok (.return_, 1) := by decide +kernel
theorem dX9_become_0 : decode cX9_become 0 = .ok (.aload_n 0, 1) := by decide +kernel
theorem dX9_become_1 : decode cX9_become 1 = .ok (.iconst 1, 1) := by decide +kernel
theorem dX9_become_2 : decode cX9_become 2 = .ok (.putfield 9, 3) := by decide +kernel
theorem dX9_become_5 : decode cX9_become 5 = .ok (.aload_n 0, 1) := by decide +kernel
theorem dX9_become_6 : decode cX9_become 6 = .ok (.aload_n 1, 1) := by decide +kernel
theorem dX9_become_7 : decode cX9_become 7 = .ok (.getfield 15, 3) := by decide +kernel
theorem dX9_become_10 : decode cX9_become 10 = .ok (.putfield 15, 3) := by decide +kernel
theorem dX9_become_13 : decode cX9_become 13 = .ok (.aload_n 1, 1) := by decide +kernel
theorem dX9_become_14 : decode cX9_become 14 = .ok (.getfield 19, 3) := by decide +kernel
theorem dX9_become_17 : decode cX9_become 17 = .ok (.iconst 0, 1) := by decide +kernel
theorem dX9_become_18 : decode cX9_become 18 = .ok (.aload_n 0, 1) := by decide +kernel
theorem dX9_become_19 : decode cX9_become 19 = .ok (.getfield 19, 3) := by decide +kernel
theorem dX9_become_22 : decode cX9_become 22 = .ok (.iconst 0, 1) := by decide +kernel
theorem dX9_become_23 : decode cX9_become 23 = .ok (.bipush 12, 2) := by decide +kernel
theorem dX9_become_25 : decode cX9_become 25 = .ok (.invokestatic 41, 3) := by decide +kernel
theorem dX9_become_28 : decode cX9_become 28 = .ok (.aload_n 1, 1) := by decide +kernel
theorem dX9_become_29 : decode cX9_become 29 = .ok (.getfield 23, 3) := by decide +kernel
theorem dX9_become_32 : decode cX9_become 32 = .ok (.iconst 0, 1) := by decide +kernel
theorem dX9_become_33 : decode cX9_become 33 = .ok (.aload_n 0, 1) := by decide +kernel
theorem dX9_become_34 : decode cX9_become 34 = .ok (.getfield 23, 3) := by decide +kernel
theorem dX9_become_37 : decode cX9_become 37 = .ok (.iconst 0, 1) := by decide +kernel
theorem dX9_become_38 : decode cX9_become 38 = .ok (.bipush 12, 2) := by decide +kernel
theorem dX9_become_40 : decode cX9_become 40 = .ok (.invokestatic 41, 3) := by decide +kernel
theorem dX9_become_43 : decode cX9_become 43 = .ok (.aload_n 1, 1) := by decide +kernel
theorem dX9_become_44 : decode cX9_become 44 = .ok (.getfield 26, 3) := by decide +kernel
theorem dX9_become_47 : decode cX9_become 47 = .ok (.iconst 0, 1) := by decide +kernel
theorem dX9_become_48 : decode cX9_become 48 = .ok (.aload_n 0, 1) := by decide +kernel
theorem dX9_become_49 : decode cX9_become 49 = .ok (.getfield 26, 3) := by decide +kernel
theorem dX9_become_52 : decode cX9_become 52 = .ok (.iconst 0, 1) := by decide +kernel
theorem dX9_become_53 : decode cX9_become 53 = .ok (.bipush 12, 2) := by decide +kernel
theorem dX9_become_55 : decode cX9_become 55 = .ok (.invokestatic 41, 3) := by decide +kernel
theorem dX9_become_58 : decode cX9_become 58 = .ok (.aload_n 1, 1) := by decide +kernel
theorem dX9_become_59 : decode cX9_become 59 = .ok (.getfield 29, 3) := by decide +kernel
theorem dX9_become_62 : decode cX9_become 62 = .ok (.iconst 0, 1) := by decide +kernel
theorem dX9_become_63 : decode cX9_become 63 = .ok (.aload_n 0, 1) := by decide +kernel
theorem dX9_become_64 : decode cX9_become 64 = .ok (.getfield 29, 3) := by decide +kernel
theorem dX9_become_67 : decode cX9_become 67 = .ok (.iconst 0, 1) := by decide +kernel
theorem dX9_become_68 : decode cX9_become 68 = .ok (.bipush 12, 2) := by decide +kernel
theorem dX9_become_70 : decode cX9_become 70 = .ok (.invokestatic 41, 3) := by decide +kernel
theorem dX9_become_73 : decode cX9_become 73 = .ok (.aload_n 1, 1) := by decide +kernel
theorem dX9_become_74 : decode cX9_become 74 = .ok (.getfield 32, 3) := by decide +kernel
theorem dX9_become_77 : decode cX9_become 77 = .ok (.iconst 0, 1) := by decide +kernel
theorem dX9_become_78 : decode cX9_become 78 = .ok (.aload_n 0, 1) := by decide +kernel
theorem dX9_become_79 : decode cX9_become 79 = .ok (.getfield 32, 3) := by decide +kernel
theorem dX9_become_82 : decode cX9_become 82 = .ok (.iconst 0, 1) := by decide +kernel
theorem dX9_become_83 : decode cX9_become 83 = .ok (.bipush 12, 2) := by decide +kernel
theorem dX9_become_85 : decode cX9_become 85 = .ok (.invokestatic 41, 3) := by decide +kernel
theorem dX9_become_88 : decode cX9_become 88 = .ok (.aload_n 1, 1) := by decide +kernel
theorem dX9_become_89 : decode cX9_become 89 = .ok (.getfield 35, 3) := by decide +kernel
theorem dX9_become_92 : decode cX9_become 92 = .ok (.iconst 0, 1) := by decide +kernel
theorem dX9_become_93 : decode cX9_become 93 = .ok (.aload_n 0, 1) := by decide +kernel
theorem dX9_become_94 : decode cX9_become 94 = .ok (.getfield 35, 3) := by decide +kernel
theorem dX9_become_97 : decode cX9_become 97 = .ok (.iconst 0, 1) := by decide +kernel
theorem dX9_become_98 : decode cX9_become 98 = .ok (.bipush 12, 2) := by decide +kernel
theorem dX9_become_100 : decode cX9_become 100 = .ok (.invokestatic 41, 3) := by decide +kernel
theorem dX9_become_103 : decode cX9_become 103 = .ok (.aload_n 0, 1) := by decide +kernel
theorem dX9_become_104 : decode cX9_become 104 = .ok (.invokevirtual 47, 3) := by decide +kernel
theorem dX9_become_107 : decode cX9_become 107 = .ok (.return_, 1) := by decide +kernel
theorem dX9_indexNames_0 : decode cX9_indexNames 0 = .ok (.iconst 0, 1) := by decide +kernel
theorem dX9_indexNames_1 : decode cX9_indexNames 1 = .ok (.istore_n 1, 1) := by decide +kernel
theorem dX9_indexNames_2 : decode cX9_indexNames 2 = .ok (.iload_n 1, 1) := by decide +kernel
theorem dX9_indexNames_3 : decode cX9_indexNames 3 = .ok (.sipush 160, 3) := by decide +kernel
theorem dX9_indexNames_6 : decode cX9_indexNames 6 = .ok (.if_icmp .ge 17, 3) := by decide +kernel
theorem dX9_indexNames_9 : decode cX9_indexNames 9 = .ok (.aload_n 0, 1) := by decide +kernel
theorem dX9_indexNames_10 : decode cX9_indexNames 10 = .ok (.getfield 38, 3) := by decide +kernel
theorem dX9_indexNames_13 : decode cX9_indexNames 13 = .ok (.iload_n 1, 1) := by decide +kernel
theorem dX9_indexNames_14 : decode cX9_indexNames 14 = .ok (.bipush (-9), 2) := by decide +kernel
theorem dX9_indexNames_16 : decode cX9_indexNames 16 = .ok (.iastore, 1) := by decide +kernel
theorem dX9_indexNames_17 : decode cX9_indexNames 17 = .ok (.iinc 1 1, 3) := by decide +kernel
theorem dX9_indexNames_20 : decode cX9_indexNames 20 = .ok (.goto (-18), 3) := by decide +kernel
theorem dX9_indexNames_23 : decode cX9_indexNames 23 = .ok (.iconst 0, 1) := by decide +kernel
theorem dX9_indexNames_24 : decode cX9_indexNames 24 = .ok (.istore_n 1, 1) := by decide +kernel
theorem dX9_indexNames_25 : decode cX9_indexNames 25 = .ok (.iload_n 1, 1) := by decide +kernel
theorem dX9_indexNames_26 : decode cX9_indexNames 26 = .ok (.aload_n 0, 1) := by decide +kernel
theorem dX9_indexNames_27 : decode cX9_indexNames 27 = .ok (.getfield 15, 3) := by decide +kernel
theorem dX9_indexNames_30 : decode cX9_indexNames 30 = .ok (.if_icmp .ge 49, 3) := by decide +kernel
theorem dX9_indexNames_33 : decode cX9_indexNames 33 = .ok (.aload_n 0, 1) := by decide +kernel
theorem dX9_indexNames_34 : decode cX9_indexNames 34 = .ok (.getfield 29, 3) := by decide +kernel
theorem dX9_indexNames_37 : decode cX9_indexNames 37 = .ok (.iload_n 1, 1) := by decide +kernel
theorem dX9_indexNames_38 : decode cX9_indexNames 38 = .ok (.iaload, 1) := by decide +kernel
theorem dX9_indexNames_39 : decode cX9_indexNames 39 = .ok (.istore_n 2, 1) := by decide +kernel
theorem dX9_indexNames_40 : decode cX9_indexNames 40 = .ok (.iload_n 2, 1) := by decide +kernel
theorem dX9_indexNames_41 : decode cX9_indexNames 41 = .ok (.aload_n 0, 1) := by decide +kernel
theorem dX9_indexNames_42 : decode cX9_indexNames 42 = .ok (.getfield 32, 3) := by decide +kernel
theorem dX9_indexNames_45 : decode cX9_indexNames 45 = .ok (.iload_n 1, 1) := by decide +kernel
theorem dX9_indexNames_46 : decode cX9_indexNames 46 = .ok (.iaload, 1) := by decide +kernel
theorem dX9_indexNames_47 : decode cX9_indexNames 47 = .ok (.if_icmp .gt 26, 3) := by decide +kernel
theorem dX9_indexNames_50 : decode cX9_indexNames 50 = .ok (.aload_n 0, 1) := by decide +kernel
theorem dX9_indexNames_51 : decode cX9_indexNames 51 = .ok (.getfield 38, 3) := by decide +kernel
theorem dX9_indexNames_54 : decode cX9_indexNames 54 = .ok (.iload_n 2, 1) := by decide +kernel
theorem dX9_indexNames_55 : decode cX9_indexNames 55 = .ok (.bipush 16, 2) := by decide +kernel
theorem dX9_indexNames_57 : decode cX9_indexNames 57 = .ok (.imul, 1) := by decide +kernel
theorem dX9_indexNames_58 : decode cX9_indexNames 58 = .ok (.aload_n 0, 1) := by decide +kernel
theorem dX9_indexNames_59 : decode cX9_indexNames 59 = .ok (.getfield 19, 3) := by decide +kernel
theorem dX9_indexNames_62 : decode cX9_indexNames 62 = .ok (.iload_n 1, 1) := by decide +kernel
theorem dX9_indexNames_63 : decode cX9_indexNames 63 = .ok (.iaload, 1) := by decide +kernel
theorem dX9_indexNames_64 : decode cX9_indexNames 64 = .ok (.iadd, 1) := by decide +kernel
theorem dX9_indexNames_65 : decode cX9_indexNames 65 = .ok (.iload_n 1, 1) := by decide +kernel
theorem dX9_indexNames_66 : decode cX9_indexNames 66 = .ok (.iastore, 1) := by decide +kernel
theorem dX9_indexNames_67 : decode cX9_indexNames 67 = .ok (.iinc 2 1, 3) := by decide +kernel
theorem dX9_indexNames_70 : decode cX9_indexNames 70 = .ok (.goto (-30), 3) := by decide +kernel
theorem dX9_indexNames_73 : decode cX9_indexNames 73 = .ok (.iinc 1 1, 3) := by decide +kernel
theorem dX9_indexNames_76 : decode cX9_indexNames 76 = .ok (.goto (-51), 3) := by decide +kernel
theorem dX9_indexNames_79 : decode cX9_indexNames 79 = .ok (.return_, 1) := by decide +kernel
theorem dX9_begin_0 : decode cX9_begin 0 = .ok (.aload_n 0, 1) := by decide +kernel
theorem dX9_begin_1 : decode cX9_begin 1 = .ok (.getfield 19, 3) := by decide +kernel
theorem dX9_begin_4 : decode cX9_begin 4 = .ok (.aload_n 0, 1) := by decide +kernel
theorem dX9_begin_5 : decode cX9_begin 5 = .ok (.getfield 15, 3) := by decide +kernel
theorem dX9_begin_8 : decode cX9_begin 8 = .ok (.iload_n 1, 1) := by decide +kernel
theorem dX9_begin_9 : decode cX9_begin 9 = .ok (.iastore, 1) := by decide +kernel
theorem dX9_begin_10 : decode cX9_begin 10 = .ok (.aload_n 0, 1) := by decide +kernel
theorem dX9_begin_11 : decode cX9_begin 11 = .ok (.getfield 23, 3) := by decide +kernel
theorem dX9_begin_14 : decode cX9_begin 14 = .ok (.aload_n 0, 1) := by decide +kernel
theorem dX9_begin_15 : decode cX9_begin 15 = .ok (.getfield 15, 3) := by decide +kernel
theorem dX9_begin_18 : decode cX9_begin 18 = .ok (.iload_n 2, 1) := by decide +kernel
theorem dX9_begin_19 : decode cX9_begin 19 = .ok (.iastore, 1) := by decide +kernel
theorem dX9_begin_20 : decode cX9_begin 20 = .ok (.aload_n 0, 1) := by decide +kernel
theorem dX9_begin_21 : decode cX9_begin 21 = .ok (.getfield 26, 3) := by decide +kernel
theorem dX9_begin_24 : decode cX9_begin 24 = .ok (.aload_n 0, 1) := by decide +kernel
theorem dX9_begin_25 : decode cX9_begin 25 = .ok (.getfield 15, 3) := by decide +kernel
theorem dX9_begin_28 : decode cX9_begin 28 = .ok (.iload_n 3, 1) := by decide +kernel
theorem dX9_begin_29 : decode cX9_begin 29 = .ok (.iastore, 1) := by decide +kernel
theorem dX9_begin_30 : decode cX9_begin 30 = .ok (.aload_n 0, 1) := by decide +kernel
theorem dX9_begin_31 : decode cX9_begin 31 = .ok (.getfield 29, 3) := by decide +kernel
theorem dX9_begin_34 : decode cX9_begin 34 = .ok (.aload_n 0, 1) := by decide +kernel
theorem dX9_begin_35 : decode cX9_begin 35 = .ok (.getfield 15, 3) := by decide +kernel
theorem dX9_begin_38 : decode cX9_begin 38 = .ok (.iconst 0, 1) := by decide +kernel
theorem dX9_begin_39 : decode cX9_begin 39 = .ok (.iastore, 1) := by decide +kernel
theorem dX9_begin_40 : decode cX9_begin 40 = .ok (.aload_n 0, 1) := by decide +kernel
theorem dX9_begin_41 : decode cX9_begin 41 = .ok (.getfield 32, 3) := by decide +kernel
theorem dX9_begin_44 : decode cX9_begin 44 = .ok (.aload_n 0, 1) := by decide +kernel
theorem dX9_begin_45 : decode cX9_begin 45 = .ok (.getfield 15, 3) := by decide +kernel
theorem dX9_begin_48 : decode cX9_begin 48 = .ok (.bipush 9, 2) := by decide +kernel
theorem dX9_begin_50 : decode cX9_begin 50 = .ok (.iastore, 1) := by decide +kernel
theorem dX9_begin_51 : decode cX9_begin 51 = .ok (.aload_n 0, 1) := by decide +kernel
theorem dX9_begin_52 : decode cX9_begin 52 = .ok (.getfield 35, 3) := by decide +kernel
theorem dX9_begin_55 : decode cX9_begin 55 = .ok (.aload_n 0, 1) := by decide +kernel
theorem dX9_begin_56 : decode cX9_begin 56 = .ok (.getfield 15, 3) := by decide +kernel
theorem dX9_begin_59 : decode cX9_begin 59 = .ok (.bipush (-9), 2) := by decide +kernel
theorem dX9_begin_61 : decode cX9_begin 61 = .ok (.iastore, 1) := by decide +kernel
theorem dX9_begin_62 : decode cX9_begin 62 = .ok (.return_, 1) := by decide +kernel
theorem dX9_lastStands_0 : decode cX9_lastStands 0 = .ok (.aload_n 0, 1) := by decide +kernel
theorem dX9_lastStands_1 : decode cX9_lastStands 1 = .ok (.getfield 15, 3) := by decide +kernel
theorem dX9_lastStands_4 : decode cX9_lastStands 4 = .ok (.istore_n 1, 1) := by decide +kernel
theorem dX9_lastStands_5 : decode cX9_lastStands 5 = .ok (.aload_n 0, 1) := by decide +kernel
theorem dX9_lastStands_6 : decode cX9_lastStands 6 = .ok (.getfield 29, 3) := by decide +kernel
theorem dX9_lastStands_9 : decode cX9_lastStands 9 = .ok (.iload_n 1, 1) := by decide +kernel
theorem dX9_lastStands_10 : decode cX9_lastStands 10 = .ok (.iaload, 1) := by decide +kernel
theorem dX9_lastStands_11 : decode cX9_lastStands 11 = .ok (.aload_n 0, 1) := by decide +kernel
theorem dX9_lastStands_12 : decode cX9_lastStands 12 = .ok (.getfield 32, 3) := by decide +kernel
theorem dX9_lastStands_15 : decode cX9_lastStands 15 = .ok (.iload_n 1, 1) := by decide +kernel
theorem dX9_lastStands_16 : decode cX9_lastStands 16 = .ok (.iaload, 1) := by decide +kernel
theorem dX9_lastStands_17 : decode cX9_lastStands 17 = .ok (.if_icmp .le 5, 3) := by decide +kernel
theorem dX9_lastStands_20 : decode cX9_lastStands 20 = .ok (.iconst 0, 1) := by decide +kernel
theorem dX9_lastStands_21 : decode cX9_lastStands 21 = .ok (.ireturn, 1) := by decide +kernel
theorem dX9_lastStands_22 : decode cX9_lastStands 22 = .ok (.aload_n 0, 1) := by decide +kernel
theorem dX9_lastStands_23 : decode cX9_lastStands 23 = .ok (.getfield 23, 3) := by decide +kernel
theorem dX9_lastStands_26 : decode cX9_lastStands 26 = .ok (.iload_n 1, 1) := by decide +kernel
theorem dX9_lastStands_27 : decode cX9_lastStands 27 = .ok (.iaload, 1) := by decide +kernel
theorem dX9_lastStands_28 : decode cX9_lastStands 28 = .ok (.ifCond .ne 15, 3) := by decide +kernel
theorem dX9_lastStands_31 : decode cX9_lastStands 31 = .ok (.aload_n 0, 1) := by decide +kernel
theorem dX9_lastStands_32 : decode cX9_lastStands 32 = .ok (.getfield 35, 3) := by decide +kernel
theorem dX9_lastStands_35 : decode cX9_lastStands 35 = .ok (.iload_n 1, 1) := by decide +kernel
theorem dX9_lastStands_36 : decode cX9_lastStands 36 = .ok (.iaload, 1) := by decide +kernel
theorem dX9_lastStands_37 : decode cX9_lastStands 37 = .ok (.sipush 255, 3) := by decide +kernel
theorem dX9_lastStands_40 : decode cX9_lastStands 40 = .ok (.if_icmp .gt 28, 3) := by decide +kernel
theorem dX9_lastStands_43 : decode cX9_lastStands 43 = .ok (.aload_n 0, 1) := by decide +kernel
theorem dX9_lastStands_44 : decode cX9_lastStands 44 = .ok (.getfield 23, 3) := by decide +kernel
theorem dX9_lastStands_47 : decode cX9_lastStands 47 = .ok (.iload_n 1, 1) := by decide +kernel
theorem dX9_lastStands_48 : decode cX9_lastStands 48 = .ok (.iaload, 1) := by decide +kernel
theorem dX9_lastStands_49 : decode cX9_lastStands 49 = .ok (.iconst 3, 1) := by decide +kernel
theorem dX9_lastStands_50 : decode cX9_lastStands 50 = .ok (.if_icmp .ne 20, 3) := by decide +kernel
theorem dX9_lastStands_53 : decode cX9_lastStands 53 = .ok (.aload_n 0, 1) := by decide +kernel
theorem dX9_lastStands_54 : decode cX9_lastStands 54 = .ok (.getfield 35, 3) := by decide +kernel
theorem dX9_lastStands_57 : decode cX9_lastStands 57 = .ok (.iload_n 1, 1) := by decide +kernel
theorem dX9_lastStands_58 : decode cX9_lastStands 58 = .ok (.iaload, 1) := by decide +kernel
theorem dX9_lastStands_59 : decode cX9_lastStands 59 = .ok (.aload_n 0, 1) := by decide +kernel
theorem dX9_lastStands_60 : decode cX9_lastStands 60 = .ok (.getfield 26, 3) := by decide +kernel
theorem dX9_lastStands_63 : decode cX9_lastStands 63 = .ok (.iload_n 1, 1) := by decide +kernel
theorem dX9_lastStands_64 : decode cX9_lastStands 64 = .ok (.iaload, 1) := by decide +kernel
theorem dX9_lastStands_65 : decode cX9_lastStands 65 = .ok (.if_icmp .lt 5, 3) := by decide +kernel
theorem dX9_lastStands_68 : decode cX9_lastStands 68 = .ok (.iconst 0, 1) := by decide +kernel
theorem dX9_lastStands_69 : decode cX9_lastStands 69 = .ok (.ireturn, 1) := by decide +kernel
theorem dX9_lastStands_70 : decode cX9_lastStands 70 = .ok (.iconst 0, 1) := by decide +kernel
theorem dX9_lastStands_71 : decode cX9_lastStands 71 = .ok (.istore_n 2, 1) := by decide +kernel
theorem dX9_lastStands_72 : decode cX9_lastStands 72 = .ok (.iload_n 2, 1) := by decide +kernel
theorem dX9_lastStands_73 : decode cX9_lastStands 73 = .ok (.aload_n 0, 1) := by decide +kernel
theorem dX9_lastStands_74 : decode cX9_lastStands 74 = .ok (.getfield 15, 3) := by decide +kernel
theorem dX9_lastStands_77 : decode cX9_lastStands 77 = .ok (.if_icmp .ge 56, 3) := by decide +kernel
theorem dX9_lastStands_80 : decode cX9_lastStands 80 = .ok (.aload_n 0, 1) := by decide +kernel
theorem dX9_lastStands_81 : decode cX9_lastStands 81 = .ok (.getfield 19, 3) := by decide +kernel
theorem dX9_lastStands_84 : decode cX9_lastStands 84 = .ok (.iload_n 2, 1) := by decide +kernel
theorem dX9_lastStands_85 : decode cX9_lastStands 85 = .ok (.iaload, 1) := by decide +kernel
theorem dX9_lastStands_86 : decode cX9_lastStands 86 = .ok (.aload_n 0, 1) := by decide +kernel
theorem dX9_lastStands_87 : decode cX9_lastStands 87 = .ok (.getfield 19, 3) := by decide +kernel
theorem dX9_lastStands_90 : decode cX9_lastStands 90 = .ok (.iload_n 1, 1) := by decide +kernel
theorem dX9_lastStands_91 : decode cX9_lastStands 91 = .ok (.iaload, 1) := by decide +kernel
theorem dX9_lastStands_92 : decode cX9_lastStands 92 = .ok (.if_icmp .ne 35, 3) := by decide +kernel
theorem dX9_lastStands_95 : decode cX9_lastStands 95 = .ok (.aload_n 0, 1) := by decide +kernel
theorem dX9_lastStands_96 : decode cX9_lastStands 96 = .ok (.getfield 29, 3) := by decide +kernel
theorem dX9_lastStands_99 : decode cX9_lastStands 99 = .ok (.iload_n 2, 1) := by decide +kernel
theorem dX9_lastStands_100 : decode cX9_lastStands 100 = .ok (.iaload, 1) := by decide +kernel
theorem dX9_lastStands_101 : decode cX9_lastStands 101 = .ok (.aload_n 0, 1) := by decide +kernel
theorem dX9_lastStands_102 : decode cX9_lastStands 102 = .ok (.getfield 32, 3) := by decide +kernel
theorem dX9_lastStands_105 : decode cX9_lastStands 105 = .ok (.iload_n 1, 1) := by decide +kernel
theorem dX9_lastStands_106 : decode cX9_lastStands 106 = .ok (.iaload, 1) := by decide +kernel
theorem dX9_lastStands_107 : decode cX9_lastStands 107 = .ok (.if_icmp .gt 20, 3) := by decide +kernel
theorem dX9_lastStands_110 : decode cX9_lastStands 110 = .ok (.aload_n 0, 1) := by decide +kernel
theorem dX9_lastStands_111 : decode cX9_lastStands 111 = .ok (.getfield 29, 3) := by decide +kernel
theorem dX9_lastStands_114 : decode cX9_lastStands 114 = .ok (.iload_n 1, 1) := by decide +kernel
theorem dX9_lastStands_115 : decode cX9_lastStands 115 = .ok (.iaload, 1) := by decide +kernel
theorem dX9_lastStands_116 : decode cX9_lastStands 116 = .ok (.aload_n 0, 1) := by decide +kernel
theorem dX9_lastStands_117 : decode cX9_lastStands 117 = .ok (.getfield 32, 3) := by decide +kernel
theorem dX9_lastStands_120 : decode cX9_lastStands 120 = .ok (.iload_n 2, 1) := by decide +kernel
theorem dX9_lastStands_121 : decode cX9_lastStands 121 = .ok (.iaload, 1) := by decide +kernel
theorem dX9_lastStands_122 : decode cX9_lastStands 122 = .ok (.if_icmp .gt 5, 3) := by decide +kernel
theorem dX9_lastStands_125 : decode cX9_lastStands 125 = .ok (.iconst 0, 1) := by decide +kernel
theorem dX9_lastStands_126 : decode cX9_lastStands 126 = .ok (.ireturn, 1) := by decide +kernel
theorem dX9_lastStands_127 : decode cX9_lastStands 127 = .ok (.iinc 2 1, 3) := by decide +kernel
theorem dX9_lastStands_130 : decode cX9_lastStands 130 = .ok (.goto (-58), 3) := by decide +kernel
theorem dX9_lastStands_133 : decode cX9_lastStands 133 = .ok (.iconst 1, 1) := by decide +kernel
theorem dX9_lastStands_134 : decode cX9_lastStands 134 = .ok (.ireturn, 1) := by decide +kernel
theorem dX9_fact_0 : decode cX9_fact 0 = .ok (.iload_n 2, 1) := by decide +kernel
theorem dX9_fact_1 : decode cX9_fact 1 = .ok (.tableswitch 70 0 4 #[35, 42, 49, 56, 63], 35) := by decide +kernel
theorem dX9_fact_36 : decode cX9_fact 36 = .ok (.aload_n 0, 1) := by decide +kernel
theorem dX9_fact_37 : decode cX9_fact 37 = .ok (.getfield 19, 3) := by decide +kernel
theorem dX9_fact_40 : decode cX9_fact 40 = .ok (.iload_n 1, 1) := by decide +kernel
theorem dX9_fact_41 : decode cX9_fact 41 = .ok (.iaload, 1) := by decide +kernel
theorem dX9_fact_42 : decode cX9_fact 42 = .ok (.ireturn, 1) := by decide +kernel
theorem dX9_fact_43 : decode cX9_fact 43 = .ok (.aload_n 0, 1) := by decide +kernel
theorem dX9_fact_44 : decode cX9_fact 44 = .ok (.getfield 23, 3) := by decide +kernel
theorem dX9_fact_47 : decode cX9_fact 47 = .ok (.iload_n 1, 1) := by decide +kernel
theorem dX9_fact_48 : decode cX9_fact 48 = .ok (.iaload, 1) := by decide +kernel
theorem dX9_fact_49 : decode cX9_fact 49 = .ok (.ireturn, 1) := by decide +kernel
theorem dX9_fact_50 : decode cX9_fact 50 = .ok (.aload_n 0, 1) := by decide +kernel
theorem dX9_fact_51 : decode cX9_fact 51 = .ok (.getfield 26, 3) := by decide +kernel
theorem dX9_fact_54 : decode cX9_fact 54 = .ok (.iload_n 1, 1) := by decide +kernel
theorem dX9_fact_55 : decode cX9_fact 55 = .ok (.iaload, 1) := by decide +kernel
theorem dX9_fact_56 : decode cX9_fact 56 = .ok (.ireturn, 1) := by decide +kernel
theorem dX9_fact_57 : decode cX9_fact 57 = .ok (.aload_n 0, 1) := by decide +kernel
theorem dX9_fact_58 : decode cX9_fact 58 = .ok (.getfield 29, 3) := by decide +kernel
theorem dX9_fact_61 : decode cX9_fact 61 = .ok (.iload_n 1, 1) := by decide +kernel
theorem dX9_fact_62 : decode cX9_fact 62 = .ok (.iaload, 1) := by decide +kernel
theorem dX9_fact_63 : decode cX9_fact 63 = .ok (.ireturn, 1) := by decide +kernel
theorem dX9_fact_64 : decode cX9_fact 64 = .ok (.aload_n 0, 1) := by decide +kernel
theorem dX9_fact_65 : decode cX9_fact 65 = .ok (.getfield 32, 3) := by decide +kernel
theorem dX9_fact_68 : decode cX9_fact 68 = .ok (.iload_n 1, 1) := by decide +kernel
theorem dX9_fact_69 : decode cX9_fact 69 = .ok (.iaload, 1) := by decide +kernel
theorem dX9_fact_70 : decode cX9_fact 70 = .ok (.ireturn, 1) := by decide +kernel
theorem dX9_fact_71 : decode cX9_fact 71 = .ok (.aload_n 0, 1) := by decide +kernel
theorem dX9_fact_72 : decode cX9_fact 72 = .ok (.getfield 35, 3) := by decide +kernel
theorem dX9_fact_75 : decode cX9_fact 75 = .ok (.iload_n 1, 1) := by decide +kernel
theorem dX9_fact_76 : decode cX9_fact 76 = .ok (.iaload, 1) := by decide +kernel
theorem dX9_fact_77 : decode cX9_fact 77 = .ok (.ireturn, 1) := by decide +kernel
theorem dX9_has_0 : decode cX9_has 0 = .ok (.aload_n 0, 1) := by decide +kernel
theorem dX9_has_1 : decode cX9_has 1 = .ok (.getfield 29, 3) := by decide +kernel
theorem dX9_has_4 : decode cX9_has 4 = .ok (.iload_n 2, 1) := by decide +kernel
theorem dX9_has_5 : decode cX9_has 5 = .ok (.iaload, 1) := by decide +kernel
theorem dX9_has_6 : decode cX9_has 6 = .ok (.iload_n 1, 1) := by decide +kernel
theorem dX9_has_7 : decode cX9_has 7 = .ok (.if_icmp .gt 17, 3) := by decide +kernel
theorem dX9_has_10 : decode cX9_has 10 = .ok (.iload_n 1, 1) := by decide +kernel
theorem dX9_has_11 : decode cX9_has 11 = .ok (.aload_n 0, 1) := by decide +kernel
theorem dX9_has_12 : decode cX9_has 12 = .ok (.getfield 32, 3) := by decide +kernel
theorem dX9_has_15 : decode cX9_has 15 = .ok (.iload_n 2, 1) := by decide +kernel
theorem dX9_has_16 : decode cX9_has 16 = .ok (.iaload, 1) := by decide +kernel
theorem dX9_has_17 : decode cX9_has 17 = .ok (.if_icmp .gt 7, 3) := by decide +kernel
theorem dX9_has_20 : decode cX9_has 20 = .ok (.iconst 1, 1) := by decide +kernel
theorem dX9_has_21 : decode cX9_has 21 = .ok (.goto 4, 3) := by decide +kernel
theorem dX9_has_24 : decode cX9_has 24 = .ok (.iconst 0, 1) := by decide +kernel
theorem dX9_has_25 : decode cX9_has 25 = .ok (.ireturn, 1) := by decide +kernel
theorem dX9_isNeeded_0 : decode cX9_isNeeded 0 = .ok (.aload_n 0, 1) := by decide +kernel
theorem dX9_isNeeded_1 : decode cX9_isNeeded 1 = .ok (.getfield 35, 3) := by decide +kernel
theorem dX9_isNeeded_4 : decode cX9_isNeeded 4 = .ok (.iload_n 1, 1) := by decide +kernel
theorem dX9_isNeeded_5 : decode cX9_isNeeded 5 = .ok (.iaload, 1) := by decide +kernel
theorem dX9_isNeeded_6 : decode cX9_isNeeded 6 = .ok (.bipush (-9), 2) := by decide +kernel
theorem dX9_isNeeded_8 : decode cX9_isNeeded 8 = .ok (.if_icmp .ne 7, 3) := by decide +kernel
theorem dX9_isNeeded_11 : decode cX9_isNeeded 11 = .ok (.iconst 1, 1) := by decide +kernel
theorem dX9_isNeeded_12 : decode cX9_isNeeded 12 = .ok (.goto 4, 3) := by decide +kernel
theorem dX9_isNeeded_15 : decode cX9_isNeeded 15 = .ok (.iconst 0, 1) := by decide +kernel
theorem dX9_isNeeded_16 : decode cX9_isNeeded 16 = .ok (.ireturn, 1) := by decide +kernel
theorem dX9_fieldsOf_0 : decode cX9_fieldsOf 0 = .ok (.iconst 0, 1) := by decide +kernel
theorem dX9_fieldsOf_1 : decode cX9_fieldsOf 1 = .ok (.istore_n 2, 1) := by decide +kernel
theorem dX9_fieldsOf_2 : decode cX9_fieldsOf 2 = .ok (.iconst 0, 1) := by decide +kernel
theorem dX9_fieldsOf_3 : decode cX9_fieldsOf 3 = .ok (.istore_n 3, 1) := by decide +kernel
theorem dX9_fieldsOf_4 : decode cX9_fieldsOf 4 = .ok (.iload_n 3, 1) := by decide +kernel
theorem dX9_fieldsOf_5 : decode cX9_fieldsOf 5 = .ok (.aload_n 0, 1) := by decide +kernel
theorem dX9_fieldsOf_6 : decode cX9_fieldsOf 6 = .ok (.getfield 15, 3) := by decide +kernel
theorem dX9_fieldsOf_9 : decode cX9_fieldsOf 9 = .ok (.if_icmp .ge 26, 3) := by decide +kernel
theorem dX9_fieldsOf_12 : decode cX9_fieldsOf 12 = .ok (.iload_n 2, 1) := by decide +kernel
theorem dX9_fieldsOf_13 : decode cX9_fieldsOf 13 = .ok (.aload_n 0, 1) := by decide +kernel
theorem dX9_fieldsOf_14 : decode cX9_fieldsOf 14 = .ok (.iload_n 1, 1) := by decide +kernel
theorem dX9_fieldsOf_15 : decode cX9_fieldsOf 15 = .ok (.iload_n 3, 1) := by decide +kernel
theorem dX9_fieldsOf_16 : decode cX9_fieldsOf 16 = .ok (.invokevirtual 50, 3) := by decide +kernel
theorem dX9_fieldsOf_19 : decode cX9_fieldsOf 19 = .ok (.ifCond .eq 7, 3) := by decide +kernel
theorem dX9_fieldsOf_22 : decode cX9_fieldsOf 22 = .ok (.iconst 1, 1) := by decide +kernel
theorem dX9_fieldsOf_23 : decode cX9_fieldsOf 23 = .ok (.goto 4, 3) := by decide +kernel
theorem dX9_fieldsOf_26 : decode cX9_fieldsOf 26 = .ok (.iconst 0, 1) := by decide +kernel
theorem dX9_fieldsOf_27 : decode cX9_fieldsOf 27 = .ok (.iadd, 1) := by decide +kernel
theorem dX9_fieldsOf_28 : decode cX9_fieldsOf 28 = .ok (.istore_n 2, 1) := by decide +kernel
theorem dX9_fieldsOf_29 : decode cX9_fieldsOf 29 = .ok (.iinc 3 1, 3) := by decide +kernel
theorem dX9_fieldsOf_32 : decode cX9_fieldsOf 32 = .ok (.goto (-28), 3) := by decide +kernel
theorem dX9_fieldsOf_35 : decode cX9_fieldsOf 35 = .ok (.iload_n 2, 1) := by decide +kernel
theorem dX9_fieldsOf_36 : decode cX9_fieldsOf 36 = .ok (.ireturn, 1) := by decide +kernel
theorem dX9_neededOf_0 : decode cX9_neededOf 0 = .ok (.iconst 0, 1) := by decide +kernel
theorem dX9_neededOf_1 : decode cX9_neededOf 1 = .ok (.istore_n 2, 1) := by decide +kernel
theorem dX9_neededOf_2 : decode cX9_neededOf 2 = .ok (.iconst 0, 1) := by decide +kernel
theorem dX9_neededOf_3 : decode cX9_neededOf 3 = .ok (.istore_n 3, 1) := by decide +kernel
theorem dX9_neededOf_4 : decode cX9_neededOf 4 = .ok (.iload_n 3, 1) := by decide +kernel
theorem dX9_neededOf_5 : decode cX9_neededOf 5 = .ok (.aload_n 0, 1) := by decide +kernel
theorem dX9_neededOf_6 : decode cX9_neededOf 6 = .ok (.getfield 15, 3) := by decide +kernel
theorem dX9_neededOf_9 : decode cX9_neededOf 9 = .ok (.if_icmp .ge 34, 3) := by decide +kernel
theorem dX9_neededOf_12 : decode cX9_neededOf 12 = .ok (.iload_n 2, 1) := by decide +kernel
theorem dX9_neededOf_13 : decode cX9_neededOf 13 = .ok (.aload_n 0, 1) := by decide +kernel
theorem dX9_neededOf_14 : decode cX9_neededOf 14 = .ok (.iload_n 1, 1) := by decide +kernel
theorem dX9_neededOf_15 : decode cX9_neededOf 15 = .ok (.iload_n 3, 1) := by decide +kernel
theorem dX9_neededOf_16 : decode cX9_neededOf 16 = .ok (.invokevirtual 50, 3) := by decide +kernel
theorem dX9_neededOf_19 : decode cX9_neededOf 19 = .ok (.ifCond .eq 15, 3) := by decide +kernel
theorem dX9_neededOf_22 : decode cX9_neededOf 22 = .ok (.aload_n 0, 1) := by decide +kernel
theorem dX9_neededOf_23 : decode cX9_neededOf 23 = .ok (.iload_n 3, 1) := by decide +kernel
theorem dX9_neededOf_24 : decode cX9_neededOf 24 = .ok (.invokevirtual 54, 3) := by decide +kernel
theorem dX9_neededOf_27 : decode cX9_neededOf 27 = .ok (.ifCond .eq 7, 3) := by decide +kernel
theorem dX9_neededOf_30 : decode cX9_neededOf 30 = .ok (.iconst 1, 1) := by decide +kernel
theorem dX9_neededOf_31 : decode cX9_neededOf 31 = .ok (.goto 4, 3) := by decide +kernel
theorem dX9_neededOf_34 : decode cX9_neededOf 34 = .ok (.iconst 0, 1) := by decide +kernel
theorem dX9_neededOf_35 : decode cX9_neededOf 35 = .ok (.iadd, 1) := by decide +kernel
theorem dX9_neededOf_36 : decode cX9_neededOf 36 = .ok (.istore_n 2, 1) := by decide +kernel
theorem dX9_neededOf_37 : decode cX9_neededOf 37 = .ok (.iinc 3 1, 3) := by decide +kernel
theorem dX9_neededOf_40 : decode cX9_neededOf 40 = .ok (.goto (-36), 3) := by decide +kernel
theorem dX9_neededOf_43 : decode cX9_neededOf 43 = .ok (.iload_n 2, 1) := by decide +kernel
theorem dX9_neededOf_44 : decode cX9_neededOf 44 = .ok (.ireturn, 1) := by decide +kernel
theorem dX9_itemLike_0 : decode cX9_itemLike 0 = .ok (.aload_n 0, 1) := by decide +kernel
theorem dX9_itemLike_1 : decode cX9_itemLike 1 = .ok (.getfield 38, 3) := by decide +kernel
theorem dX9_itemLike_4 : decode cX9_itemLike 4 = .ok (.iload_n 1, 1) := by decide +kernel
theorem dX9_itemLike_5 : decode cX9_itemLike 5 = .ok (.bipush 16, 2) := by decide +kernel
theorem dX9_itemLike_7 : decode cX9_itemLike 7 = .ok (.imul, 1) := by decide +kernel
theorem dX9_itemLike_8 : decode cX9_itemLike 8 = .ok (.iload_n 2, 1) := by decide +kernel
theorem dX9_itemLike_9 : decode cX9_itemLike 9 = .ok (.iadd, 1) := by decide +kernel
theorem dX9_itemLike_10 : decode cX9_itemLike 10 = .ok (.iaload, 1) := by decide +kernel
theorem dX9_itemLike_11 : decode cX9_itemLike 11 = .ok (.istore 4, 2) := by decide +kernel
theorem dX9_itemLike_13 : decode cX9_itemLike 13 = .ok (.iload 4, 2) := by decide +kernel
theorem dX9_itemLike_15 : decode cX9_itemLike 15 = .ok (.bipush (-9), 2) := by decide +kernel
theorem dX9_itemLike_17 : decode cX9_itemLike 17 = .ok (.if_icmp .eq 19, 3) := by decide +kernel
theorem dX9_itemLike_20 : decode cX9_itemLike 20 = .ok (.aload_n 0, 1) := by decide +kernel
theorem dX9_itemLike_21 : decode cX9_itemLike 21 = .ok (.getfield 23, 3) := by decide +kernel
theorem dX9_itemLike_24 : decode cX9_itemLike 24 = .ok (.iload 4, 2) := by decide +kernel
theorem dX9_itemLike_26 : decode cX9_itemLike 26 = .ok (.iaload, 1) := by decide +kernel
theorem dX9_itemLike_27 : decode cX9_itemLike 27 = .ok (.iload_n 3, 1) := by decide +kernel
theorem dX9_itemLike_28 : decode cX9_itemLike 28 = .ok (.if_icmp .ne 8, 3) := by decide +kernel
theorem dX9_itemLike_31 : decode cX9_itemLike 31 = .ok (.iload 4, 2) := by decide +kernel
theorem dX9_itemLike_33 : decode cX9_itemLike 33 = .ok (.goto 5, 3) := by decide +kernel
theorem dX9_itemLike_36 : decode cX9_itemLike 36 = .ok (.bipush (-9), 2) := by decide +kernel
theorem dX9_itemLike_38 : decode cX9_itemLike 38 = .ok (.ireturn, 1) := by decide +kernel
theorem dX9_unlikeNames_0 : decode cX9_unlikeNames 0 = .ok (.iconst 0, 1) := by decide +kernel
theorem dX9_unlikeNames_1 : decode cX9_unlikeNames 1 = .ok (.istore_n 3, 1) := by decide +kernel
theorem dX9_unlikeNames_2 : decode cX9_unlikeNames 2 = .ok (.iconst 0, 1) := by decide +kernel
theorem dX9_unlikeNames_3 : decode cX9_unlikeNames 3 = .ok (.istore 4, 2) := by decide +kernel
theorem dX9_unlikeNames_5 : decode cX9_unlikeNames 5 = .ok (.iload 4, 2) := by decide +kernel
theorem dX9_unlikeNames_7 : decode cX9_unlikeNames 7 = .ok (.aload_n 0, 1) := by decide +kernel
theorem dX9_unlikeNames_8 : decode cX9_unlikeNames 8 = .ok (.getfield 15, 3) := by decide +kernel
theorem dX9_unlikeNames_11 : decode cX9_unlikeNames 11 = .ok (.if_icmp .ge 101, 3) := by decide +kernel
theorem dX9_unlikeNames_14 : decode cX9_unlikeNames 14 = .ok (.aload_n 0, 1) := by decide +kernel
theorem dX9_unlikeNames_15 : decode cX9_unlikeNames 15 = .ok (.iload_n 2, 1) := by decide +kernel
theorem dX9_unlikeNames_16 : decode cX9_unlikeNames 16 = .ok (.iload 4, 2) := by decide +kernel
theorem dX9_unlikeNames_18 : decode cX9_unlikeNames 18 = .ok (.invokevirtual 50, 3) := by decide +kernel
theorem dX9_unlikeNames_21 : decode cX9_unlikeNames 21 = .ok (.ifCond .eq 85, 3) := by decide +kernel
theorem dX9_unlikeNames_24 : decode cX9_unlikeNames 24 = .ok (.aload_n 0, 1) := by decide +kernel
theorem dX9_unlikeNames_25 : decode cX9_unlikeNames 25 = .ok (.iload_n 1, 1) := by decide +kernel
theorem dX9_unlikeNames_26 : decode cX9_unlikeNames 26 = .ok (.aload_n 0, 1) := by decide +kernel
theorem dX9_unlikeNames_27 : decode cX9_unlikeNames 27 = .ok (.getfield 19, 3) := by decide +kernel
theorem dX9_unlikeNames_30 : decode cX9_unlikeNames 30 = .ok (.iload 4, 2) := by decide +kernel
theorem dX9_unlikeNames_32 : decode cX9_unlikeNames 32 = .ok (.iaload, 1) := by decide +kernel
theorem dX9_unlikeNames_33 : decode cX9_unlikeNames 33 = .ok (.aload_n 0, 1) := by decide +kernel
theorem dX9_unlikeNames_34 : decode cX9_unlikeNames 34 = .ok (.getfield 23, 3) := by decide +kernel
theorem dX9_unlikeNames_37 : decode cX9_unlikeNames 37 = .ok (.iload 4, 2) := by decide +kernel
theorem dX9_unlikeNames_39 : decode cX9_unlikeNames 39 = .ok (.iaload, 1) := by decide +kernel
theorem dX9_unlikeNames_40 : decode cX9_unlikeNames 40 = .ok (.invokevirtual 58, 3) := by decide +kernel
theorem dX9_unlikeNames_43 : decode cX9_unlikeNames 43 = .ok (.istore 5, 2) := by decide +kernel
theorem dX9_unlikeNames_45 : decode cX9_unlikeNames 45 = .ok (.iload 5, 2) := by decide +kernel
theorem dX9_unlikeNames_47 : decode cX9_unlikeNames 47 = .ok (.bipush (-9), 2) := by decide +kernel
theorem dX9_unlikeNames_49 : decode cX9_unlikeNames 49 = .ok (.if_icmp .ne 12, 3) := by decide +kernel
theorem dX9_unlikeNames_52 : decode cX9_unlikeNames 52 = .ok (.aload_n 0, 1) := by decide +kernel
theorem dX9_unlikeNames_53 : decode cX9_unlikeNames 53 = .ok (.iload 4, 2) := by decide +kernel
theorem dX9_unlikeNames_55 : decode cX9_unlikeNames 55 = .ok (.invokevirtual 54, 3) := by decide +kernel
theorem dX9_unlikeNames_58 : decode cX9_unlikeNames 58 = .ok (.goto 25, 3) := by decide +kernel
theorem dX9_unlikeNames_61 : decode cX9_unlikeNames 61 = .ok (.aload_n 0, 1) := by decide +kernel
theorem dX9_unlikeNames_62 : decode cX9_unlikeNames 62 = .ok (.getfield 26, 3) := by decide +kernel
theorem dX9_unlikeNames_65 : decode cX9_unlikeNames 65 = .ok (.iload 5, 2) := by decide +kernel
theorem dX9_unlikeNames_67 : decode cX9_unlikeNames 67 = .ok (.iaload, 1) := by decide +kernel
theorem dX9_unlikeNames_68 : decode cX9_unlikeNames 68 = .ok (.aload_n 0, 1) := by decide +kernel
theorem dX9_unlikeNames_69 : decode cX9_unlikeNames 69 = .ok (.getfield 26, 3) := by decide +kernel
theorem dX9_unlikeNames_72 : decode cX9_unlikeNames 72 = .ok (.iload 4, 2) := by decide +kernel
theorem dX9_unlikeNames_74 : decode cX9_unlikeNames 74 = .ok (.iaload, 1) := by decide +kernel
theorem dX9_unlikeNames_75 : decode cX9_unlikeNames 75 = .ok (.if_icmp .le 7, 3) := by decide +kernel
theorem dX9_unlikeNames_78 : decode cX9_unlikeNames 78 = .ok (.iconst 1, 1) := by decide +kernel
theorem dX9_unlikeNames_79 : decode cX9_unlikeNames 79 = .ok (.goto 4, 3) := by decide +kernel
theorem dX9_unlikeNames_82 : decode cX9_unlikeNames 82 = .ok (.iconst 0, 1) := by decide +kernel
theorem dX9_unlikeNames_83 : decode cX9_unlikeNames 83 = .ok (.istore 6, 2) := by decide +kernel
theorem dX9_unlikeNames_85 : decode cX9_unlikeNames 85 = .ok (.iload_n 3, 1) := by decide +kernel
theorem dX9_unlikeNames_86 : decode cX9_unlikeNames 86 = .ok (.iload 6, 2) := by decide +kernel
theorem dX9_unlikeNames_88 : decode cX9_unlikeNames 88 = .ok (.ifCond .eq 15, 3) := by decide +kernel
theorem dX9_unlikeNames_91 : decode cX9_unlikeNames 91 = .ok (.iconst 1, 1) := by decide +kernel
theorem dX9_unlikeNames_92 : decode cX9_unlikeNames 92 = .ok (.aload_n 0, 1) := by decide +kernel
theorem dX9_unlikeNames_93 : decode cX9_unlikeNames 93 = .ok (.getfield 19, 3) := by decide +kernel
theorem dX9_unlikeNames_96 : decode cX9_unlikeNames 96 = .ok (.iload 4, 2) := by decide +kernel
theorem dX9_unlikeNames_98 : decode cX9_unlikeNames 98 = .ok (.iaload, 1) := by decide +kernel
theorem dX9_unlikeNames_99 : decode cX9_unlikeNames 99 = .ok (.ishl, 1) := by decide +kernel
theorem dX9_unlikeNames_100 : decode cX9_unlikeNames 100 = .ok (.goto 4, 3) := by decide +kernel
theorem dX9_unlikeNames_103 : decode cX9_unlikeNames 103 = .ok (.iconst 0, 1) := by decide +kernel
theorem dX9_unlikeNames_104 : decode cX9_unlikeNames 104 = .ok (.ior, 1) := by decide +kernel
theorem dX9_unlikeNames_105 : decode cX9_unlikeNames 105 = .ok (.istore_n 3, 1) := by decide +kernel
theorem dX9_unlikeNames_106 : decode cX9_unlikeNames 106 = .ok (.iinc 4 1, 3) := by decide +kernel
theorem dX9_unlikeNames_109 : decode cX9_unlikeNames 109 = .ok (.goto (-104), 3) := by decide +kernel
theorem dX9_unlikeNames_112 : decode cX9_unlikeNames 112 = .ok (.iload_n 3, 1) := by decide +kernel
theorem dX9_unlikeNames_113 : decode cX9_unlikeNames 113 = .ok (.ireturn, 1) := by decide +kernel
theorem dX9_bothFit_0 : decode cX9_bothFit 0 = .ok (.aload_n 0, 1) := by decide +kernel
theorem dX9_bothFit_1 : decode cX9_bothFit 1 = .ok (.iload_n 1, 1) := by decide +kernel
theorem dX9_bothFit_2 : decode cX9_bothFit 2 = .ok (.iload_n 2, 1) := by decide +kernel
theorem dX9_bothFit_3 : decode cX9_bothFit 3 = .ok (.invokevirtual 62, 3) := by decide +kernel
theorem dX9_bothFit_6 : decode cX9_bothFit 6 = .ok (.ifCond .ne 16, 3) := by decide +kernel
theorem dX9_bothFit_9 : decode cX9_bothFit 9 = .ok (.aload_n 0, 1) := by decide +kernel
theorem dX9_bothFit_10 : decode cX9_bothFit 10 = .ok (.iload_n 2, 1) := by decide +kernel
theorem dX9_bothFit_11 : decode cX9_bothFit 11 = .ok (.iload_n 1, 1) := by decide +kernel
theorem dX9_bothFit_12 : decode cX9_bothFit 12 = .ok (.invokevirtual 62, 3) := by decide +kernel
theorem dX9_bothFit_15 : decode cX9_bothFit 15 = .ok (.ifCond .ne 7, 3) := by decide +kernel
theorem dX9_bothFit_18 : decode cX9_bothFit 18 = .ok (.iconst 1, 1) := by decide +kernel
theorem dX9_bothFit_19 : decode cX9_bothFit 19 = .ok (.goto 4, 3) := by decide +kernel
theorem dX9_bothFit_22 : decode cX9_bothFit 22 = .ok (.iconst 0, 1) := by decide +kernel
theorem dX9_bothFit_23 : decode cX9_bothFit 23 = .ok (.ireturn, 1) := by decide +kernel
theorem dX10_init_0 : decode cX10_init 0 = .ok (.aload_n 0, 1) := by decide +kernel
theorem dX10_init_1 : decode cX10_init 1 = .ok (.invokespecial 3, 3) := by decide +kernel
theorem dX10_init_4 : decode cX10_init 4 = .ok (.aload_n 0, 1) := by decide +kernel
theorem dX10_init_5 : decode cX10_init 5 = .ok (.new 9, 3) := by decide +kernel
theorem dX10_init_8 : decode cX10_init 8 = .ok (.dup, 1) := by decide +kernel
theorem dX10_init_9 : decode cX10_init 9 = .ok (.sipush 132, 3) := by decide +kernel
theorem dX10_init_12 : decode cX10_init 12 = .ok (.invokespecial 11, 3) := by decide +kernel
theorem dX10_init_15 : decode cX10_init 15 = .ok (.putfield 14, 3) := by decide +kernel
theorem dX10_init_18 : decode cX10_init 18 = .ok (.aload_n 0, 1) := by decide +kernel
theorem dX10_init_19 : decode cX10_init 19 = .ok (.iconst 0, 1) := by decide +kernel
theorem dX10_init_20 : decode cX10_init 20 = .ok (.putfield 20, 3) := by decide +kernel
theorem dX10_init_23 : decode cX10_init 23 = .ok (.return_, 1) := by decide +kernel
theorem dX10_encode_0 : decode cX10_encode 0 = .ok (.aload_n 0, 1) := by decide +kernel
theorem dX10_encode_1 : decode cX10_encode 1 = .ok (.getfield 14, 3) := by decide +kernel
theorem dX10_encode_4 : decode cX10_encode 4 = .ok (.iconst 0, 1) := by decide +kernel
theorem dX10_encode_5 : decode cX10_encode 5 = .ok (.putfield 24, 3) := by decide +kernel
theorem dX10_encode_8 : decode cX10_encode 8 = .ok (.aload_n 0, 1) := by decide +kernel
theorem dX10_encode_9 : decode cX10_encode 9 = .ok (.iconst 0, 1) := by decide +kernel
theorem dX10_encode_10 : decode cX10_encode 10 = .ok (.putfield 20, 3) := by decide +kernel
theorem dX10_encode_13 : decode cX10_encode 13 = .ok (.iconst 0, 1) := by decide +kernel
theorem dX10_encode_14 : decode cX10_encode 14 = .ok (.istore 4, 2) := by decide +kernel
theorem dX10_encode_16 : decode cX10_encode 16 = .ok (.iload 4, 2) := by decide +kernel
theorem dX10_encode_18 : decode cX10_encode 18 = .ok (.aload_n 1, 1) := by decide +kernel
theorem dX10_encode_19 : decode cX10_encode 19 = .ok (.getfield 27, 3) := by decide +kernel
theorem dX10_encode_22 : decode cX10_encode 22 = .ok (.if_icmp .ge 39, 3) := by decide +kernel
theorem dX10_encode_25 : decode cX10_encode 25 = .ok (.aload_n 1, 1) := by decide +kernel
theorem dX10_encode_26 : decode cX10_encode 26 = .ok (.iload_n 2, 1) := by decide +kernel
theorem dX10_encode_27 : decode cX10_encode 27 = .ok (.iload 4, 2) := by decide +kernel
theorem dX10_encode_29 : decode cX10_encode 29 = .ok (.invokevirtual 32, 3) := by decide +kernel
theorem dX10_encode_32 : decode cX10_encode 32 = .ok (.ifCond .eq 23, 3) := by decide +kernel
theorem dX10_encode_35 : decode cX10_encode 35 = .ok (.aload_n 0, 1) := by decide +kernel
theorem dX10_encode_36 : decode cX10_encode 36 = .ok (.aload_n 1, 1) := by decide +kernel
theorem dX10_encode_37 : decode cX10_encode 37 = .ok (.iload 4, 2) := by decide +kernel
theorem dX10_encode_39 : decode cX10_encode 39 = .ok (.aload_n 3, 1) := by decide +kernel
theorem dX10_encode_40 : decode cX10_encode 40 = .ok (.invokevirtual 36, 3) := by decide +kernel
theorem dX10_encode_43 : decode cX10_encode 43 = .ok (.istore 5, 2) := by decide +kernel
theorem dX10_encode_45 : decode cX10_encode 45 = .ok (.iload 5, 2) := by decide +kernel
theorem dX10_encode_47 : decode cX10_encode 47 = .ok (.bipush (-9), 2) := by decide +kernel
theorem dX10_encode_49 : decode cX10_encode 49 = .ok (.if_icmp .eq 6, 3) := by decide +kernel
theorem dX10_encode_52 : decode cX10_encode 52 = .ok (.iload 5, 2) := by decide +kernel
theorem dX10_encode_54 : decode cX10_encode 54 = .ok (.ireturn, 1) := by decide +kernel
theorem dX10_encode_55 : decode cX10_encode 55 = .ok (.iinc 4 1, 3) := by decide +kernel
theorem dX10_encode_58 : decode cX10_encode 58 = .ok (.goto (-42), 3) := by decide +kernel
theorem dX10_encode_61 : decode cX10_encode 61 = .ok (.aload_n 0, 1) := by decide +kernel
theorem dX10_encode_62 : decode cX10_encode 62 = .ok (.getfield 20, 3) := by decide +kernel
theorem dX10_encode_65 : decode cX10_encode 65 = .ok (.aload_n 3, 1) := by decide +kernel
theorem dX10_encode_66 : decode cX10_encode 66 = .ok (.getfield 24, 3) := by decide +kernel
theorem dX10_encode_69 : decode cX10_encode 69 = .ok (.if_icmp .ne 8, 3) := by decide +kernel
theorem dX10_encode_72 : decode cX10_encode 72 = .ok (.bipush (-9), 2) := by decide +kernel
theorem dX10_encode_74 : decode cX10_encode 74 = .ok (.goto 4, 3) := by decide +kernel
theorem dX10_encode_77 : decode cX10_encode 77 = .ok (.iconst 5, 1) := by decide +kernel
theorem dX10_encode_78 : decode cX10_encode 78 = .ok (.ireturn, 1) := by decide +kernel
theorem dX10_encodeField_0 : decode cX10_encodeField 0 = .ok (.aload_n 0, 1) := by decide +kernel
theorem dX10_encodeField_1 : decode cX10_encodeField 1 = .ok (.getfield 20, 3) := by decide +kernel
theorem dX10_encodeField_4 : decode cX10_encodeField 4 = .ok (.aload_n 3, 1) := by decide +kernel
theorem dX10_encodeField_5 : decode cX10_encodeField 5 = .ok (.getfield 24, 3) := by decide +kernel
theorem dX10_encodeField_8 : decode cX10_encodeField 8 = .ok (.if_icmp .lt 5, 3) := by decide +kernel
theorem dX10_encodeField_11 : decode cX10_encodeField 11 = .ok (.iconst 5, 1) := by decide +kernel
theorem dX10_encodeField_12 : decode cX10_encodeField 12 = .ok (.ireturn, 1) := by decide +kernel
theorem dX10_encodeField_13 : decode cX10_encodeField 13 = .ok (.aload_n 3, 1) := by decide +kernel
theorem dX10_encodeField_14 : decode cX10_encodeField 14 = .ok (.getfield 40, 3) := by decide +kernel
theorem dX10_encodeField_17 : decode cX10_encodeField 17 = .ok (.aload_n 0, 1) := by decide +kernel
theorem dX10_encodeField_18 : decode cX10_encodeField 18 = .ok (.getfield 20, 3) := by decide +kernel
theorem dX10_encodeField_21 : decode cX10_encodeField 21 = .ok (.iaload, 1) := by decide +kernel
theorem dX10_encodeField_22 : decode cX10_encodeField 22 = .ok (.istore 4, 2) := by decide +kernel
theorem dX10_encodeField_24 : decode cX10_encodeField 24 = .ok (.aload_n 0, 1) := by decide +kernel
theorem dX10_encodeField_25 : decode cX10_encodeField 25 = .ok (.dup, 1) := by decide +kernel
theorem dX10_encodeField_26 : decode cX10_encodeField 26 = .ok (.getfield 20, 3) := by decide +kernel
theorem dX10_encodeField_29 : decode cX10_encodeField 29 = .ok (.iconst 1, 1) := by decide +kernel
theorem dX10_encodeField_30 : decode cX10_encodeField 30 = .ok (.iadd, 1) := by decide +kernel
theorem dX10_encodeField_31 : decode cX10_encodeField 31 = .ok (.putfield 20, 3) := by decide +kernel
theorem dX10_encodeField_34 : decode cX10_encodeField 34 = .ok (.iload 4, 2) := by decide +kernel
theorem dX10_encodeField_36 : decode cX10_encodeField 36 = .ok (.ifCond .lt 13, 3) := by decide +kernel
theorem dX10_encodeField_39 : decode cX10_encodeField 39 = .ok (.iload 4, 2) := by decide +kernel
theorem dX10_encodeField_41 : decode cX10_encodeField 41 = .ok (.aload_n 1, 1) := by decide +kernel
theorem dX10_encodeField_42 : decode cX10_encodeField 42 = .ok (.iload_n 2, 1) := by decide +kernel
theorem dX10_encodeField_43 : decode cX10_encodeField 43 = .ok (.invokestatic 44, 3) := by decide +kernel
theorem dX10_encodeField_46 : decode cX10_encodeField 46 = .ok (.if_icmp .le 5, 3) := by decide +kernel
theorem dX10_encodeField_49 : decode cX10_encodeField 49 = .ok (.iconst 3, 1) := by decide +kernel
theorem dX10_encodeField_50 : decode cX10_encodeField 50 = .ok (.ireturn, 1) := by decide +kernel
theorem dX10_encodeField_51 : decode cX10_encodeField 51 = .ok (.aload_n 0, 1) := by decide +kernel
theorem dX10_encodeField_52 : decode cX10_encodeField 52 = .ok (.getfield 14, 3) := by decide +kernel
theorem dX10_encodeField_55 : decode cX10_encodeField 55 = .ok (.aload_n 1, 1) := by decide +kernel
theorem dX10_encodeField_56 : decode cX10_encodeField 56 = .ok (.getfield 48, 3) := by decide +kernel
theorem dX10_encodeField_59 : decode cX10_encodeField 59 = .ok (.iload_n 2, 1) := by decide +kernel
theorem dX10_encodeField_60 : decode cX10_encodeField 60 = .ok (.iaload, 1) := by decide +kernel
theorem dX10_encodeField_61 : decode cX10_encodeField 61 = .ok (.bipush 16, 2) := by decide +kernel
theorem dX10_encodeField_63 : decode cX10_encodeField 63 = .ok (.imul, 1) := by decide +kernel
theorem dX10_encodeField_64 : decode cX10_encodeField 64 = .ok (.aload_n 1, 1) := by decide +kernel
theorem dX10_encodeField_65 : decode cX10_encodeField 65 = .ok (.getfield 51, 3) := by decide +kernel
theorem dX10_encodeField_68 : decode cX10_encodeField 68 = .ok (.iload_n 2, 1) := by decide +kernel
theorem dX10_encodeField_69 : decode cX10_encodeField 69 = .ok (.iaload, 1) := by decide +kernel
theorem dX10_encodeField_70 : decode cX10_encodeField 70 = .ok (.iadd, 1) := by decide +kernel
theorem dX10_encodeField_71 : decode cX10_encodeField 71 = .ok (.invokevirtual 54, 3) := by decide +kernel
theorem dX10_encodeField_74 : decode cX10_encodeField 74 = .ok (.aload_n 1, 1) := by decide +kernel
theorem dX10_encodeField_75 : decode cX10_encodeField 75 = .ok (.getfield 48, 3) := by decide +kernel
theorem dX10_encodeField_78 : decode cX10_encodeField 78 = .ok (.iload_n 2, 1) := by decide +kernel
theorem dX10_encodeField_79 : decode cX10_encodeField 79 = .ok (.iaload, 1) := by decide +kernel
theorem dX10_encodeField_80 : decode cX10_encodeField 80 = .ok (.iconst 1, 1) := by decide +kernel
theorem dX10_encodeField_81 : decode cX10_encodeField 81 = .ok (.if_icmp .ne 16, 3) := by decide +kernel
theorem dX10_encodeField_84 : decode cX10_encodeField 84 = .ok (.aload_n 0, 1) := by decide +kernel
theorem dX10_encodeField_85 : decode cX10_encodeField 85 = .ok (.getfield 14, 3) := by decide +kernel
theorem dX10_encodeField_88 : decode cX10_encodeField 88 = .ok (.iload 4, 2) := by decide +kernel
theorem dX10_encodeField_90 : decode cX10_encodeField 90 = .ok (.bipush 8, 2) := by decide +kernel
theorem dX10_encodeField_92 : decode cX10_encodeField 92 = .ok (.ishr, 1) := by decide +kernel
theorem dX10_encodeField_93 : decode cX10_encodeField 93 = .ok (.i2b, 1) := by decide +kernel
theorem dX10_encodeField_94 : decode cX10_encodeField 94 = .ok (.invokevirtual 54, 3) := by decide +kernel
theorem dX10_encodeField_97 : decode cX10_encodeField 97 = .ok (.aload_n 0, 1) := by decide +kernel
theorem dX10_encodeField_98 : decode cX10_encodeField 98 = .ok (.getfield 14, 3) := by decide +kernel
theorem dX10_encodeField_101 : decode cX10_encodeField 101 = .ok (.iload 4, 2) := by decide +kernel
theorem dX10_encodeField_103 : decode cX10_encodeField 103 = .ok (.i2b, 1) := by decide +kernel
theorem dX10_encodeField_104 : decode cX10_encodeField 104 = .ok (.invokevirtual 54, 3) := by decide +kernel
theorem dX10_encodeField_107 : decode cX10_encodeField 107 = .ok (.aload_n 1, 1) := by decide +kernel
theorem dX10_encodeField_108 : decode cX10_encodeField 108 = .ok (.getfield 48, 3) := by decide +kernel
theorem dX10_encodeField_111 : decode cX10_encodeField 111 = .ok (.iload_n 2, 1) := by decide +kernel
theorem dX10_encodeField_112 : decode cX10_encodeField 112 = .ok (.iaload, 1) := by decide +kernel
theorem dX10_encodeField_113 : decode cX10_encodeField 113 = .ok (.iconst 2, 1) := by decide +kernel
theorem dX10_encodeField_114 : decode cX10_encodeField 114 = .ok (.if_icmp .ne 13, 3) := by decide +kernel
theorem dX10_encodeField_117 : decode cX10_encodeField 117 = .ok (.aload_n 0, 1) := by decide +kernel
theorem dX10_encodeField_118 : decode cX10_encodeField 118 = .ok (.iload 4, 2) := by decide +kernel
theorem dX10_encodeField_120 : decode cX10_encodeField 120 = .ok (.aload_n 3, 1) := by decide +kernel
theorem dX10_encodeField_121 : decode cX10_encodeField 121 = .ok (.invokevirtual 57, 3) := by decide +kernel
theorem dX10_encodeField_124 : decode cX10_encodeField 124 = .ok (.goto 5, 3) := by decide +kernel
theorem dX10_encodeField_127 : decode cX10_encodeField 127 = .ok (.bipush (-9), 2) := by decide +kernel
theorem dX10_encodeField_129 : decode cX10_encodeField 129 = .ok (.ireturn, 1) := by decide +kernel
theorem dX10_encodeMany_0 : decode cX10_encodeMany 0 = .ok (.aload_n 0, 1) := by decide +kernel
theorem dX10_encodeMany_1 : decode cX10_encodeMany 1 = .ok (.getfield 20, 3) := by decide +kernel
theorem dX10_encodeMany_4 : decode cX10_encodeMany 4 = .ok (.iload_n 1, 1) := by decide +kernel
theorem dX10_encodeMany_5 : decode cX10_encodeMany 5 = .ok (.iadd, 1) := by decide +kernel
theorem dX10_encodeMany_6 : decode cX10_encodeMany 6 = .ok (.aload_n 2, 1) := by decide +kernel
theorem dX10_encodeMany_7 : decode cX10_encodeMany 7 = .ok (.getfield 24, 3) := by decide +kernel
theorem dX10_encodeMany_10 : decode cX10_encodeMany 10 = .ok (.if_icmp .le 5, 3) := by decide +kernel
theorem dX10_encodeMany_13 : decode cX10_encodeMany 13 = .ok (.iconst 5, 1) := by decide +kernel
theorem dX10_encodeMany_14 : decode cX10_encodeMany 14 = .ok (.ireturn, 1) := by decide +kernel
theorem dX10_encodeMany_15 : decode cX10_encodeMany 15 = .ok (.iconst 0, 1) := by decide +kernel
theorem dX10_encodeMany_16 : decode cX10_encodeMany 16 = .ok (.istore_n 3, 1) := by decide +kernel
theorem dX10_encodeMany_17 : decode cX10_encodeMany 17 = .ok (.iload_n 3, 1) := by decide +kernel
theorem dX10_encodeMany_18 : decode cX10_encodeMany 18 = .ok (.iload_n 1, 1) := by decide +kernel
theorem dX10_encodeMany_19 : decode cX10_encodeMany 19 = .ok (.if_icmp .ge 55, 3) := by decide +kernel
theorem dX10_encodeMany_22 : decode cX10_encodeMany 22 = .ok (.aload_n 2, 1) := by decide +kernel
theorem dX10_encodeMany_23 : decode cX10_encodeMany 23 = .ok (.getfield 40, 3) := by decide +kernel
theorem dX10_encodeMany_26 : decode cX10_encodeMany 26 = .ok (.aload_n 0, 1) := by decide +kernel
theorem dX10_encodeMany_27 : decode cX10_encodeMany 27 = .ok (.getfield 20, 3) := by decide +kernel
theorem dX10_encodeMany_30 : decode cX10_encodeMany 30 = .ok (.iaload, 1) := by decide +kernel
theorem dX10_encodeMany_31 : decode cX10_encodeMany 31 = .ok (.istore 4, 2) := by decide +kernel
theorem dX10_encodeMany_33 : decode cX10_encodeMany 33 = .ok (.aload_n 0, 1) := by decide +kernel
theorem dX10_encodeMany_34 : decode cX10_encodeMany 34 = .ok (.dup, 1) := by decide +kernel
theorem dX10_encodeMany_35 : decode cX10_encodeMany 35 = .ok (.getfield 20, 3) := by decide +kernel
theorem dX10_encodeMany_38 : decode cX10_encodeMany 38 = .ok (.iconst 1, 1) := by decide +kernel
theorem dX10_encodeMany_39 : decode cX10_encodeMany 39 = .ok (.iadd, 1) := by decide +kernel
theorem dX10_encodeMany_40 : decode cX10_encodeMany 40 = .ok (.putfield 20, 3) := by decide +kernel
theorem dX10_encodeMany_43 : decode cX10_encodeMany 43 = .ok (.iload 4, 2) := by decide +kernel
theorem dX10_encodeMany_45 : decode cX10_encodeMany 45 = .ok (.ifCond .lt 11, 3) := by decide +kernel
theorem dX10_encodeMany_48 : decode cX10_encodeMany 48 = .ok (.iload 4, 2) := by decide +kernel
theorem dX10_encodeMany_50 : decode cX10_encodeMany 50 = .ok (.sipush 255, 3) := by decide +kernel
theorem dX10_encodeMany_53 : decode cX10_encodeMany 53 = .ok (.if_icmp .le 5, 3) := by decide +kernel
theorem dX10_encodeMany_56 : decode cX10_encodeMany 56 = .ok (.iconst 3, 1) := by decide +kernel
theorem dX10_encodeMany_57 : decode cX10_encodeMany 57 = .ok (.ireturn, 1) := by decide +kernel
theorem dX10_encodeMany_58 : decode cX10_encodeMany 58 = .ok (.aload_n 0, 1) := by decide +kernel
theorem dX10_encodeMany_59 : decode cX10_encodeMany 59 = .ok (.getfield 14, 3) := by decide +kernel
theorem dX10_encodeMany_62 : decode cX10_encodeMany 62 = .ok (.iload 4, 2) := by decide +kernel
theorem dX10_encodeMany_64 : decode cX10_encodeMany 64 = .ok (.i2b, 1) := by decide +kernel
theorem dX10_encodeMany_65 : decode cX10_encodeMany 65 = .ok (.invokevirtual 54, 3) := by decide +kernel
theorem dX10_encodeMany_68 : decode cX10_encodeMany 68 = .ok (.iinc 3 1, 3) := by decide +kernel
theorem dX10_encodeMany_71 : decode cX10_encodeMany 71 = .ok (.goto (-54), 3) := by decide +kernel
theorem dX10_encodeMany_74 : decode cX10_encodeMany 74 = .ok (.bipush (-9), 2) := by decide +kernel
theorem dX10_encodeMany_76 : decode cX10_encodeMany 76 = .ok (.ireturn, 1) := by decide +kernel
theorem dX10_highest_0 : decode cX10_highest 0 = .ok (.aload_n 0, 1) := by decide +kernel
theorem dX10_highest_1 : decode cX10_highest 1 = .ok (.getfield 48, 3) := by decide +kernel
theorem dX10_highest_4 : decode cX10_highest 4 = .ok (.iload_n 1, 1) := by decide +kernel
theorem dX10_highest_5 : decode cX10_highest 5 = .ok (.iaload, 1) := by decide +kernel
theorem dX10_highest_6 : decode cX10_highest 6 = .ok (.tableswitch 36 0 2 #[26, 30, 33], 26) := by decide +kernel
theorem dX10_highest_32 : decode cX10_highest 32 = .ok (.sipush 255, 3) := by decide +kernel
theorem dX10_highest_35 : decode cX10_highest 35 = .ok (.ireturn, 1) := by decide +kernel
theorem dX10_highest_36 : decode cX10_highest 36 = .ok (.ldc 61, 2) := by decide +kernel
theorem dX10_highest_38 : decode cX10_highest 38 = .ok (.ireturn, 1) := by decide +kernel
theorem dX10_highest_39 : decode cX10_highest 39 = .ok (.bipush 9, 2) := by decide +kernel
theorem dX10_highest_41 : decode cX10_highest 41 = .ok (.ireturn, 1) := by decide +kernel
theorem dX10_highest_42 : decode cX10_highest 42 = .ok (.aload_n 0, 1) := by decide +kernel
theorem dX10_highest_43 : decode cX10_highest 43 = .ok (.getfield 62, 3) := by decide +kernel
theorem dX10_highest_46 : decode cX10_highest 46 = .ok (.iload_n 1, 1) := by decide +kernel
theorem dX10_highest_47 : decode cX10_highest 47 = .ok (.iaload, 1) := by decide +kernel
theorem dX10_highest_48 : decode cX10_highest 48 = .ok (.iconst 1, 1) := by decide +kernel
theorem dX10_highest_49 : decode cX10_highest 49 = .ok (.isub, 1) := by decide +kernel
theorem dX10_highest_50 : decode cX10_highest 50 = .ok (.ireturn, 1) := by decide +kernel
theorem dX11_init_0 : decode cX11_init 0 = .ok (.aload_n 0, 1) := by decide +kernel
theorem dX11_init_1 : decode cX11_init 1 = .ok (.invokespecial 3, 3) := by decide +kernel
theorem dX11_init_4 : decode cX11_init 4 = .ok (.aload_n 0, 1) := by decide +kernel
theorem dX11_init_5 : decode cX11_init 5 = .ok (.bipush 6, 2) := by decide +kernel
theorem dX11_init_7 : decode cX11_init 7 = .ok (.anewarray 9, 3) := by decide +kernel
theorem dX11_init_10 : decode cX11_init 10 = .ok (.putfield 11, 3) := by decide +kernel
theorem dX11_init_13 : decode cX11_init 13 = .ok (.aload_n 0, 1) := by decide +kernel
theorem dX11_init_14 : decode cX11_init 14 = .ok (.bipush 6, 2) := by decide +kernel
theorem dX11_init_16 : decode cX11_init 16 = .ok (.anewarray 9, 3) := by decide +kernel
theorem dX11_init_19 : decode cX11_init 19 = .ok (.putfield 15, 3) := by decide +kernel
theorem dX11_init_22 : decode cX11_init 22 = .ok (.aload_n 0, 1) := by decide +kernel
theorem dX11_init_23 : decode cX11_init 23 = .ok (.iconst 4, 1) := by decide +kernel
theorem dX11_init_24 : decode cX11_init 24 = .ok (.anewarray 18, 3) := by decide +kernel
theorem dX11_init_27 : decode cX11_init 27 = .ok (.putfield 20, 3) := by decide +kernel
theorem dX11_init_30 : decode cX11_init 30 = .ok (.aload_n 0, 1) := by decide +kernel
theorem dX11_init_31 : decode cX11_init 31 = .ok (.new 24, 3) := by decide +kernel
theorem dX11_init_34 : decode cX11_init 34 = .ok (.dup, 1) := by decide +kernel
theorem dX11_init_35 : decode cX11_init 35 = .ok (.invokespecial 26, 3) := by decide +kernel
theorem dX11_init_38 : decode cX11_init 38 = .ok (.putfield 27, 3) := by decide +kernel
theorem dX11_init_41 : decode cX11_init 41 = .ok (.aload_n 0, 1) := by decide +kernel
theorem dX11_init_42 : decode cX11_init 42 = .ok (.new 31, 3) := by decide +kernel
theorem dX11_init_45 : decode cX11_init 45 = .ok (.dup, 1) := by decide +kernel
theorem dX11_init_46 : decode cX11_init 46 = .ok (.invokespecial 33, 3) := by decide +kernel
theorem dX11_init_49 : decode cX11_init 49 = .ok (.putfield 34, 3) := by decide +kernel
theorem dX11_init_52 : decode cX11_init 52 = .ok (.aload_n 0, 1) := by decide +kernel
theorem dX11_init_53 : decode cX11_init 53 = .ok (.new 38, 3) := by decide +kernel
theorem dX11_init_56 : decode cX11_init 56 = .ok (.dup, 1) := by decide +kernel
theorem dX11_init_57 : decode cX11_init 57 = .ok (.invokespecial 40, 3) := by decide +kernel
theorem dX11_init_60 : decode cX11_init 60 = .ok (.putfield 41, 3) := by decide +kernel
theorem dX11_init_63 : decode cX11_init 63 = .ok (.aload_n 0, 1) := by decide +kernel
theorem dX11_init_64 : decode cX11_init 64 = .ok (.new 45, 3) := by decide +kernel
theorem dX11_init_67 : decode cX11_init 67 = .ok (.dup, 1) := by decide +kernel
theorem dX11_init_68 : decode cX11_init 68 = .ok (.invokespecial 47, 3) := by decide +kernel
theorem dX11_init_71 : decode cX11_init 71 = .ok (.putfield 48, 3) := by decide +kernel
theorem dX11_init_74 : decode cX11_init 74 = .ok (.aload_n 0, 1) := by decide +kernel
theorem dX11_init_75 : decode cX11_init 75 = .ok (.new 52, 3) := by decide +kernel
theorem dX11_init_78 : decode cX11_init 78 = .ok (.dup, 1) := by decide +kernel
theorem dX11_init_79 : decode cX11_init 79 = .ok (.invokespecial 54, 3) := by decide +kernel
theorem dX11_init_82 : decode cX11_init 82 = .ok (.putfield 55, 3) := by decide +kernel
theorem dX11_init_85 : decode cX11_init 85 = .ok (.aload_n 0, 1) := by decide +kernel
theorem dX11_init_86 : decode cX11_init 86 = .ok (.aload_n 0, 1) := by decide +kernel
theorem dX11_init_87 : decode cX11_init 87 = .ok (.getfield 55, 3) := by decide +kernel
theorem dX11_init_90 : decode cX11_init 90 = .ok (.getfield 59, 3) := by decide +kernel
theorem dX11_init_93 : decode cX11_init 93 = .ok (.putfield 63, 3) := by decide +kernel
theorem dX11_init_96 : decode cX11_init 96 = .ok (.aload_n 0, 1) := by decide +kernel
theorem dX11_init_97 : decode cX11_init 97 = .ok (.bipush 6, 2) := by decide +kernel
theorem dX11_init_99 : decode cX11_init 99 = .ok (.newarray .int, 2) := by decide +kernel
theorem dX11_init_101 : decode cX11_init 101 = .ok (.putfield 64, 3) := by decide +kernel
theorem dX11_init_104 : decode cX11_init 104 = .ok (.aload_n 0, 1) := by decide +kernel
theorem dX11_init_105 : decode cX11_init 105 = .ok (.iconst 0, 1) := by decide +kernel
theorem dX11_init_106 : decode cX11_init 106 = .ok (.putfield 68, 3) := by decide +kernel
theorem dX11_init_109 : decode cX11_init 109 = .ok (.aload_n 0, 1) := by decide +kernel
theorem dX11_init_110 : decode cX11_init 110 = .ok (.iconst 0, 1) := by decide +kernel
theorem dX11_init_111 : decode cX11_init 111 = .ok (.putfield 72, 3) := by decide +kernel
theorem dX11_init_114 : decode cX11_init 114 = .ok (.aload_n 0, 1) := by decide +kernel
theorem dX11_init_115 : decode cX11_init 115 = .ok (.lconst 0, 1) := by decide +kernel
theorem dX11_init_116 : decode cX11_init 116 = .ok (.putfield 75, 3) := by decide +kernel
theorem dX11_init_119 : decode cX11_init 119 = .ok (.aload_n 0, 1) := by decide +kernel
theorem dX11_init_120 : decode cX11_init 120 = .ok (.lconst 1, 1) := by decide +kernel
theorem dX11_init_121 : decode cX11_init 121 = .ok (.putfield 79, 3) := by decide +kernel
theorem dX11_init_124 : decode cX11_init 124 = .ok (.iconst 0, 1) := by decide +kernel
theorem dX11_init_125 : decode cX11_init 125 = .ok (.istore_n 1, 1) := by decide +kernel
theorem dX11_init_126 : decode cX11_init 126 = .ok (.iload_n 1, 1) := by decide +kernel
theorem dX11_init_127 : decode cX11_init 127 = .ok (.bipush 6, 2) := by decide +kernel
theorem dX11_init_129 : decode cX11_init 129 = .ok (.if_icmp .ge 24, 3) := by decide +kernel
theorem dX11_init_132 : decode cX11_init 132 = .ok (.aload_n 0, 1) := by decide +kernel
theorem dX11_init_133 : decode cX11_init 133 = .ok (.getfield 11, 3) := by decide +kernel
theorem dX11_init_136 : decode cX11_init 136 = .ok (.iload_n 1, 1) := by decide +kernel
theorem dX11_init_137 : decode cX11_init 137 = .ok (.new 9, 3) := by decide +kernel
theorem dX11_init_140 : decode cX11_init 140 = .ok (.dup, 1) := by decide +kernel
theorem dX11_init_141 : decode cX11_init 141 = .ok (.bipush 60, 2) := by decide +kernel
theorem dX11_init_143 : decode cX11_init 143 = .ok (.invokespecial 82, 3) := by decide +kernel
theorem dX11_init_146 : decode cX11_init 146 = .ok (.aastore, 1) := by decide +kernel
theorem dX11_init_147 : decode cX11_init 147 = .ok (.iinc 1 1, 3) := by decide +kernel
theorem dX11_init_150 : decode cX11_init 150 = .ok (.goto (-24), 3) := by decide +kernel
theorem dX11_init_153 : decode cX11_init 153 = .ok (.iconst 0, 1) := by decide +kernel
theorem dX11_init_154 : decode cX11_init 154 = .ok (.istore_n 1, 1) := by decide +kernel
theorem dX11_init_155 : decode cX11_init 155 = .ok (.iload_n 1, 1) := by decide +kernel
theorem dX11_init_156 : decode cX11_init 156 = .ok (.bipush 6, 2) := by decide +kernel
theorem dX11_init_158 : decode cX11_init 158 = .ok (.if_icmp .ge 24, 3) := by decide +kernel
theorem dX11_init_161 : decode cX11_init 161 = .ok (.aload_n 0, 1) := by decide +kernel
theorem dX11_init_162 : decode cX11_init 162 = .ok (.getfield 15, 3) := by decide +kernel
theorem dX11_init_165 : decode cX11_init 165 = .ok (.iload_n 1, 1) := by decide +kernel
theorem dX11_init_166 : decode cX11_init 166 = .ok (.new 9, 3) := by decide +kernel
theorem dX11_init_169 : decode cX11_init 169 = .ok (.dup, 1) := by decide +kernel
theorem dX11_init_170 : decode cX11_init 170 = .ok (.bipush 60, 2) := by decide +kernel
theorem dX11_init_172 : decode cX11_init 172 = .ok (.invokespecial 82, 3) := by decide +kernel
theorem dX11_init_175 : decode cX11_init 175 = .ok (.aastore, 1) := by decide +kernel
theorem dX11_init_176 : decode cX11_init 176 = .ok (.iinc 1 1, 3) := by decide +kernel
theorem dX11_init_179 : decode cX11_init 179 = .ok (.goto (-24), 3) := by decide +kernel
theorem dX11_init_182 : decode cX11_init 182 = .ok (.iconst 0, 1) := by decide +kernel
theorem dX11_init_183 : decode cX11_init 183 = .ok (.istore_n 1, 1) := by decide +kernel
theorem dX11_init_184 : decode cX11_init 184 = .ok (.iload_n 1, 1) := by decide +kernel
theorem dX11_init_185 : decode cX11_init 185 = .ok (.iconst 4, 1) := by decide +kernel
theorem dX11_init_186 : decode cX11_init 186 = .ok (.if_icmp .ge 22, 3) := by decide +kernel
theorem dX11_init_189 : decode cX11_init 189 = .ok (.aload_n 0, 1) := by decide +kernel
theorem dX11_init_190 : decode cX11_init 190 = .ok (.getfield 20, 3) := by decide +kernel
theorem dX11_init_193 : decode cX11_init 193 = .ok (.iload_n 1, 1) := by decide +kernel
theorem dX11_init_194 : decode cX11_init 194 = .ok (.new 18, 3) := by decide +kernel
theorem dX11_init_197 : decode cX11_init 197 = .ok (.dup, 1) := by decide +kernel
theorem dX11_init_198 : decode cX11_init 198 = .ok (.invokespecial 85, 3) := by decide +kernel
theorem dX11_init_201 : decode cX11_init 201 = .ok (.aastore, 1) := by decide +kernel
theorem dX11_init_202 : decode cX11_init 202 = .ok (.iinc 1 1, 3) := by decide +kernel
theorem dX11_init_205 : decode cX11_init 205 = .ok (.goto (-21), 3) := by decide +kernel
theorem dX11_init_208 : decode cX11_init 208 = .ok (.return_, 1) := by decide +kernel
theorem dX11_row_0 : decode cX11_row 0 = .ok (.iload_n 1, 1) := by decide +kernel
theorem dX11_row_1 : decode cX11_row 1 = .ok (.bipush 6, 2) := by decide +kernel
theorem dX11_row_3 : decode cX11_row 3 = .ok (.invokestatic 86, 3) := by decide +kernel
theorem dX11_row_6 : decode cX11_row 6 = .ok (.ifCond .eq 9, 3) := by decide +kernel
theorem dX11_row_9 : decode cX11_row 9 = .ok (.iload_n 2, 1) := by decide +kernel
theorem dX11_row_10 : decode cX11_row 10 = .ok (.bipush 60, 2) := by decide +kernel
theorem dX11_row_12 : decode cX11_row 12 = .ok (.if_icmp .le 5, 3) := by decide +kernel
theorem dX11_row_15 : decode cX11_row 15 = .ok (.iconst (-1), 1) := by decide +kernel
theorem dX11_row_16 : decode cX11_row 16 = .ok (.ireturn, 1) := by decide +kernel
theorem dX11_row_17 : decode cX11_row 17 = .ok (.iload_n 2, 1) := by decide +kernel
theorem dX11_row_18 : decode cX11_row 18 = .ok (.ifCond .ge 9, 3) := by decide +kernel
theorem dX11_row_21 : decode cX11_row 21 = .ok (.aload_n 0, 1) := by decide +kernel
theorem dX11_row_22 : decode cX11_row 22 = .ok (.iconst 5, 1) := by decide +kernel
theorem dX11_row_23 : decode cX11_row 23 = .ok (.invokevirtual 90, 3) := by decide +kernel
theorem dX11_row_26 : decode cX11_row 26 = .ok (.ireturn, 1) := by decide +kernel
theorem dX11_row_27 : decode cX11_row 27 = .ok (.aload_n 0, 1) := by decide +kernel
theorem dX11_row_28 : decode cX11_row 28 = .ok (.getfield 11, 3) := by decide +kernel
theorem dX11_row_31 : decode cX11_row 31 = .ok (.iload_n 1, 1) := by decide +kernel
theorem dX11_row_32 : decode cX11_row 32 = .ok (.aaload, 1) := by decide +kernel
theorem dX11_row_33 : decode cX11_row 33 = .ok (.iload_n 2, 1) := by decide +kernel
theorem dX11_row_34 : decode cX11_row 34 = .ok (.iconst 0, 1) := by decide +kernel
theorem dX11_row_35 : decode cX11_row 35 = .ok (.invokevirtual 94, 3) := by decide +kernel
theorem dX11_row_38 : decode cX11_row 38 = .ok (.iload_n 2, 1) := by decide +kernel
theorem dX11_row_39 : decode cX11_row 39 = .ok (.ireturn, 1) := by decide +kernel
theorem dX11_lay_0 : decode cX11_lay 0 = .ok (.aload_n 0, 1) := by decide +kernel
theorem dX11_lay_1 : decode cX11_lay 1 = .ok (.iload_n 1, 1) := by decide +kernel
theorem dX11_lay_2 : decode cX11_lay 2 = .ok (.iload_n 2, 1) := by decide +kernel
theorem dX11_lay_3 : decode cX11_lay 3 = .ok (.invokevirtual 98, 3) := by decide +kernel
theorem dX11_lay_6 : decode cX11_lay 6 = .ok (.istore 4, 2) := by decide +kernel
theorem dX11_lay_8 : decode cX11_lay 8 = .ok (.iload 4, 2) := by decide +kernel
theorem dX11_lay_10 : decode cX11_lay 10 = .ok (.bipush (-9), 2) := by decide +kernel
theorem dX11_lay_12 : decode cX11_lay 12 = .ok (.if_icmp .eq 6, 3) := by decide +kernel
theorem dX11_lay_15 : decode cX11_lay 15 = .ok (.iload 4, 2) := by decide +kernel
theorem dX11_lay_17 : decode cX11_lay 17 = .ok (.ireturn, 1) := by decide +kernel
theorem dX11_lay_18 : decode cX11_lay 18 = .ok (.aload_n 0, 1) := by decide +kernel
theorem dX11_lay_19 : decode cX11_lay 19 = .ok (.aload_n 0, 1) := by decide +kernel
theorem dX11_lay_20 : decode cX11_lay 20 = .ok (.getfield 11, 3) := by decide +kernel
theorem dX11_lay_23 : decode cX11_lay 23 = .ok (.iload_n 1, 1) := by decide +kernel
theorem dX11_lay_24 : decode cX11_lay 24 = .ok (.aaload, 1) := by decide +kernel
theorem dX11_lay_25 : decode cX11_lay 25 = .ok (.getfield 102, 3) := by decide +kernel
theorem dX11_lay_28 : decode cX11_lay 28 = .ok (.iload_n 2, 1) := by decide +kernel
theorem dX11_lay_29 : decode cX11_lay 29 = .ok (.iaload, 1) := by decide +kernel
theorem dX11_lay_30 : decode cX11_lay 30 = .ok (.putfield 72, 3) := by decide +kernel
theorem dX11_lay_33 : decode cX11_lay 33 = .ok (.aload_n 0, 1) := by decide +kernel
theorem dX11_lay_34 : decode cX11_lay 34 = .ok (.getfield 11, 3) := by decide +kernel
theorem dX11_lay_37 : decode cX11_lay 37 = .ok (.iload_n 1, 1) := by decide +kernel
theorem dX11_lay_38 : decode cX11_lay 38 = .ok (.aaload, 1) := by decide +kernel
theorem dX11_lay_39 : decode cX11_lay 39 = .ok (.getfield 102, 3) := by decide +kernel
theorem dX11_lay_42 : decode cX11_lay 42 = .ok (.iload_n 2, 1) := by decide +kernel
theorem dX11_lay_43 : decode cX11_lay 43 = .ok (.iload_n 3, 1) := by decide +kernel
theorem dX11_lay_44 : decode cX11_lay 44 = .ok (.iastore, 1) := by decide +kernel
theorem dX11_lay_45 : decode cX11_lay 45 = .ok (.iconst 1, 1) := by decide +kernel
theorem dX11_lay_46 : decode cX11_lay 46 = .ok (.ireturn, 1) := by decide +kernel
theorem dX11_at_0 : decode cX11_at 0 = .ok (.aload_n 0, 1) := by decide +kernel
theorem dX11_at_1 : decode cX11_at 1 = .ok (.iload_n 1, 1) := by decide +kernel
theorem dX11_at_2 : decode cX11_at 2 = .ok (.iload_n 2, 1) := by decide +kernel
theorem dX11_at_3 : decode cX11_at 3 = .ok (.invokevirtual 98, 3) := by decide +kernel
theorem dX11_at_6 : decode cX11_at 6 = .ok (.istore_n 3, 1) := by decide +kernel
theorem dX11_at_7 : decode cX11_at 7 = .ok (.iload_n 3, 1) := by decide +kernel
theorem dX11_at_8 : decode cX11_at 8 = .ok (.bipush (-9), 2) := by decide +kernel
theorem dX11_at_10 : decode cX11_at 10 = .ok (.if_icmp .eq 5, 3) := by decide +kernel
theorem dX11_at_13 : decode cX11_at 13 = .ok (.iload_n 3, 1) := by decide +kernel
theorem dX11_at_14 : decode cX11_at 14 = .ok (.ireturn, 1) := by decide +kernel
theorem dX11_at_15 : decode cX11_at 15 = .ok (.aload_n 0, 1) := by decide +kernel
theorem dX11_at_16 : decode cX11_at 16 = .ok (.aload_n 0, 1) := by decide +kernel
theorem dX11_at_17 : decode cX11_at 17 = .ok (.getfield 11, 3) := by decide +kernel
theorem dX11_at_20 : decode cX11_at 20 = .ok (.iload_n 1, 1) := by decide +kernel
theorem dX11_at_21 : decode cX11_at 21 = .ok (.aaload, 1) := by decide +kernel
theorem dX11_at_22 : decode cX11_at 22 = .ok (.getfield 102, 3) := by decide +kernel
theorem dX11_at_25 : decode cX11_at 25 = .ok (.iload_n 2, 1) := by decide +kernel
theorem dX11_at_26 : decode cX11_at 26 = .ok (.iaload, 1) := by decide +kernel
theorem dX11_at_27 : decode cX11_at 27 = .ok (.putfield 72, 3) := by decide +kernel
theorem dX11_at_30 : decode cX11_at 30 = .ok (.iconst 1, 1) := by decide +kernel
theorem dX11_at_31 : decode cX11_at 31 = .ok (.ireturn, 1) := by decide +kernel
theorem dX11_tear_0 : decode cX11_tear 0 = .ok (.iload_n 1, 1) := by decide +kernel
theorem dX11_tear_1 : decode cX11_tear 1 = .ok (.bipush 6, 2) := by decide +kernel
theorem dX11_tear_3 : decode cX11_tear 3 = .ok (.invokestatic 86, 3) := by decide +kernel
theorem dX11_tear_6 : decode cX11_tear 6 = .ok (.ifCond .ne 5, 3) := by decide +kernel
theorem dX11_tear_9 : decode cX11_tear 9 = .ok (.iconst (-1), 1) := by decide +kernel
theorem dX11_tear_10 : decode cX11_tear 10 = .ok (.ireturn, 1) := by decide +kernel
theorem dX11_tear_11 : decode cX11_tear 11 = .ok (.aload_n 0, 1) := by decide +kernel
theorem dX11_tear_12 : decode cX11_tear 12 = .ok (.getfield 11, 3) := by decide +kernel
theorem dX11_tear_15 : decode cX11_tear 15 = .ok (.iload_n 1, 1) := by decide +kernel
theorem dX11_tear_16 : decode cX11_tear 16 = .ok (.aaload, 1) := by decide +kernel
theorem dX11_tear_17 : decode cX11_tear 17 = .ok (.getfield 105, 3) := by decide +kernel
theorem dX11_tear_20 : decode cX11_tear 20 = .ok (.ifCond .ne 9, 3) := by decide +kernel
theorem dX11_tear_23 : decode cX11_tear 23 = .ok (.aload_n 0, 1) := by decide +kernel
theorem dX11_tear_24 : decode cX11_tear 24 = .ok (.iconst 1, 1) := by decide +kernel
theorem dX11_tear_25 : decode cX11_tear 25 = .ok (.invokevirtual 90, 3) := by decide +kernel
theorem dX11_tear_28 : decode cX11_tear 28 = .ok (.ireturn, 1) := by decide +kernel
theorem dX11_tear_29 : decode cX11_tear 29 = .ok (.aload_n 0, 1) := by decide +kernel
theorem dX11_tear_30 : decode cX11_tear 30 = .ok (.getfield 11, 3) := by decide +kernel
theorem dX11_tear_33 : decode cX11_tear 33 = .ok (.iload_n 1, 1) := by decide +kernel
theorem dX11_tear_34 : decode cX11_tear 34 = .ok (.aaload, 1) := by decide +kernel
theorem dX11_tear_35 : decode cX11_tear 35 = .ok (.iconst 0, 1) := by decide +kernel
theorem dX11_tear_36 : decode cX11_tear 36 = .ok (.putfield 105, 3) := by decide +kernel
theorem dX11_tear_39 : decode cX11_tear 39 = .ok (.iconst 1, 1) := by decide +kernel
theorem dX11_tear_40 : decode cX11_tear 40 = .ok (.ireturn, 1) := by decide +kernel
theorem dX11_copy_0 : decode cX11_copy 0 = .ok (.iload_n 1, 1) := by decide +kernel
theorem dX11_copy_1 : decode cX11_copy 1 = .ok (.bipush 6, 2) := by decide +kernel
theorem dX11_copy_3 : decode cX11_copy 3 = .ok (.invokestatic 86, 3) := by decide +kernel
theorem dX11_copy_6 : decode cX11_copy 6 = .ok (.ifCond .eq 12, 3) := by decide +kernel
theorem dX11_copy_9 : decode cX11_copy 9 = .ok (.iload_n 3, 1) := by decide +kernel
theorem dX11_copy_10 : decode cX11_copy 10 = .ok (.bipush 6, 2) := by decide +kernel
theorem dX11_copy_12 : decode cX11_copy 12 = .ok (.invokestatic 86, 3) := by decide +kernel
theorem dX11_copy_15 : decode cX11_copy 15 = .ok (.ifCond .ne 5, 3) := by decide +kernel
theorem dX11_copy_18 : decode cX11_copy 18 = .ok (.iconst (-1), 1) := by decide +kernel
theorem dX11_copy_19 : decode cX11_copy 19 = .ok (.ireturn, 1) := by decide +kernel
theorem dX11_copy_20 : decode cX11_copy 20 = .ok (.iload 5, 2) := by decide +kernel
theorem dX11_copy_22 : decode cX11_copy 22 = .ok (.ifCond .ge 9, 3) := by decide +kernel
theorem dX11_copy_25 : decode cX11_copy 25 = .ok (.aload_n 0, 1) := by decide +kernel
theorem dX11_copy_26 : decode cX11_copy 26 = .ok (.iconst 5, 1) := by decide +kernel
theorem dX11_copy_27 : decode cX11_copy 27 = .ok (.invokevirtual 90, 3) := by decide +kernel
theorem dX11_copy_30 : decode cX11_copy 30 = .ok (.ireturn, 1) := by decide +kernel
theorem dX11_copy_31 : decode cX11_copy 31 = .ok (.aload_n 0, 1) := by decide +kernel
theorem dX11_copy_32 : decode cX11_copy 32 = .ok (.getfield 11, 3) := by decide +kernel
theorem dX11_copy_35 : decode cX11_copy 35 = .ok (.iload_n 1, 1) := by decide +kernel
theorem dX11_copy_36 : decode cX11_copy 36 = .ok (.aaload, 1) := by decide +kernel
theorem dX11_copy_37 : decode cX11_copy 37 = .ok (.getfield 105, 3) := by decide +kernel
theorem dX11_copy_40 : decode cX11_copy 40 = .ok (.ifCond .eq 15, 3) := by decide +kernel
theorem dX11_copy_43 : decode cX11_copy 43 = .ok (.aload_n 0, 1) := by decide +kernel
theorem dX11_copy_44 : decode cX11_copy 44 = .ok (.getfield 11, 3) := by decide +kernel
theorem dX11_copy_47 : decode cX11_copy 47 = .ok (.iload_n 3, 1) := by decide +kernel
theorem dX11_copy_48 : decode cX11_copy 48 = .ok (.aaload, 1) := by decide +kernel
theorem dX11_copy_49 : decode cX11_copy 49 = .ok (.getfield 105, 3) := by decide +kernel
theorem dX11_copy_52 : decode cX11_copy 52 = .ok (.ifCond .ne 9, 3) := by decide +kernel
theorem dX11_copy_55 : decode cX11_copy 55 = .ok (.aload_n 0, 1) := by decide +kernel
theorem dX11_copy_56 : decode cX11_copy 56 = .ok (.iconst 1, 1) := by decide +kernel
theorem dX11_copy_57 : decode cX11_copy 57 = .ok (.invokevirtual 90, 3) := by decide +kernel
theorem dX11_copy_60 : decode cX11_copy 60 = .ok (.ireturn, 1) := by decide +kernel
theorem dX11_copy_61 : decode cX11_copy 61 = .ok (.aload_n 0, 1) := by decide +kernel
theorem dX11_copy_62 : decode cX11_copy 62 = .ok (.getfield 11, 3) := by decide +kernel
theorem dX11_copy_65 : decode cX11_copy 65 = .ok (.iload_n 1, 1) := by decide +kernel
theorem dX11_copy_66 : decode cX11_copy 66 = .ok (.aaload, 1) := by decide +kernel
theorem dX11_copy_67 : decode cX11_copy 67 = .ok (.iload_n 2, 1) := by decide +kernel
theorem dX11_copy_68 : decode cX11_copy 68 = .ok (.iload 5, 2) := by decide +kernel
theorem dX11_copy_70 : decode cX11_copy 70 = .ok (.invokevirtual 109, 3) := by decide +kernel
theorem dX11_copy_73 : decode cX11_copy 73 = .ok (.ifCond .eq 19, 3) := by decide +kernel
theorem dX11_copy_76 : decode cX11_copy 76 = .ok (.aload_n 0, 1) := by decide +kernel
theorem dX11_copy_77 : decode cX11_copy 77 = .ok (.getfield 11, 3) := by decide +kernel
theorem dX11_copy_80 : decode cX11_copy 80 = .ok (.iload_n 3, 1) := by decide +kernel
theorem dX11_copy_81 : decode cX11_copy 81 = .ok (.aaload, 1) := by decide +kernel
theorem dX11_copy_82 : decode cX11_copy 82 = .ok (.iload 4, 2) := by decide +kernel
theorem dX11_copy_84 : decode cX11_copy 84 = .ok (.iload 5, 2) := by decide +kernel
theorem dX11_copy_86 : decode cX11_copy 86 = .ok (.invokevirtual 109, 3) := by decide +kernel
theorem dX11_copy_89 : decode cX11_copy 89 = .ok (.ifCond .ne 9, 3) := by decide +kernel
theorem dX11_copy_92 : decode cX11_copy 92 = .ok (.aload_n 0, 1) := by decide +kernel
theorem dX11_copy_93 : decode cX11_copy 93 = .ok (.iconst 2, 1) := by decide +kernel
theorem dX11_copy_94 : decode cX11_copy 94 = .ok (.invokevirtual 90, 3) := by decide +kernel
theorem dX11_copy_97 : decode cX11_copy 97 = .ok (.ireturn, 1) := by decide +kernel
theorem dX11_copy_98 : decode cX11_copy 98 = .ok (.aload_n 0, 1) := by decide +kernel
theorem dX11_copy_99 : decode cX11_copy 99 = .ok (.getfield 11, 3) := by decide +kernel
theorem dX11_copy_102 : decode cX11_copy 102 = .ok (.iload_n 1, 1) := by decide +kernel
theorem dX11_copy_103 : decode cX11_copy 103 = .ok (.aaload, 1) := by decide +kernel
theorem dX11_copy_104 : decode cX11_copy 104 = .ok (.getfield 102, 3) := by decide +kernel
theorem dX11_copy_107 : decode cX11_copy 107 = .ok (.iload_n 2, 1) := by decide +kernel
theorem dX11_copy_108 : decode cX11_copy 108 = .ok (.aload_n 0, 1) := by decide +kernel
theorem dX11_copy_109 : decode cX11_copy 109 = .ok (.getfield 11, 3) := by decide +kernel
theorem dX11_copy_112 : decode cX11_copy 112 = .ok (.iload_n 3, 1) := by decide +kernel
theorem dX11_copy_113 : decode cX11_copy 113 = .ok (.aaload, 1) := by decide +kernel
theorem dX11_copy_114 : decode cX11_copy 114 = .ok (.getfield 102, 3) := by decide +kernel
theorem dX11_copy_117 : decode cX11_copy 117 = .ok (.iload 4, 2) := by decide +kernel
theorem dX11_copy_119 : decode cX11_copy 119 = .ok (.iload 5, 2) := by decide +kernel
theorem dX11_copy_121 : decode cX11_copy 121 = .ok (.invokestatic 112, 3) := by decide +kernel
theorem dX11_copy_124 : decode cX11_copy 124 = .ok (.iconst 1, 1) := by decide +kernel
theorem dX11_copy_125 : decode cX11_copy 125 = .ok (.ireturn, 1) := by decide +kernel
theorem dX11_text_0 : decode cX11_text 0 = .ok (.iload_n 1, 1) := by decide +kernel
theorem dX11_text_1 : decode cX11_text 1 = .ok (.bipush 6, 2) := by decide +kernel
theorem dX11_text_3 : decode cX11_text 3 = .ok (.invokestatic 86, 3) := by decide +kernel
theorem dX11_text_6 : decode cX11_text 6 = .ok (.ifCond .eq 9, 3) := by decide +kernel
theorem dX11_text_9 : decode cX11_text 9 = .ok (.iload_n 2, 1) := by decide +kernel
theorem dX11_text_10 : decode cX11_text 10 = .ok (.bipush 60, 2) := by decide +kernel
theorem dX11_text_12 : decode cX11_text 12 = .ok (.if_icmp .le 5, 3) := by decide +kernel
theorem dX11_text_15 : decode cX11_text 15 = .ok (.iconst (-1), 1) := by decide +kernel
theorem dX11_text_16 : decode cX11_text 16 = .ok (.ireturn, 1) := by decide +kernel
theorem dX11_text_17 : decode cX11_text 17 = .ok (.iload_n 2, 1) := by decide +kernel
theorem dX11_text_18 : decode cX11_text 18 = .ok (.ifCond .ge 9, 3) := by decide +kernel
theorem dX11_text_21 : decode cX11_text 21 = .ok (.aload_n 0, 1) := by decide +kernel
theorem dX11_text_22 : decode cX11_text 22 = .ok (.iconst 5, 1) := by decide +kernel
theorem dX11_text_23 : decode cX11_text 23 = .ok (.invokevirtual 90, 3) := by decide +kernel
theorem dX11_text_26 : decode cX11_text 26 = .ok (.ireturn, 1) := by decide +kernel
theorem dX11_text_27 : decode cX11_text 27 = .ok (.aload_n 0, 1) := by decide +kernel
theorem dX11_text_28 : decode cX11_text 28 = .ok (.getfield 15, 3) := by decide +kernel
theorem dX11_text_31 : decode cX11_text 31 = .ok (.iload_n 1, 1) := by decide +kernel
theorem dX11_text_32 : decode cX11_text 32 = .ok (.aaload, 1) := by decide +kernel
theorem dX11_text_33 : decode cX11_text 33 = .ok (.iload_n 2, 1) := by decide +kernel
theorem dX11_text_34 : decode cX11_text 34 = .ok (.bipush 32, 2) := by decide +kernel
theorem dX11_text_36 : decode cX11_text 36 = .ok (.invokevirtual 94, 3) := by decide +kernel
theorem dX11_text_39 : decode cX11_text 39 = .ok (.iload_n 2, 1) := by decide +kernel
theorem dX11_text_40 : decode cX11_text 40 = .ok (.ireturn, 1) := by decide +kernel
theorem dX11_put_0 : decode cX11_put 0 = .ok (.iload_n 1, 1) := by decide +kernel
theorem dX11_put_1 : decode cX11_put 1 = .ok (.bipush 6, 2) := by decide +kernel
theorem dX11_put_3 : decode cX11_put 3 = .ok (.invokestatic 86, 3) := by decide +kernel
theorem dX11_put_6 : decode cX11_put 6 = .ok (.ifCond .ne 5, 3) := by decide +kernel
theorem dX11_put_9 : decode cX11_put 9 = .ok (.iconst (-1), 1) := by decide +kernel
theorem dX11_put_10 : decode cX11_put 10 = .ok (.ireturn, 1) := by decide +kernel
theorem dX11_put_11 : decode cX11_put 11 = .ok (.aload_n 0, 1) := by decide +kernel
theorem dX11_put_12 : decode cX11_put 12 = .ok (.getfield 15, 3) := by decide +kernel
theorem dX11_put_15 : decode cX11_put 15 = .ok (.iload_n 1, 1) := by decide +kernel
theorem dX11_put_16 : decode cX11_put 16 = .ok (.aaload, 1) := by decide +kernel
theorem dX11_put_17 : decode cX11_put 17 = .ok (.getfield 105, 3) := by decide +kernel
theorem dX11_put_20 : decode cX11_put 20 = .ok (.ifCond .ne 9, 3) := by decide +kernel
theorem dX11_put_23 : decode cX11_put 23 = .ok (.aload_n 0, 1) := by decide +kernel
theorem dX11_put_24 : decode cX11_put 24 = .ok (.iconst 1, 1) := by decide +kernel
theorem dX11_put_25 : decode cX11_put 25 = .ok (.invokevirtual 90, 3) := by decide +kernel
theorem dX11_put_28 : decode cX11_put 28 = .ok (.ireturn, 1) := by decide +kernel
theorem dX11_put_29 : decode cX11_put 29 = .ok (.iload_n 2, 1) := by decide +kernel
theorem dX11_put_30 : decode cX11_put 30 = .ok (.aload_n 0, 1) := by decide +kernel
theorem dX11_put_31 : decode cX11_put 31 = .ok (.getfield 15, 3) := by decide +kernel
theorem dX11_put_34 : decode cX11_put 34 = .ok (.iload_n 1, 1) := by decide +kernel
theorem dX11_put_35 : decode cX11_put 35 = .ok (.aaload, 1) := by decide +kernel
theorem dX11_put_36 : decode cX11_put 36 = .ok (.getfield 118, 3) := by decide +kernel
theorem dX11_put_39 : decode cX11_put 39 = .ok (.invokestatic 86, 3) := by decide +kernel
theorem dX11_put_42 : decode cX11_put 42 = .ok (.ifCond .ne 9, 3) := by decide +kernel
theorem dX11_put_45 : decode cX11_put 45 = .ok (.aload_n 0, 1) := by decide +kernel
theorem dX11_put_46 : decode cX11_put 46 = .ok (.iconst 2, 1) := by decide +kernel
theorem dX11_put_47 : decode cX11_put 47 = .ok (.invokevirtual 90, 3) := by decide +kernel
theorem dX11_put_50 : decode cX11_put 50 = .ok (.ireturn, 1) := by decide +kernel
theorem dX11_put_51 : decode cX11_put 51 = .ok (.aload_n 0, 1) := by decide +kernel
theorem dX11_put_52 : decode cX11_put 52 = .ok (.getfield 15, 3) := by decide +kernel
theorem dX11_put_55 : decode cX11_put 55 = .ok (.iload_n 1, 1) := by decide +kernel
theorem dX11_put_56 : decode cX11_put 56 = .ok (.aaload, 1) := by decide +kernel
theorem dX11_put_57 : decode cX11_put 57 = .ok (.getfield 102, 3) := by decide +kernel
theorem dX11_put_60 : decode cX11_put 60 = .ok (.iload_n 2, 1) := by decide +kernel
theorem dX11_put_61 : decode cX11_put 61 = .ok (.iaload, 1) := by decide +kernel
theorem dX11_put_62 : decode cX11_put 62 = .ok (.istore 4, 2) := by decide +kernel
theorem dX11_put_64 : decode cX11_put 64 = .ok (.aload_n 0, 1) := by decide +kernel
theorem dX11_put_65 : decode cX11_put 65 = .ok (.getfield 15, 3) := by decide +kernel
theorem dX11_put_68 : decode cX11_put 68 = .ok (.iload_n 1, 1) := by decide +kernel
theorem dX11_put_69 : decode cX11_put 69 = .ok (.aaload, 1) := by decide +kernel
theorem dX11_put_70 : decode cX11_put 70 = .ok (.getfield 102, 3) := by decide +kernel
theorem dX11_put_73 : decode cX11_put 73 = .ok (.iload_n 2, 1) := by decide +kernel
theorem dX11_put_74 : decode cX11_put 74 = .ok (.iload_n 3, 1) := by decide +kernel
theorem dX11_put_75 : decode cX11_put 75 = .ok (.i2b, 1) := by decide +kernel
theorem dX11_put_76 : decode cX11_put 76 = .ok (.iastore, 1) := by decide +kernel
theorem dX11_put_77 : decode cX11_put 77 = .ok (.iload 4, 2) := by decide +kernel
theorem dX11_put_79 : decode cX11_put 79 = .ok (.sipush 1000, 3) := by decide +kernel
theorem dX11_put_82 : decode cX11_put 82 = .ok (.iadd, 1) := by decide +kernel
theorem dX11_put_83 : decode cX11_put 83 = .ok (.ireturn, 1) := by decide +kernel
theorem dX11_size_0 : decode cX11_size 0 = .ok (.iload_n 1, 1) := by decide +kernel
theorem dX11_size_1 : decode cX11_size 1 = .ok (.bipush 6, 2) := by decide +kernel
theorem dX11_size_3 : decode cX11_size 3 = .ok (.invokestatic 86, 3) := by decide +kernel
theorem dX11_size_6 : decode cX11_size 6 = .ok (.ifCond .ne 5, 3) := by decide +kernel
theorem dX11_size_9 : decode cX11_size 9 = .ok (.iconst (-1), 1) := by decide +kernel
theorem dX11_size_10 : decode cX11_size 10 = .ok (.ireturn, 1) := by decide +kernel
theorem dX11_size_11 : decode cX11_size 11 = .ok (.aload_n 0, 1) := by decide +kernel
theorem dX11_size_12 : decode cX11_size 12 = .ok (.getfield 15, 3) := by decide +kernel
theorem dX11_size_15 : decode cX11_size 15 = .ok (.iload_n 1, 1) := by decide +kernel
theorem dX11_size_16 : decode cX11_size 16 = .ok (.aaload, 1) := by decide +kernel
theorem dX11_size_17 : decode cX11_size 17 = .ok (.getfield 105, 3) := by decide +kernel
theorem dX11_size_20 : decode cX11_size 20 = .ok (.ifCond .eq 15, 3) := by decide +kernel
theorem dX11_size_23 : decode cX11_size 23 = .ok (.aload_n 0, 1) := by decide +kernel
theorem dX11_size_24 : decode cX11_size 24 = .ok (.getfield 15, 3) := by decide +kernel
theorem dX11_size_27 : decode cX11_size 27 = .ok (.iload_n 1, 1) := by decide +kernel
theorem dX11_size_28 : decode cX11_size 28 = .ok (.aaload, 1) := by decide +kernel
theorem dX11_size_29 : decode cX11_size 29 = .ok (.getfield 118, 3) := by decide +kernel
theorem dX11_size_32 : decode cX11_size 32 = .ok (.goto 8, 3) := by decide +kernel
theorem dX11_size_35 : decode cX11_size 35 = .ok (.aload_n 0, 1) := by decide +kernel
theorem dX11_size_36 : decode cX11_size 36 = .ok (.iconst 1, 1) := by decide +kernel
theorem dX11_size_37 : decode cX11_size 37 = .ok (.invokevirtual 90, 3) := by decide +kernel
theorem dX11_size_40 : decode cX11_size 40 = .ok (.ireturn, 1) := by decide +kernel
theorem dX11_fault_0 : decode cX11_fault 0 = .ok (.iload_n 1, 1) := by decide +kernel
theorem dX11_fault_1 : decode cX11_fault 1 = .ok (.bipush 6, 2) := by decide +kernel
theorem dX11_fault_3 : decode cX11_fault 3 = .ok (.invokestatic 86, 3) := by decide +kernel
theorem dX11_fault_6 : decode cX11_fault 6 = .ok (.ifCond .ne 5, 3) := by decide +kernel
theorem dX11_fault_9 : decode cX11_fault 9 = .ok (.iconst (-1), 1) := by decide +kernel
theorem dX11_fault_10 : decode cX11_fault 10 = .ok (.ireturn, 1) := by decide +kernel
theorem dX11_fault_11 : decode cX11_fault 11 = .ok (.aload_n 0, 1) := by decide +kernel
theorem dX11_fault_12 : decode cX11_fault 12 = .ok (.getfield 15, 3) := by decide +kernel
theorem dX11_fault_15 : decode cX11_fault 15 = .ok (.iload_n 1, 1) := by decide +kernel
theorem dX11_fault_16 : decode cX11_fault 16 = .ok (.aaload, 1) := by decide +kernel
theorem dX11_fault_17 : decode cX11_fault 17 = .ok (.getfield 105, 3) := by decide +kernel
theorem dX11_fault_20 : decode cX11_fault 20 = .ok (.ifCond .eq 19, 3) := by decide +kernel
theorem dX11_fault_23 : decode cX11_fault 23 = .ok (.aload_n 0, 1) := by decide +kernel
theorem dX11_fault_24 : decode cX11_fault 24 = .ok (.getfield 27, 3) := by decide +kernel
theorem dX11_fault_27 : decode cX11_fault 27 = .ok (.aload_n 0, 1) := by decide +kernel
theorem dX11_fault_28 : decode cX11_fault 28 = .ok (.getfield 15, 3) := by decide +kernel
theorem dX11_fault_31 : decode cX11_fault 31 = .ok (.iload_n 1, 1) := by decide +kernel
theorem dX11_fault_32 : decode cX11_fault 32 = .ok (.aaload, 1) := by decide +kernel
theorem dX11_fault_33 : decode cX11_fault 33 = .ok (.invokevirtual 121, 3) := by decide +kernel
theorem dX11_fault_36 : decode cX11_fault 36 = .ok (.goto 8, 3) := by decide +kernel
theorem dX11_fault_39 : decode cX11_fault 39 = .ok (.aload_n 0, 1) := by decide +kernel
theorem dX11_fault_40 : decode cX11_fault 40 = .ok (.iconst 1, 1) := by decide +kernel
theorem dX11_fault_41 : decode cX11_fault 41 = .ok (.invokevirtual 90, 3) := by decide +kernel
theorem dX11_fault_44 : decode cX11_fault 44 = .ok (.ireturn, 1) := by decide +kernel
theorem dX11_shape_0 : decode cX11_shape 0 = .ok (.iload_n 1, 1) := by decide +kernel
theorem dX11_shape_1 : decode cX11_shape 1 = .ok (.iconst 4, 1) := by decide +kernel
theorem dX11_shape_2 : decode cX11_shape 2 = .ok (.invokestatic 86, 3) := by decide +kernel
theorem dX11_shape_5 : decode cX11_shape 5 = .ok (.ifCond .eq 12, 3) := by decide +kernel
theorem dX11_shape_8 : decode cX11_shape 8 = .ok (.iload_n 2, 1) := by decide +kernel
theorem dX11_shape_9 : decode cX11_shape 9 = .ok (.bipush 6, 2) := by decide +kernel
theorem dX11_shape_11 : decode cX11_shape 11 = .ok (.invokestatic 86, 3) := by decide +kernel
theorem dX11_shape_14 : decode cX11_shape 14 = .ok (.ifCond .ne 5, 3) := by decide +kernel
theorem dX11_shape_17 : decode cX11_shape 17 = .ok (.iconst (-1), 1) := by decide +kernel
theorem dX11_shape_18 : decode cX11_shape 18 = .ok (.ireturn, 1) := by decide +kernel
theorem dX11_shape_19 : decode cX11_shape 19 = .ok (.aload_n 0, 1) := by decide +kernel
theorem dX11_shape_20 : decode cX11_shape 20 = .ok (.getfield 15, 3) := by decide +kernel
theorem dX11_shape_23 : decode cX11_shape 23 = .ok (.iload_n 2, 1) := by decide +kernel
theorem dX11_shape_24 : decode cX11_shape 24 = .ok (.aaload, 1) := by decide +kernel
theorem dX11_shape_25 : decode cX11_shape 25 = .ok (.getfield 105, 3) := by decide +kernel
theorem dX11_shape_28 : decode cX11_shape 28 = .ok (.ifCond .ne 9, 3) := by decide +kernel
theorem dX11_shape_31 : decode cX11_shape 31 = .ok (.aload_n 0, 1) := by decide +kernel
theorem dX11_shape_32 : decode cX11_shape 32 = .ok (.iconst 1, 1) := by decide +kernel
theorem dX11_shape_33 : decode cX11_shape 33 = .ok (.invokevirtual 90, 3) := by decide +kernel
theorem dX11_shape_36 : decode cX11_shape 36 = .ok (.ireturn, 1) := by decide +kernel
theorem dX11_shape_37 : decode cX11_shape 37 = .ok (.aload_n 0, 1) := by decide +kernel
theorem dX11_shape_38 : decode cX11_shape 38 = .ok (.getfield 27, 3) := by decide +kernel
theorem dX11_shape_41 : decode cX11_shape 41 = .ok (.aload_n 0, 1) := by decide +kernel
theorem dX11_shape_42 : decode cX11_shape 42 = .ok (.getfield 15, 3) := by decide +kernel
theorem dX11_shape_45 : decode cX11_shape 45 = .ok (.iload_n 2, 1) := by decide +kernel
theorem dX11_shape_46 : decode cX11_shape 46 = .ok (.aaload, 1) := by decide +kernel
theorem dX11_shape_47 : decode cX11_shape 47 = .ok (.invokevirtual 121, 3) := by decide +kernel
theorem dX11_shape_50 : decode cX11_shape 50 = .ok (.bipush (-9), 2) := by decide +kernel
theorem dX11_shape_52 : decode cX11_shape 52 = .ok (.if_icmp .eq 6, 3) := by decide +kernel
theorem dX11_shape_55 : decode cX11_shape 55 = .ok (.bipush (-4), 2) := by decide +kernel
theorem dX11_shape_57 : decode cX11_shape 57 = .ok (.ireturn, 1) := by decide +kernel
theorem dX11_shape_58 : decode cX11_shape 58 = .ok (.aload_n 0, 1) := by decide +kernel
theorem dX11_shape_59 : decode cX11_shape 59 = .ok (.getfield 20, 3) := by decide +kernel
theorem dX11_shape_62 : decode cX11_shape 62 = .ok (.iload_n 1, 1) := by decide +kernel
theorem dX11_shape_63 : decode cX11_shape 63 = .ok (.aaload, 1) := by decide +kernel
theorem dX11_shape_64 : decode cX11_shape 64 = .ok (.aload_n 0, 1) := by decide +kernel
theorem dX11_shape_65 : decode cX11_shape 65 = .ok (.getfield 27, 3) := by decide +kernel
theorem dX11_shape_68 : decode cX11_shape 68 = .ok (.getfield 125, 3) := by decide +kernel
theorem dX11_shape_71 : decode cX11_shape 71 = .ok (.invokevirtual 129, 3) := by decide +kernel
theorem dX11_shape_74 : decode cX11_shape 74 = .ok (.aload_n 0, 1) := by decide +kernel
theorem dX11_shape_75 : decode cX11_shape 75 = .ok (.getfield 20, 3) := by decide +kernel
theorem dX11_shape_78 : decode cX11_shape 78 = .ok (.iload_n 1, 1) := by decide +kernel
theorem dX11_shape_79 : decode cX11_shape 79 = .ok (.aaload, 1) := by decide +kernel
theorem dX11_shape_80 : decode cX11_shape 80 = .ok (.getfield 133, 3) := by decide +kernel
theorem dX11_shape_83 : decode cX11_shape 83 = .ok (.ireturn, 1) := by decide +kernel
theorem dX11_item_0 : decode cX11_item 0 = .ok (.iload_n 1, 1) := by decide +kernel
theorem dX11_item_1 : decode cX11_item 1 = .ok (.iconst 4, 1) := by decide +kernel
theorem dX11_item_2 : decode cX11_item 2 = .ok (.invokestatic 86, 3) := by decide +kernel
theorem dX11_item_5 : decode cX11_item 5 = .ok (.ifCond .eq 12, 3) := by decide +kernel
theorem dX11_item_8 : decode cX11_item 8 = .ok (.iload_n 3, 1) := by decide +kernel
theorem dX11_item_9 : decode cX11_item 9 = .ok (.bipush 6, 2) := by decide +kernel
theorem dX11_item_11 : decode cX11_item 11 = .ok (.invokestatic 86, 3) := by decide +kernel
theorem dX11_item_14 : decode cX11_item 14 = .ok (.ifCond .ne 5, 3) := by decide +kernel
theorem dX11_item_17 : decode cX11_item 17 = .ok (.iconst (-1), 1) := by decide +kernel
theorem dX11_item_18 : decode cX11_item 18 = .ok (.ireturn, 1) := by decide +kernel
theorem dX11_item_19 : decode cX11_item 19 = .ok (.aload_n 0, 1) := by decide +kernel
theorem dX11_item_20 : decode cX11_item 20 = .ok (.getfield 20, 3) := by decide +kernel
theorem dX11_item_23 : decode cX11_item 23 = .ok (.iload_n 1, 1) := by decide +kernel
theorem dX11_item_24 : decode cX11_item 24 = .ok (.aaload, 1) := by decide +kernel
theorem dX11_item_25 : decode cX11_item 25 = .ok (.getfield 136, 3) := by decide +kernel
theorem dX11_item_28 : decode cX11_item 28 = .ok (.ifCond .ne 9, 3) := by decide +kernel
theorem dX11_item_31 : decode cX11_item 31 = .ok (.aload_n 0, 1) := by decide +kernel
theorem dX11_item_32 : decode cX11_item 32 = .ok (.iconst 1, 1) := by decide +kernel
theorem dX11_item_33 : decode cX11_item 33 = .ok (.invokevirtual 90, 3) := by decide +kernel
theorem dX11_item_36 : decode cX11_item 36 = .ok (.ireturn, 1) := by decide +kernel
theorem dX11_item_37 : decode cX11_item 37 = .ok (.iload_n 2, 1) := by decide +kernel
theorem dX11_item_38 : decode cX11_item 38 = .ok (.aload_n 0, 1) := by decide +kernel
theorem dX11_item_39 : decode cX11_item 39 = .ok (.getfield 20, 3) := by decide +kernel
theorem dX11_item_42 : decode cX11_item 42 = .ok (.iload_n 1, 1) := by decide +kernel
theorem dX11_item_43 : decode cX11_item 43 = .ok (.aaload, 1) := by decide +kernel
theorem dX11_item_44 : decode cX11_item 44 = .ok (.getfield 133, 3) := by decide +kernel
theorem dX11_item_47 : decode cX11_item 47 = .ok (.invokestatic 86, 3) := by decide +kernel
theorem dX11_item_50 : decode cX11_item 50 = .ok (.ifCond .ne 9, 3) := by decide +kernel
theorem dX11_item_53 : decode cX11_item 53 = .ok (.aload_n 0, 1) := by decide +kernel
theorem dX11_item_54 : decode cX11_item 54 = .ok (.iconst 2, 1) := by decide +kernel
theorem dX11_item_55 : decode cX11_item 55 = .ok (.invokevirtual 90, 3) := by decide +kernel
theorem dX11_item_58 : decode cX11_item 58 = .ok (.ireturn, 1) := by decide +kernel
theorem dX11_item_59 : decode cX11_item 59 = .ok (.aload_n 0, 1) := by decide +kernel
theorem dX11_item_60 : decode cX11_item 60 = .ok (.aload_n 0, 1) := by decide +kernel
theorem dX11_item_61 : decode cX11_item 61 = .ok (.getfield 20, 3) := by decide +kernel
theorem dX11_item_64 : decode cX11_item 64 = .ok (.iload_n 1, 1) := by decide +kernel
theorem dX11_item_65 : decode cX11_item 65 = .ok (.aaload, 1) := by decide +kernel
theorem dX11_item_66 : decode cX11_item 66 = .ok (.iload_n 2, 1) := by decide +kernel
theorem dX11_item_67 : decode cX11_item 67 = .ok (.iload_n 3, 1) := by decide +kernel
theorem dX11_item_68 : decode cX11_item 68 = .ok (.invokevirtual 137, 3) := by decide +kernel
theorem dX11_item_71 : decode cX11_item 71 = .ok (.putfield 72, 3) := by decide +kernel
theorem dX11_item_74 : decode cX11_item 74 = .ok (.iconst 1, 1) := by decide +kernel
theorem dX11_item_75 : decode cX11_item 75 = .ok (.ireturn, 1) := by decide +kernel
theorem dX11_fields_0 : decode cX11_fields 0 = .ok (.iload_n 1, 1) := by decide +kernel
theorem dX11_fields_1 : decode cX11_fields 1 = .ok (.iconst 4, 1) := by decide +kernel
theorem dX11_fields_2 : decode cX11_fields 2 = .ok (.invokestatic 86, 3) := by decide +kernel
theorem dX11_fields_5 : decode cX11_fields 5 = .ok (.ifCond .eq 12, 3) := by decide +kernel
theorem dX11_fields_8 : decode cX11_fields 8 = .ok (.iload_n 2, 1) := by decide +kernel
theorem dX11_fields_9 : decode cX11_fields 9 = .ok (.bipush 10, 2) := by decide +kernel
theorem dX11_fields_11 : decode cX11_fields 11 = .ok (.invokestatic 86, 3) := by decide +kernel
theorem dX11_fields_14 : decode cX11_fields 14 = .ok (.ifCond .ne 5, 3) := by decide +kernel
theorem dX11_fields_17 : decode cX11_fields 17 = .ok (.iconst (-1), 1) := by decide +kernel
theorem dX11_fields_18 : decode cX11_fields 18 = .ok (.ireturn, 1) := by decide +kernel
theorem dX11_fields_19 : decode cX11_fields 19 = .ok (.aload_n 0, 1) := by decide +kernel
theorem dX11_fields_20 : decode cX11_fields 20 = .ok (.getfield 20, 3) := by decide +kernel
theorem dX11_fields_23 : decode cX11_fields 23 = .ok (.iload_n 1, 1) := by decide +kernel
theorem dX11_fields_24 : decode cX11_fields 24 = .ok (.aaload, 1) := by decide +kernel
theorem dX11_fields_25 : decode cX11_fields 25 = .ok (.getfield 136, 3) := by decide +kernel
theorem dX11_fields_28 : decode cX11_fields 28 = .ok (.ifCond .ne 9, 3) := by decide +kernel
theorem dX11_fields_31 : decode cX11_fields 31 = .ok (.aload_n 0, 1) := by decide +kernel
theorem dX11_fields_32 : decode cX11_fields 32 = .ok (.iconst 1, 1) := by decide +kernel
theorem dX11_fields_33 : decode cX11_fields 33 = .ok (.invokevirtual 90, 3) := by decide +kernel
theorem dX11_fields_36 : decode cX11_fields 36 = .ok (.ireturn, 1) := by decide +kernel
theorem dX11_fields_37 : decode cX11_fields 37 = .ok (.aload_n 0, 1) := by decide +kernel
theorem dX11_fields_38 : decode cX11_fields 38 = .ok (.aload_n 0, 1) := by decide +kernel
theorem dX11_fields_39 : decode cX11_fields 39 = .ok (.getfield 20, 3) := by decide +kernel
theorem dX11_fields_42 : decode cX11_fields 42 = .ok (.iload_n 1, 1) := by decide +kernel
theorem dX11_fields_43 : decode cX11_fields 43 = .ok (.aaload, 1) := by decide +kernel
theorem dX11_fields_44 : decode cX11_fields 44 = .ok (.iload_n 2, 1) := by decide +kernel
theorem dX11_fields_45 : decode cX11_fields 45 = .ok (.invokevirtual 140, 3) := by decide +kernel
theorem dX11_fields_48 : decode cX11_fields 48 = .ok (.putfield 72, 3) := by decide +kernel
theorem dX11_fields_51 : decode cX11_fields 51 = .ok (.aload_n 0, 1) := by decide +kernel
theorem dX11_fields_52 : decode cX11_fields 52 = .ok (.getfield 20, 3) := by decide +kernel
theorem dX11_fields_55 : decode cX11_fields 55 = .ok (.iload_n 1, 1) := by decide +kernel
theorem dX11_fields_56 : decode cX11_fields 56 = .ok (.aaload, 1) := by decide +kernel
theorem dX11_fields_57 : decode cX11_fields 57 = .ok (.iload_n 2, 1) := by decide +kernel
theorem dX11_fields_58 : decode cX11_fields 58 = .ok (.invokevirtual 143, 3) := by decide +kernel
theorem dX11_fields_61 : decode cX11_fields 61 = .ok (.ireturn, 1) := by decide +kernel
theorem dX11_write_0 : decode cX11_write 0 = .ok (.iload_n 1, 1) := by decide +kernel
theorem dX11_write_1 : decode cX11_write 1 = .ok (.iconst 4, 1) := by decide +kernel
theorem dX11_write_2 : decode cX11_write 2 = .ok (.invokestatic 86, 3) := by decide +kernel
theorem dX11_write_5 : decode cX11_write 5 = .ok (.ifCond .eq 31, 3) := by decide +kernel
theorem dX11_write_8 : decode cX11_write 8 = .ok (.iload_n 2, 1) := by decide +kernel
theorem dX11_write_9 : decode cX11_write 9 = .ok (.bipush 10, 2) := by decide +kernel
theorem dX11_write_11 : decode cX11_write 11 = .ok (.invokestatic 86, 3) := by decide +kernel
theorem dX11_write_14 : decode cX11_write 14 = .ok (.ifCond .eq 22, 3) := by decide +kernel
theorem dX11_write_17 : decode cX11_write 17 = .ok (.iload_n 3, 1) := by decide +kernel
theorem dX11_write_18 : decode cX11_write 18 = .ok (.bipush 6, 2) := by decide +kernel
theorem dX11_write_20 : decode cX11_write 20 = .ok (.invokestatic 86, 3) := by decide +kernel
theorem dX11_write_23 : decode cX11_write 23 = .ok (.ifCond .eq 13, 3) := by decide +kernel
theorem dX11_write_26 : decode cX11_write 26 = .ok (.iload 4, 2) := by decide +kernel
theorem dX11_write_28 : decode cX11_write 28 = .ok (.bipush 6, 2) := by decide +kernel
theorem dX11_write_30 : decode cX11_write 30 = .ok (.invokestatic 86, 3) := by decide +kernel
theorem dX11_write_33 : decode cX11_write 33 = .ok (.ifCond .ne 5, 3) := by decide +kernel
theorem dX11_write_36 : decode cX11_write 36 = .ok (.iconst (-1), 1) := by decide +kernel
theorem dX11_write_37 : decode cX11_write 37 = .ok (.ireturn, 1) := by decide +kernel
theorem dX11_write_38 : decode cX11_write 38 = .ok (.aload_n 0, 1) := by decide +kernel
theorem dX11_write_39 : decode cX11_write 39 = .ok (.getfield 20, 3) := by decide +kernel
theorem dX11_write_42 : decode cX11_write 42 = .ok (.iload_n 1, 1) := by decide +kernel
theorem dX11_write_43 : decode cX11_write 43 = .ok (.aaload, 1) := by decide +kernel
theorem dX11_write_44 : decode cX11_write 44 = .ok (.getfield 136, 3) := by decide +kernel
theorem dX11_write_47 : decode cX11_write 47 = .ok (.ifCond .eq 15, 3) := by decide +kernel
theorem dX11_write_50 : decode cX11_write 50 = .ok (.aload_n 0, 1) := by decide +kernel
theorem dX11_write_51 : decode cX11_write 51 = .ok (.getfield 11, 3) := by decide +kernel
theorem dX11_write_54 : decode cX11_write 54 = .ok (.iload_n 3, 1) := by decide +kernel
theorem dX11_write_55 : decode cX11_write 55 = .ok (.aaload, 1) := by decide +kernel
theorem dX11_write_56 : decode cX11_write 56 = .ok (.getfield 105, 3) := by decide +kernel
theorem dX11_write_59 : decode cX11_write 59 = .ok (.ifCond .ne 9, 3) := by decide +kernel
theorem dX11_write_62 : decode cX11_write 62 = .ok (.aload_n 0, 1) := by decide +kernel
theorem dX11_write_63 : decode cX11_write 63 = .ok (.iconst 1, 1) := by decide +kernel
theorem dX11_write_64 : decode cX11_write 64 = .ok (.invokevirtual 90, 3) := by decide +kernel
theorem dX11_write_67 : decode cX11_write 67 = .ok (.ireturn, 1) := by decide +kernel
theorem dX11_write_68 : decode cX11_write 68 = .ok (.aload_n 0, 1) := by decide +kernel
theorem dX11_write_69 : decode cX11_write 69 = .ok (.getfield 34, 3) := by decide +kernel
theorem dX11_write_72 : decode cX11_write 72 = .ok (.aload_n 0, 1) := by decide +kernel
